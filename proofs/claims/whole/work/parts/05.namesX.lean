set_option maxRecDepth 20000 in
theorem ggX0_init_X5_init : GoodIn wsX0_init wsX5_init := goodIn_r _ [16, 17, 2, 3, 18, 19, 20, 21, 22, 23, 24, 25, 26, 27, 28, 29, 30, 31, 32, 33, 34, 38, 46, 47, 48, 49, 50, 51] (by decide +kernel) (by decide +kernel)
set_option maxRecDepth 20000 in
theorem gX0_init_X5_init : GoodIn wsX0_init (wsX5_init) := ggX0_init_X5_init
set_option maxRecDepth 20000 in
theorem ggX0_init_X1_init : GoodIn wsX0_init wsX1_init := goodIn_r _ [36, 37, 2, 3] (by decide +kernel) (by decide +kernel)
set_option maxRecDepth 20000 in
theorem gX0_init_X1_init_n22 : GoodIn wsX0_init (wsX1_init) := ggX0_init_X1_init
theorem dX0_init_0 : decode cX0_init 0 = .ok (.aload_n 0, 1) := by decide +kernel
theorem dX0_init_1 : decode cX0_init 1 = .ok (.invokespecial 3, 3) := by decide +kernel
theorem dX0_init_4 : decode cX0_init 4 = .ok (.aload_n 0, 1) := by decide +kernel
theorem dX0_init_5 : decode cX0_init 5 = .ok (.new 9, 3) := by decide +kernel
theorem dX0_init_8 : decode cX0_init 8 = .ok (.dup, 1) := by decide +kernel
theorem dX0_init_9 : decode cX0_init 9 = .ok (.iconst 4, 1) := by decide +kernel
theorem dX0_init_10 : decode cX0_init 10 = .ok (.invokespecial 11, 3) := by decide +kernel
theorem dX0_init_13 : decode cX0_init 13 = .ok (.putfield 14, 3) := by decide +kernel
theorem dX0_init_16 : decode cX0_init 16 = .ok (.aload_n 0, 1) := by decide +kernel
theorem dX0_init_17 : decode cX0_init 17 = .ok (.new 20, 3) := by decide +kernel
theorem dX0_init_20 : decode cX0_init 20 = .ok (.dup, 1) := by decide +kernel
theorem dX0_init_21 : decode cX0_init 21 = .ok (.invokespecial 22, 3) := by decide +kernel
theorem dX0_init_24 : decode cX0_init 24 = .ok (.putfield 23, 3) := by decide +kernel
theorem dX0_init_27 : decode cX0_init 27 = .ok (.aload_n 0, 1) := by decide +kernel
theorem dX0_init_28 : decode cX0_init 28 = .ok (.new 20, 3) := by decide +kernel
theorem dX0_init_31 : decode cX0_init 31 = .ok (.dup, 1) := by decide +kernel
theorem dX0_init_32 : decode cX0_init 32 = .ok (.invokespecial 22, 3) := by decide +kernel
theorem dX0_init_35 : decode cX0_init 35 = .ok (.putfield 27, 3) := by decide +kernel
theorem dX0_init_38 : decode cX0_init 38 = .ok (.aload_n 0, 1) := by decide +kernel
theorem dX0_init_39 : decode cX0_init 39 = .ok (.new 20, 3) := by decide +kernel
theorem dX0_init_42 : decode cX0_init 42 = .ok (.dup, 1) := by decide +kernel
theorem dX0_init_43 : decode cX0_init 43 = .ok (.invokespecial 22, 3) := by decide +kernel
theorem dX0_init_46 : decode cX0_init 46 = .ok (.putfield 30, 3) := by decide +kernel
theorem dX0_init_49 : decode cX0_init 49 = .ok (.return_, 1) := by decide +kernel
set_option maxRecDepth 20000 in
theorem ggX0_tryAll_X1_clear : GoodIn wsX0_tryAll wsX1_clear := goodIn_r _ [9, 10, 11, 12, 106, 107] (by decide +kernel) (by decide +kernel)
set_option maxRecDepth 20000 in
theorem gX0_tryAll_X1_clear : GoodIn wsX0_tryAll (wsV RX0 37 RX1 yX1_clear wsX1_clear) := goodIn_app (goodIn_of _ (by decide +kernel)) ggX0_tryAll_X1_clear
set_option maxRecDepth 20000 in
theorem ggX0_tryAll_X5_put : GoodIn wsX0_tryAll wsX5_put := goodIn_r _ [17, 18, 19, 20, 16, 21, 22, 23, 24, 25, 26, 27, 28, 29, 30, 31, 32, 33, 34, 35, 36, 37, 38, 39, 40, 41, 42, 43, 44, 45, 108, 109, 110, 111, 112, 113, 114] (by decide +kernel) (by decide +kernel)
set_option maxRecDepth 20000 in
theorem gX0_tryAll_X5_put : GoodIn wsX0_tryAll (wsV RX0 40 RX5 yX5_put wsX5_put) := goodIn_app (goodIn_of _ (by decide +kernel)) ggX0_tryAll_X5_put
set_option maxRecDepth 20000 in
theorem ggX0_tryAll_X0_tryLook : GoodIn wsX0_tryAll wsX0_tryLook := goodIn_r _ [50, 4, 1, 51, 52, 53, 19, 20, 16, 21, 22, 54, 55, 56, 26, 57, 58, 59, 60, 61, 31, 62, 63, 64, 65, 66, 67, 68, 69, 70, 71, 34, 35, 36, 37, 28, 72, 73, 74, 75, 76, 77, 78, 79, 80, 81, 8, 82, 11, 12, 83, 24, 25, 27, 29, 30, 32, 33, 38, 39, 40, 41, 42, 43, 44, 45, 84, 85, 86, 87, 88, 89, 90, 91, 92, 93, 94, 95, 96, 97, 98, 99, 100, 46, 47, 48, 49, 101, 102, 103, 104, 105, 108, 109, 110, 111, 112, 113, 114, 115, 116, 117, 118, 119, 120, 121, 122, 123, 106, 107] (by decide +kernel) (by decide +kernel)
set_option maxRecDepth 20000 in
theorem gX0_tryAll_X0_tryLook : GoodIn wsX0_tryAll (wsV RX0 44 RX0 yX0_tryLook wsX0_tryLook) := goodIn_app (goodIn_of _ (by decide +kernel)) ggX0_tryAll_X0_tryLook
theorem dX0_tryAll_0 : decode cX0_tryAll 0 = .ok (.aload_n 0, 1) := by decide +kernel
theorem dX0_tryAll_1 : decode cX0_tryAll 1 = .ok (.iload_n 3, 1) := by decide +kernel
theorem dX0_tryAll_2 : decode cX0_tryAll 2 = .ok (.putfield 33, 3) := by decide +kernel
theorem dX0_tryAll_5 : decode cX0_tryAll 5 = .ok (.aload_n 0, 1) := by decide +kernel
theorem dX0_tryAll_6 : decode cX0_tryAll 6 = .ok (.getfield 23, 3) := by decide +kernel
theorem dX0_tryAll_9 : decode cX0_tryAll 9 = .ok (.invokevirtual 37, 3) := by decide +kernel
theorem dX0_tryAll_12 : decode cX0_tryAll 12 = .ok (.aload_n 0, 1) := by decide +kernel
theorem dX0_tryAll_13 : decode cX0_tryAll 13 = .ok (.getfield 27, 3) := by decide +kernel
theorem dX0_tryAll_16 : decode cX0_tryAll 16 = .ok (.invokevirtual 37, 3) := by decide +kernel
theorem dX0_tryAll_19 : decode cX0_tryAll 19 = .ok (.aload_n 0, 1) := by decide +kernel
theorem dX0_tryAll_20 : decode cX0_tryAll 20 = .ok (.getfield 14, 3) := by decide +kernel
theorem dX0_tryAll_23 : decode cX0_tryAll 23 = .ok (.iconst 0, 1) := by decide +kernel
theorem dX0_tryAll_24 : decode cX0_tryAll 24 = .ok (.aload_n 2, 1) := by decide +kernel
theorem dX0_tryAll_25 : decode cX0_tryAll 25 = .ok (.invokevirtual 40, 3) := by decide +kernel
theorem dX0_tryAll_28 : decode cX0_tryAll 28 = .ok (.iconst 0, 1) := by decide +kernel
theorem dX0_tryAll_29 : decode cX0_tryAll 29 = .ok (.istore 4, 2) := by decide +kernel
theorem dX0_tryAll_31 : decode cX0_tryAll 31 = .ok (.iload 4, 2) := by decide +kernel
theorem dX0_tryAll_33 : decode cX0_tryAll 33 = .ok (.iconst 3, 1) := by decide +kernel
theorem dX0_tryAll_34 : decode cX0_tryAll 34 = .ok (.if_icmp .gt 36, 3) := by decide +kernel
theorem dX0_tryAll_37 : decode cX0_tryAll 37 = .ok (.aload_n 0, 1) := by decide +kernel
theorem dX0_tryAll_38 : decode cX0_tryAll 38 = .ok (.aload_n 1, 1) := by decide +kernel
theorem dX0_tryAll_39 : decode cX0_tryAll 39 = .ok (.iconst 0, 1) := by decide +kernel
theorem dX0_tryAll_40 : decode cX0_tryAll 40 = .ok (.iload 4, 2) := by decide +kernel
theorem dX0_tryAll_42 : decode cX0_tryAll 42 = .ok (.iconst 0, 1) := by decide +kernel
theorem dX0_tryAll_43 : decode cX0_tryAll 43 = .ok (.lconst 0, 1) := by decide +kernel
theorem dX0_tryAll_44 : decode cX0_tryAll 44 = .ok (.iload 4, 2) := by decide +kernel
theorem dX0_tryAll_46 : decode cX0_tryAll 46 = .ok (.iconst 3, 1) := by decide +kernel
theorem dX0_tryAll_47 : decode cX0_tryAll 47 = .ok (.if_icmp .ne 10, 3) := by decide +kernel
theorem dX0_tryAll_50 : decode cX0_tryAll 50 = .ok (.aload_n 0, 1) := by decide +kernel
theorem dX0_tryAll_51 : decode cX0_tryAll 51 = .ok (.getfield 27, 3) := by decide +kernel
theorem dX0_tryAll_54 : decode cX0_tryAll 54 = .ok (.goto 7, 3) := by decide +kernel
theorem dX0_tryAll_57 : decode cX0_tryAll 57 = .ok (.aload_n 0, 1) := by decide +kernel
theorem dX0_tryAll_58 : decode cX0_tryAll 58 = .ok (.getfield 23, 3) := by decide +kernel
theorem dX0_tryAll_61 : decode cX0_tryAll 61 = .ok (.invokevirtual 44, 3) := by decide +kernel
theorem dX0_tryAll_64 : decode cX0_tryAll 64 = .ok (.iinc 4 1, 3) := by decide +kernel
theorem dX0_tryAll_67 : decode cX0_tryAll 67 = .ok (.goto (-36), 3) := by decide +kernel
theorem dX0_tryAll_70 : decode cX0_tryAll 70 = .ok (.return_, 1) := by decide +kernel
theorem dX0_likelier_0 : decode cX0_likelier 0 = .ok (.aload_n 0, 1) := by decide +kernel
theorem dX0_likelier_1 : decode cX0_likelier 1 = .ok (.getfield 27, 3) := by decide +kernel
theorem dX0_likelier_4 : decode cX0_likelier 4 = .ok (.getfield 48, 3) := by decide +kernel
theorem dX0_likelier_7 : decode cX0_likelier 7 = .ok (.aload_n 0, 1) := by decide +kernel
theorem dX0_likelier_8 : decode cX0_likelier 8 = .ok (.getfield 23, 3) := by decide +kernel
theorem dX0_likelier_11 : decode cX0_likelier 11 = .ok (.getfield 48, 3) := by decide +kernel
theorem dX0_likelier_14 : decode cX0_likelier 14 = .ok (.lcmp, 1) := by decide +kernel
theorem dX0_likelier_15 : decode cX0_likelier 15 = .ok (.ifCond .le 10, 3) := by decide +kernel
theorem dX0_likelier_18 : decode cX0_likelier 18 = .ok (.aload_n 0, 1) := by decide +kernel
theorem dX0_likelier_19 : decode cX0_likelier 19 = .ok (.getfield 27, 3) := by decide +kernel
theorem dX0_likelier_22 : decode cX0_likelier 22 = .ok (.goto 7, 3) := by decide +kernel
theorem dX0_likelier_25 : decode cX0_likelier 25 = .ok (.aload_n 0, 1) := by decide +kernel
theorem dX0_likelier_26 : decode cX0_likelier 26 = .ok (.getfield 23, 3) := by decide +kernel
theorem dX0_likelier_29 : decode cX0_likelier 29 = .ok (.areturn, 1) := by decide +kernel
set_option maxRecDepth 20000 in
theorem ggX0_tryLook_X5_at : GoodIn wsX0_tryLook wsX5_at := goodIn_r _ [9, 10, 92] (by decide +kernel) (by decide +kernel)
set_option maxRecDepth 20000 in
theorem gX0_tryLook_X5_at : GoodIn wsX0_tryLook (wsV RX0 52 RX5 yX5_at wsX5_at) := goodIn_app (goodIn_of _ (by decide +kernel)) ggX0_tryLook_X5_at
set_option maxRecDepth 20000 in
theorem ggX0_tryLook_X4_foundNow : GoodIn wsX0_tryLook wsX4_foundNow := goodIn_r _ [15, 16, 17, 18, 14, 19, 20, 21, 22, 23, 24, 25, 26, 27, 28, 29, 30, 31, 32, 33, 34, 35, 36, 37, 38, 39, 40, 41, 42, 93, 94, 95, 96, 97, 98, 99, 100, 101, 102, 103, 104, 105, 106, 107] (by decide +kernel) (by decide +kernel)
set_option maxRecDepth 20000 in
theorem gX0_tryLook_X4_foundNow : GoodIn wsX0_tryLook (wsV RX0 58 RX4 yX4_foundNow wsX4_foundNow) := goodIn_app (goodIn_of _ (by decide +kernel)) ggX0_tryLook_X4_foundNow
set_option maxRecDepth 20000 in
theorem ggX0_tryLook_X1_offer : GoodIn wsX0_tryLook wsX1_offer := goodIn_r _ [47, 48, 49, 108, 109] (by decide +kernel) (by decide +kernel)
set_option maxRecDepth 20000 in
theorem gX0_tryLook_X1_offer : GoodIn wsX0_tryLook (wsV RX0 66 RX1 yX1_offer wsX1_offer) := goodIn_app (goodIn_of _ (by decide +kernel)) ggX0_tryLook_X1_offer
set_option maxRecDepth 20000 in
theorem ggX0_tryLook_X4_copy : GoodIn wsX0_tryLook wsX4_copy := goodIn_r _ [53, 35, 54, 55, 20, 56, 57, 31, 32, 33, 14, 34, 58, 59, 60, 61, 62, 63, 64, 65, 93, 94, 95, 96, 97, 98] (by decide +kernel) (by decide +kernel)
set_option maxRecDepth 20000 in
theorem gX0_tryLook_X4_copy : GoodIn wsX0_tryLook (wsV RX0 70 RX4 yX4_copy wsX4_copy) := goodIn_app (goodIn_of _ (by decide +kernel)) ggX0_tryLook_X4_copy
set_option maxRecDepth 20000 in
theorem ggX0_tryLook_X4_act : GoodIn wsX0_tryLook wsX4_act := goodIn_r _ [69, 70, 71, 72, 14, 73, 20, 16, 17, 18, 19, 21, 22, 23, 24, 25, 26, 27, 28, 29, 30, 36, 37, 38, 39, 40, 41, 42, 74, 75, 76, 77, 35, 78, 79, 80, 81, 82, 56, 31, 32, 33, 34, 93, 94, 95, 96, 97, 98, 99, 100, 101, 102, 103, 104, 105, 106, 107] (by decide +kernel) (by decide +kernel)
set_option maxRecDepth 20000 in
theorem gX0_tryLook_X4_act : GoodIn wsX0_tryLook (wsV RX0 74 RX4 yX4_act wsX4_act) := goodIn_app (goodIn_of _ (by decide +kernel)) ggX0_tryLook_X4_act
set_option maxRecDepth 20000 in
theorem ggX0_tryLook_X0_tryLook : GoodIn wsX0_tryLook wsX0_tryLook := goodIn_r _ [0, 1, 2, 3, 4, 5, 6, 7, 8, 9, 10, 11, 12, 13, 14, 15, 16, 17, 18, 19, 20, 21, 22, 23, 24, 25, 26, 27, 28, 29, 30, 31, 32, 33, 34, 35, 36, 37, 38, 39, 40, 41, 42, 43, 44, 45, 46, 47, 48, 49, 50, 51, 52, 53, 54, 55, 56, 57, 58, 59, 60, 61, 62, 63, 64, 65, 66, 67, 68, 69, 70, 71, 72, 73, 74, 75, 76, 77, 78, 79, 80, 81, 82, 83, 84, 85, 86, 87, 88, 89, 90, 91, 92, 93, 94, 95, 96, 97, 98, 99, 100, 101, 102, 103, 104, 105, 106, 107, 108, 109] (by decide +kernel) (by decide +kernel)
set_option maxRecDepth 20000 in
theorem gX0_tryLook_X0_tryLook : GoodIn wsX0_tryLook (wsV RX0 44 RX0 yX0_tryLook wsX0_tryLook) := goodIn_app (goodIn_of _ (by decide +kernel)) ggX0_tryLook_X0_tryLook
theorem dX0_tryLook_0 : decode cX0_tryLook 0 = .ok (.aload_n 0, 1) := by decide +kernel
theorem dX0_tryLook_1 : decode cX0_tryLook 1 = .ok (.getfield 14, 3) := by decide +kernel
theorem dX0_tryLook_4 : decode cX0_tryLook 4 = .ok (.iload_n 2, 1) := by decide +kernel
theorem dX0_tryLook_5 : decode cX0_tryLook 5 = .ok (.invokevirtual 52, 3) := by decide +kernel
theorem dX0_tryLook_8 : decode cX0_tryLook 8 = .ok (.astore 8, 2) := by decide +kernel
theorem dX0_tryLook_10 : decode cX0_tryLook 10 = .ok (.aload 8, 2) := by decide +kernel
theorem dX0_tryLook_12 : decode cX0_tryLook 12 = .ok (.ifnull 11, 3) := by decide +kernel
theorem dX0_tryLook_15 : decode cX0_tryLook 15 = .ok (.iload_n 2, 1) := by decide +kernel
theorem dX0_tryLook_16 : decode cX0_tryLook 16 = .ok (.aload_n 0, 1) := by decide +kernel
theorem dX0_tryLook_17 : decode cX0_tryLook 17 = .ok (.getfield 33, 3) := by decide +kernel
theorem dX0_tryLook_20 : decode cX0_tryLook 20 = .ok (.if_icmp .lt 4, 3) := by decide +kernel
theorem dX0_tryLook_23 : decode cX0_tryLook 23 = .ok (.return_, 1) := by decide +kernel
theorem dX0_tryLook_24 : decode cX0_tryLook 24 = .ok (.iload 4, 2) := by decide +kernel
theorem dX0_tryLook_26 : decode cX0_tryLook 26 = .ok (.bipush 10, 2) := by decide +kernel
theorem dX0_tryLook_28 : decode cX0_tryLook 28 = .ok (.imul, 1) := by decide +kernel
theorem dX0_tryLook_29 : decode cX0_tryLook 29 = .ok (.iload_n 3, 1) := by decide +kernel
theorem dX0_tryLook_30 : decode cX0_tryLook 30 = .ok (.iadd, 1) := by decide +kernel
theorem dX0_tryLook_31 : decode cX0_tryLook 31 = .ok (.istore 9, 2) := by decide +kernel
theorem dX0_tryLook_33 : decode cX0_tryLook 33 = .ok (.lload 5, 2) := by decide +kernel
theorem dX0_tryLook_35 : decode cX0_tryLook 35 = .ok (.ldc2_w 56, 3) := by decide +kernel
theorem dX0_tryLook_38 : decode cX0_tryLook 38 = .ok (.lmul, 1) := by decide +kernel
theorem dX0_tryLook_39 : decode cX0_tryLook 39 = .ok (.aload 8, 2) := by decide +kernel
theorem dX0_tryLook_41 : decode cX0_tryLook 41 = .ok (.aload_n 1, 1) := by decide +kernel
theorem dX0_tryLook_42 : decode cX0_tryLook 42 = .ok (.iload_n 3, 1) := by decide +kernel
theorem dX0_tryLook_43 : decode cX0_tryLook 43 = .ok (.invokevirtual 58, 3) := by decide +kernel
theorem dX0_tryLook_46 : decode cX0_tryLook 46 = .ok (.ldc2_w 64, 3) := by decide +kernel
theorem dX0_tryLook_49 : decode cX0_tryLook 49 = .ok (.lmul, 1) := by decide +kernel
theorem dX0_tryLook_50 : decode cX0_tryLook 50 = .ok (.ladd, 1) := by decide +kernel
theorem dX0_tryLook_51 : decode cX0_tryLook 51 = .ok (.lstore 10, 2) := by decide +kernel
theorem dX0_tryLook_53 : decode cX0_tryLook 53 = .ok (.iload_n 2, 1) := by decide +kernel
theorem dX0_tryLook_54 : decode cX0_tryLook 54 = .ok (.iconst 1, 1) := by decide +kernel
theorem dX0_tryLook_55 : decode cX0_tryLook 55 = .ok (.iadd, 1) := by decide +kernel
theorem dX0_tryLook_56 : decode cX0_tryLook 56 = .ok (.aload_n 0, 1) := by decide +kernel
theorem dX0_tryLook_57 : decode cX0_tryLook 57 = .ok (.getfield 33, 3) := by decide +kernel
theorem dX0_tryLook_60 : decode cX0_tryLook 60 = .ok (.if_icmp .ne 13, 3) := by decide +kernel
theorem dX0_tryLook_63 : decode cX0_tryLook 63 = .ok (.aload 7, 2) := by decide +kernel
theorem dX0_tryLook_65 : decode cX0_tryLook 65 = .ok (.lload 10, 2) := by decide +kernel
theorem dX0_tryLook_67 : decode cX0_tryLook 67 = .ok (.iload 9, 2) := by decide +kernel
theorem dX0_tryLook_69 : decode cX0_tryLook 69 = .ok (.invokevirtual 66, 3) := by decide +kernel
theorem dX0_tryLook_72 : decode cX0_tryLook 72 = .ok (.return_, 1) := by decide +kernel
theorem dX0_tryLook_73 : decode cX0_tryLook 73 = .ok (.aload_n 0, 1) := by decide +kernel
theorem dX0_tryLook_74 : decode cX0_tryLook 74 = .ok (.getfield 14, 3) := by decide +kernel
theorem dX0_tryLook_77 : decode cX0_tryLook 77 = .ok (.iload_n 2, 1) := by decide +kernel
theorem dX0_tryLook_78 : decode cX0_tryLook 78 = .ok (.iconst 1, 1) := by decide +kernel
theorem dX0_tryLook_79 : decode cX0_tryLook 79 = .ok (.iadd, 1) := by decide +kernel
theorem dX0_tryLook_80 : decode cX0_tryLook 80 = .ok (.invokevirtual 52, 3) := by decide +kernel
theorem dX0_tryLook_83 : decode cX0_tryLook 83 = .ok (.astore 12, 2) := by decide +kernel
theorem dX0_tryLook_85 : decode cX0_tryLook 85 = .ok (.aload 12, 2) := by decide +kernel
theorem dX0_tryLook_87 : decode cX0_tryLook 87 = .ok (.ifnonnull 4, 3) := by decide +kernel
theorem dX0_tryLook_90 : decode cX0_tryLook 90 = .ok (.return_, 1) := by decide +kernel
theorem dX0_tryLook_91 : decode cX0_tryLook 91 = .ok (.aload 12, 2) := by decide +kernel
theorem dX0_tryLook_93 : decode cX0_tryLook 93 = .ok (.aload 8, 2) := by decide +kernel
theorem dX0_tryLook_95 : decode cX0_tryLook 95 = .ok (.invokevirtual 70, 3) := by decide +kernel
theorem dX0_tryLook_98 : decode cX0_tryLook 98 = .ok (.aload 12, 2) := by decide +kernel
theorem dX0_tryLook_100 : decode cX0_tryLook 100 = .ok (.aload_n 1, 1) := by decide +kernel
theorem dX0_tryLook_101 : decode cX0_tryLook 101 = .ok (.iload_n 3, 1) := by decide +kernel
theorem dX0_tryLook_102 : decode cX0_tryLook 102 = .ok (.invokevirtual 74, 3) := by decide +kernel
theorem dX0_tryLook_105 : decode cX0_tryLook 105 = .ok (.iconst 0, 1) := by decide +kernel
theorem dX0_tryLook_106 : decode cX0_tryLook 106 = .ok (.istore 13, 2) := by decide +kernel
theorem dX0_tryLook_108 : decode cX0_tryLook 108 = .ok (.iload 13, 2) := by decide +kernel
theorem dX0_tryLook_110 : decode cX0_tryLook 110 = .ok (.iconst 3, 1) := by decide +kernel
theorem dX0_tryLook_111 : decode cX0_tryLook 111 = .ok (.if_icmp .gt 25, 3) := by decide +kernel
theorem dX0_tryLook_114 : decode cX0_tryLook 114 = .ok (.aload_n 0, 1) := by decide +kernel
theorem dX0_tryLook_115 : decode cX0_tryLook 115 = .ok (.aload_n 1, 1) := by decide +kernel
theorem dX0_tryLook_116 : decode cX0_tryLook 116 = .ok (.iload_n 2, 1) := by decide +kernel
theorem dX0_tryLook_117 : decode cX0_tryLook 117 = .ok (.iconst 1, 1) := by decide +kernel
theorem dX0_tryLook_118 : decode cX0_tryLook 118 = .ok (.iadd, 1) := by decide +kernel
theorem dX0_tryLook_119 : decode cX0_tryLook 119 = .ok (.iload 13, 2) := by decide +kernel
theorem dX0_tryLook_121 : decode cX0_tryLook 121 = .ok (.iload 9, 2) := by decide +kernel
theorem dX0_tryLook_123 : decode cX0_tryLook 123 = .ok (.lload 10, 2) := by decide +kernel
theorem dX0_tryLook_125 : decode cX0_tryLook 125 = .ok (.aload 7, 2) := by decide +kernel
theorem dX0_tryLook_127 : decode cX0_tryLook 127 = .ok (.invokevirtual 44, 3) := by decide +kernel
theorem dX0_tryLook_130 : decode cX0_tryLook 130 = .ok (.iinc 13 1, 3) := by decide +kernel
theorem dX0_tryLook_133 : decode cX0_tryLook 133 = .ok (.goto (-25), 3) := by decide +kernel
theorem dX0_tryLook_136 : decode cX0_tryLook 136 = .ok (.return_, 1) := by decide +kernel
set_option maxRecDepth 20000 in
theorem ggX0_tryTogether_X1_clear : GoodIn wsX0_tryTogether wsX1_clear := goodIn_r _ [8, 9, 10, 11, 112, 113] (by decide +kernel) (by decide +kernel)
set_option maxRecDepth 20000 in
theorem gX0_tryTogether_X1_clear : GoodIn wsX0_tryTogether (wsV RX0 37 RX1 yX1_clear wsX1_clear) := goodIn_app (goodIn_of _ (by decide +kernel)) ggX0_tryTogether_X1_clear
set_option maxRecDepth 20000 in
theorem ggX0_tryTogether_X5_put : GoodIn wsX0_tryTogether wsX5_put := goodIn_r _ [16, 17, 18, 19, 15, 20, 21, 22, 23, 24, 25, 26, 27, 28, 29, 30, 31, 32, 33, 34, 35, 36, 37, 38, 39, 40, 41, 42, 43, 44, 114, 115, 116, 117, 118, 119, 120] (by decide +kernel) (by decide +kernel)
set_option maxRecDepth 20000 in
theorem gX0_tryTogether_X5_put : GoodIn wsX0_tryTogether (wsV RX0 40 RX5 yX5_put wsX5_put) := goodIn_app (goodIn_of _ (by decide +kernel)) ggX0_tryTogether_X5_put
set_option maxRecDepth 20000 in
theorem ggX0_tryTogether_X0_tryBoth : GoodIn wsX0_tryTogether wsX0_tryBoth := goodIn_r _ [49, 3, 1, 50, 51, 52, 2, 53, 18, 19, 15, 20, 21, 54, 55, 56, 57, 58, 59, 60, 61, 62, 63, 64, 23, 24, 25, 26, 27, 28, 29, 30, 31, 32, 33, 34, 35, 36, 37, 38, 39, 40, 41, 42, 43, 44, 65, 66, 67, 68, 69, 70, 71, 72, 73, 74, 75, 76, 77, 78, 79, 80, 81, 82, 83, 84, 85, 86, 87, 88, 89, 90, 91, 92, 7, 93, 10, 11, 94, 95, 96, 97, 45, 46, 47, 48, 98, 99, 100, 101, 102, 115, 116, 117, 118, 119, 120, 103, 104, 105, 106, 107, 108, 109, 110, 111, 114, 112, 113] (by decide +kernel) (by decide +kernel)
set_option maxRecDepth 20000 in
theorem gX0_tryTogether_X0_tryBoth : GoodIn wsX0_tryTogether (wsV RX0 83 RX0 yX0_tryBoth wsX0_tryBoth) := goodIn_app (goodIn_of _ (by decide +kernel)) ggX0_tryTogether_X0_tryBoth
theorem dX0_tryTogether_0 : decode cX0_tryTogether 0 = .ok (.aload_n 0, 1) := by decide +kernel
theorem dX0_tryTogether_1 : decode cX0_tryTogether 1 = .ok (.iload_n 3, 1) := by decide +kernel
theorem dX0_tryTogether_2 : decode cX0_tryTogether 2 = .ok (.putfield 33, 3) := by decide +kernel
theorem dX0_tryTogether_5 : decode cX0_tryTogether 5 = .ok (.aload_n 0, 1) := by decide +kernel
theorem dX0_tryTogether_6 : decode cX0_tryTogether 6 = .ok (.getfield 30, 3) := by decide +kernel
theorem dX0_tryTogether_9 : decode cX0_tryTogether 9 = .ok (.invokevirtual 37, 3) := by decide +kernel
theorem dX0_tryTogether_12 : decode cX0_tryTogether 12 = .ok (.aload_n 0, 1) := by decide +kernel
theorem dX0_tryTogether_13 : decode cX0_tryTogether 13 = .ok (.getfield 14, 3) := by decide +kernel
theorem dX0_tryTogether_16 : decode cX0_tryTogether 16 = .ok (.iconst 0, 1) := by decide +kernel
theorem dX0_tryTogether_17 : decode cX0_tryTogether 17 = .ok (.aload_n 2, 1) := by decide +kernel
theorem dX0_tryTogether_18 : decode cX0_tryTogether 18 = .ok (.invokevirtual 40, 3) := by decide +kernel
theorem dX0_tryTogether_21 : decode cX0_tryTogether 21 = .ok (.aload_n 0, 1) := by decide +kernel
theorem dX0_tryTogether_22 : decode cX0_tryTogether 22 = .ok (.aload_n 1, 1) := by decide +kernel
theorem dX0_tryTogether_23 : decode cX0_tryTogether 23 = .ok (.iconst 0, 1) := by decide +kernel
theorem dX0_tryTogether_24 : decode cX0_tryTogether 24 = .ok (.aload_n 1, 1) := by decide +kernel
theorem dX0_tryTogether_25 : decode cX0_tryTogether 25 = .ok (.getfield 78, 3) := by decide +kernel
theorem dX0_tryTogether_28 : decode cX0_tryTogether 28 = .ok (.lconst 0, 1) := by decide +kernel
theorem dX0_tryTogether_29 : decode cX0_tryTogether 29 = .ok (.invokevirtual 83, 3) := by decide +kernel
theorem dX0_tryTogether_32 : decode cX0_tryTogether 32 = .ok (.return_, 1) := by decide +kernel
set_option maxRecDepth 20000 in
theorem ggX0_tryBoth_X5_at : GoodIn wsX0_tryBoth wsX5_at := goodIn_r _ [11, 12, 106] (by decide +kernel) (by decide +kernel)
set_option maxRecDepth 20000 in
theorem gX0_tryBoth_X5_at : GoodIn wsX0_tryBoth (wsV RX0 52 RX5 yX5_at wsX5_at) := goodIn_app (goodIn_of _ (by decide +kernel)) ggX0_tryBoth_X5_at
set_option maxRecDepth 20000 in
theorem ggX0_tryBoth_X8_moved : GoodIn wsX0_tryBoth wsX8_moved := goodIn_r _ [15, 16, 17, 18, 19, 20, 21, 22] (by decide +kernel) (by decide +kernel)
set_option maxRecDepth 20000 in
theorem gX0_tryBoth_X8_moved_n93 : GoodIn wsX0_tryBoth (wsX8_moved) := ggX0_tryBoth_X8_moved
set_option maxRecDepth 20000 in
theorem ggX0_tryBoth_X4_copy : GoodIn wsX0_tryBoth wsX4_copy := goodIn_r _ [27, 28, 29, 30, 31, 32, 33, 34, 35, 36, 26, 37, 38, 39, 40, 41, 42, 43, 44, 45, 91, 92, 93, 94, 95, 96] (by decide +kernel) (by decide +kernel)
set_option maxRecDepth 20000 in
theorem gX0_tryBoth_X4_copy : GoodIn wsX0_tryBoth (wsV RX0 70 RX4 yX4_copy wsX4_copy) := goodIn_app (goodIn_of _ (by decide +kernel)) ggX0_tryBoth_X4_copy
set_option maxRecDepth 20000 in
theorem ggX0_tryBoth_X4_lookBy : GoodIn wsX0_tryBoth wsX4_lookBy := goodIn_r _ [49, 31, 50, 51, 52, 26, 53, 13, 14, 15, 16, 17, 18, 19, 20, 21, 22, 54, 55, 56, 57, 58, 59, 60, 61, 62, 63, 64, 28, 65, 91, 92, 93, 94, 95, 96, 97, 98, 99, 100, 101, 102, 103, 104, 105] (by decide +kernel) (by decide +kernel)
set_option maxRecDepth 20000 in
theorem gX0_tryBoth_X4_lookBy : GoodIn wsX0_tryBoth (wsV RX0 97 RX4 yX4_lookBy wsX4_lookBy) := goodIn_app (goodIn_of _ (by decide +kernel)) ggX0_tryBoth_X4_lookBy
set_option maxRecDepth 20000 in
theorem ggX0_tryBoth_X4_lessen : GoodIn wsX0_tryBoth wsX4_lessen := goodIn_r _ [64, 28, 65, 91, 92, 93, 94, 95, 96] (by decide +kernel) (by decide +kernel)
set_option maxRecDepth 20000 in
theorem gX0_tryBoth_X4_lessen : GoodIn wsX0_tryBoth (wsV RX0 103 RX4 yX4_lessen wsX4_lessen) := goodIn_app (goodIn_of _ (by decide +kernel)) ggX0_tryBoth_X4_lessen
set_option maxRecDepth 20000 in
theorem ggX0_tryBoth_X4_together : GoodIn wsX0_tryBoth wsX4_together := goodIn_r _ [70, 28, 91, 92, 93, 94, 95, 96] (by decide +kernel) (by decide +kernel)
set_option maxRecDepth 20000 in
theorem gX0_tryBoth_X4_together : GoodIn wsX0_tryBoth (wsV RX0 109 RX4 yX4_together wsX4_together) := goodIn_app (goodIn_of _ (by decide +kernel)) ggX0_tryBoth_X4_together
set_option maxRecDepth 20000 in
theorem ggX0_tryBoth_X1_offer : GoodIn wsX0_tryBoth wsX1_offer := goodIn_r _ [75, 76, 77, 107, 108] (by decide +kernel) (by decide +kernel)
set_option maxRecDepth 20000 in
theorem gX0_tryBoth_X1_offer : GoodIn wsX0_tryBoth (wsV RX0 66 RX1 yX1_offer wsX1_offer) := goodIn_app (goodIn_of _ (by decide +kernel)) ggX0_tryBoth_X1_offer
set_option maxRecDepth 20000 in
theorem ggX0_tryBoth_X4_pass : GoodIn wsX0_tryBoth wsX4_pass := goodIn_r _ [81, 32, 28, 65, 34, 35, 36, 26, 37, 91, 92, 93, 94, 95, 96, 97, 98, 99, 100, 101, 102, 103, 104, 105] (by decide +kernel) (by decide +kernel)
set_option maxRecDepth 20000 in
theorem gX0_tryBoth_X4_pass : GoodIn wsX0_tryBoth (wsV RX0 113 RX4 yX4_pass wsX4_pass) := goodIn_app (goodIn_of _ (by decide +kernel)) ggX0_tryBoth_X4_pass
set_option maxRecDepth 20000 in
theorem ggX0_tryBoth_X0_tryBoth : GoodIn wsX0_tryBoth wsX0_tryBoth := goodIn_r _ [0, 1, 2, 3, 4, 5, 6, 7, 8, 9, 10, 11, 12, 13, 14, 15, 16, 17, 18, 19, 20, 21, 22, 23, 24, 25, 26, 27, 28, 29, 30, 31, 32, 33, 34, 35, 36, 37, 38, 39, 40, 41, 42, 43, 44, 45, 46, 47, 48, 49, 50, 51, 52, 53, 54, 55, 56, 57, 58, 59, 60, 61, 62, 63, 64, 65, 66, 67, 68, 69, 70, 71, 72, 73, 74, 75, 76, 77, 78, 79, 80, 81, 82, 83, 84, 85, 86, 87, 88, 89, 90, 91, 92, 93, 94, 95, 96, 97, 98, 99, 100, 101, 102, 103, 104, 105, 106, 107, 108] (by decide +kernel) (by decide +kernel)
set_option maxRecDepth 20000 in
theorem gX0_tryBoth_X0_tryBoth : GoodIn wsX0_tryBoth (wsV RX0 83 RX0 yX0_tryBoth wsX0_tryBoth) := goodIn_app (goodIn_of _ (by decide +kernel)) ggX0_tryBoth_X0_tryBoth
theorem dX0_tryBoth_0 : decode cX0_tryBoth 0 = .ok (.aload_n 0, 1) := by decide +kernel
theorem dX0_tryBoth_1 : decode cX0_tryBoth 1 = .ok (.getfield 14, 3) := by decide +kernel
theorem dX0_tryBoth_4 : decode cX0_tryBoth 4 = .ok (.iload_n 2, 1) := by decide +kernel
theorem dX0_tryBoth_5 : decode cX0_tryBoth 5 = .ok (.invokevirtual 52, 3) := by decide +kernel
theorem dX0_tryBoth_8 : decode cX0_tryBoth 8 = .ok (.astore 6, 2) := by decide +kernel
theorem dX0_tryBoth_10 : decode cX0_tryBoth 10 = .ok (.aload_n 0, 1) := by decide +kernel
theorem dX0_tryBoth_11 : decode cX0_tryBoth 11 = .ok (.getfield 14, 3) := by decide +kernel
theorem dX0_tryBoth_14 : decode cX0_tryBoth 14 = .ok (.iload_n 2, 1) := by decide +kernel
theorem dX0_tryBoth_15 : decode cX0_tryBoth 15 = .ok (.iconst 1, 1) := by decide +kernel
theorem dX0_tryBoth_16 : decode cX0_tryBoth 16 = .ok (.iadd, 1) := by decide +kernel
theorem dX0_tryBoth_17 : decode cX0_tryBoth 17 = .ok (.invokevirtual 52, 3) := by decide +kernel
theorem dX0_tryBoth_20 : decode cX0_tryBoth 20 = .ok (.astore 7, 2) := by decide +kernel
theorem dX0_tryBoth_22 : decode cX0_tryBoth 22 = .ok (.aload 6, 2) := by decide +kernel
theorem dX0_tryBoth_24 : decode cX0_tryBoth 24 = .ok (.ifnull 16, 3) := by decide +kernel
theorem dX0_tryBoth_27 : decode cX0_tryBoth 27 = .ok (.aload 7, 2) := by decide +kernel
theorem dX0_tryBoth_29 : decode cX0_tryBoth 29 = .ok (.ifnull 11, 3) := by decide +kernel
theorem dX0_tryBoth_32 : decode cX0_tryBoth 32 = .ok (.iload_n 2, 1) := by decide +kernel
theorem dX0_tryBoth_33 : decode cX0_tryBoth 33 = .ok (.aload_n 0, 1) := by decide +kernel
theorem dX0_tryBoth_34 : decode cX0_tryBoth 34 = .ok (.getfield 33, 3) := by decide +kernel
theorem dX0_tryBoth_37 : decode cX0_tryBoth 37 = .ok (.if_icmp .lt 4, 3) := by decide +kernel
theorem dX0_tryBoth_40 : decode cX0_tryBoth 40 = .ok (.return_, 1) := by decide +kernel
theorem dX0_tryBoth_41 : decode cX0_tryBoth 41 = .ok (.aload 6, 2) := by decide +kernel
theorem dX0_tryBoth_43 : decode cX0_tryBoth 43 = .ok (.getfield 87, 3) := by decide +kernel
theorem dX0_tryBoth_46 : decode cX0_tryBoth 46 = .ok (.aload_n 1, 1) := by decide +kernel
theorem dX0_tryBoth_47 : decode cX0_tryBoth 47 = .ok (.getfield 90, 3) := by decide +kernel
theorem dX0_tryBoth_50 : decode cX0_tryBoth 50 = .ok (.if_icmp .lt 7, 3) := by decide +kernel
theorem dX0_tryBoth_53 : decode cX0_tryBoth 53 = .ok (.iconst 1, 1) := by decide +kernel
theorem dX0_tryBoth_54 : decode cX0_tryBoth 54 = .ok (.goto 4, 3) := by decide +kernel
theorem dX0_tryBoth_57 : decode cX0_tryBoth 57 = .ok (.iconst 0, 1) := by decide +kernel
theorem dX0_tryBoth_58 : decode cX0_tryBoth 58 = .ok (.istore 8, 2) := by decide +kernel
theorem dX0_tryBoth_60 : decode cX0_tryBoth 60 = .ok (.iconst 0, 1) := by decide +kernel
theorem dX0_tryBoth_61 : decode cX0_tryBoth 61 = .ok (.istore 9, 2) := by decide +kernel
theorem dX0_tryBoth_63 : decode cX0_tryBoth 63 = .ok (.iload 9, 2) := by decide +kernel
theorem dX0_tryBoth_65 : decode cX0_tryBoth 65 = .ok (.iconst 3, 1) := by decide +kernel
theorem dX0_tryBoth_66 : decode cX0_tryBoth 66 = .ok (.if_icmp .gt 149, 3) := by decide +kernel
theorem dX0_tryBoth_69 : decode cX0_tryBoth 69 = .ok (.iconst 0, 1) := by decide +kernel
theorem dX0_tryBoth_70 : decode cX0_tryBoth 70 = .ok (.istore 10, 2) := by decide +kernel
theorem dX0_tryBoth_72 : decode cX0_tryBoth 72 = .ok (.iload 10, 2) := by decide +kernel
theorem dX0_tryBoth_74 : decode cX0_tryBoth 74 = .ok (.iload 8, 2) := by decide +kernel
theorem dX0_tryBoth_76 : decode cX0_tryBoth 76 = .ok (.ifCond .eq 7, 3) := by decide +kernel
theorem dX0_tryBoth_79 : decode cX0_tryBoth 79 = .ok (.iconst 2, 1) := by decide +kernel
theorem dX0_tryBoth_80 : decode cX0_tryBoth 80 = .ok (.goto 4, 3) := by decide +kernel
theorem dX0_tryBoth_83 : decode cX0_tryBoth 83 = .ok (.iconst 0, 1) := by decide +kernel
theorem dX0_tryBoth_84 : decode cX0_tryBoth 84 = .ok (.if_icmp .gt 125, 3) := by decide +kernel
theorem dX0_tryBoth_87 : decode cX0_tryBoth 87 = .ok (.iload_n 3, 1) := by decide +kernel
theorem dX0_tryBoth_88 : decode cX0_tryBoth 88 = .ok (.iload 10, 2) := by decide +kernel
theorem dX0_tryBoth_90 : decode cX0_tryBoth 90 = .ok (.invokestatic 93, 3) := by decide +kernel
theorem dX0_tryBoth_93 : decode cX0_tryBoth 93 = .ok (.istore 11, 2) := by decide +kernel
theorem dX0_tryBoth_95 : decode cX0_tryBoth 95 = .ok (.aload 7, 2) := by decide +kernel
theorem dX0_tryBoth_97 : decode cX0_tryBoth 97 = .ok (.aload 6, 2) := by decide +kernel
theorem dX0_tryBoth_99 : decode cX0_tryBoth 99 = .ok (.invokevirtual 70, 3) := by decide +kernel
theorem dX0_tryBoth_102 : decode cX0_tryBoth 102 = .ok (.aload 7, 2) := by decide +kernel
theorem dX0_tryBoth_104 : decode cX0_tryBoth 104 = .ok (.aload_n 1, 1) := by decide +kernel
theorem dX0_tryBoth_105 : decode cX0_tryBoth 105 = .ok (.iload 9, 2) := by decide +kernel
theorem dX0_tryBoth_107 : decode cX0_tryBoth 107 = .ok (.invokevirtual 97, 3) := by decide +kernel
theorem dX0_tryBoth_110 : decode cX0_tryBoth 110 = .ok (.aload 7, 2) := by decide +kernel
theorem dX0_tryBoth_112 : decode cX0_tryBoth 112 = .ok (.iload 8, 2) := by decide +kernel
theorem dX0_tryBoth_114 : decode cX0_tryBoth 114 = .ok (.ifCond .eq 8, 3) := by decide +kernel
theorem dX0_tryBoth_117 : decode cX0_tryBoth 117 = .ok (.iload 11, 2) := by decide +kernel
theorem dX0_tryBoth_119 : decode cX0_tryBoth 119 = .ok (.goto 5, 3) := by decide +kernel
theorem dX0_tryBoth_122 : decode cX0_tryBoth 122 = .ok (.bipush (-9), 2) := by decide +kernel
theorem dX0_tryBoth_124 : decode cX0_tryBoth 124 = .ok (.bipush 10, 2) := by decide +kernel
theorem dX0_tryBoth_126 : decode cX0_tryBoth 126 = .ok (.aload_n 1, 1) := by decide +kernel
theorem dX0_tryBoth_127 : decode cX0_tryBoth 127 = .ok (.getfield 100, 3) := by decide +kernel
theorem dX0_tryBoth_130 : decode cX0_tryBoth 130 = .ok (.isub, 1) := by decide +kernel
theorem dX0_tryBoth_131 : decode cX0_tryBoth 131 = .ok (.invokevirtual 103, 3) := by decide +kernel
theorem dX0_tryBoth_134 : decode cX0_tryBoth 134 = .ok (.lload 4, 2) := by decide +kernel
theorem dX0_tryBoth_136 : decode cX0_tryBoth 136 = .ok (.ldc2_w 107, 3) := by decide +kernel
theorem dX0_tryBoth_139 : decode cX0_tryBoth 139 = .ok (.lmul, 1) := by decide +kernel
theorem dX0_tryBoth_140 : decode cX0_tryBoth 140 = .ok (.aload 6, 2) := by decide +kernel
theorem dX0_tryBoth_142 : decode cX0_tryBoth 142 = .ok (.invokevirtual 109, 3) := by decide +kernel
theorem dX0_tryBoth_145 : decode cX0_tryBoth 145 = .ok (.ldc2_w 56, 3) := by decide +kernel
theorem dX0_tryBoth_148 : decode cX0_tryBoth 148 = .ok (.lmul, 1) := by decide +kernel
theorem dX0_tryBoth_149 : decode cX0_tryBoth 149 = .ok (.aload 7, 2) := by decide +kernel
theorem dX0_tryBoth_151 : decode cX0_tryBoth 151 = .ok (.invokevirtual 109, 3) := by decide +kernel
theorem dX0_tryBoth_154 : decode cX0_tryBoth 154 = .ok (.lsub, 1) := by decide +kernel
theorem dX0_tryBoth_155 : decode cX0_tryBoth 155 = .ok (.ldc2_w 64, 3) := by decide +kernel
theorem dX0_tryBoth_158 : decode cX0_tryBoth 158 = .ok (.lmul, 1) := by decide +kernel
theorem dX0_tryBoth_159 : decode cX0_tryBoth 159 = .ok (.ladd, 1) := by decide +kernel
theorem dX0_tryBoth_160 : decode cX0_tryBoth 160 = .ok (.lstore 12, 2) := by decide +kernel
theorem dX0_tryBoth_162 : decode cX0_tryBoth 162 = .ok (.iload_n 2, 1) := by decide +kernel
theorem dX0_tryBoth_163 : decode cX0_tryBoth 163 = .ok (.iconst 1, 1) := by decide +kernel
theorem dX0_tryBoth_164 : decode cX0_tryBoth 164 = .ok (.iadd, 1) := by decide +kernel
theorem dX0_tryBoth_165 : decode cX0_tryBoth 165 = .ok (.aload_n 0, 1) := by decide +kernel
theorem dX0_tryBoth_166 : decode cX0_tryBoth 166 = .ok (.getfield 33, 3) := by decide +kernel
theorem dX0_tryBoth_169 : decode cX0_tryBoth 169 = .ok (.if_icmp .ne 16, 3) := by decide +kernel
theorem dX0_tryBoth_172 : decode cX0_tryBoth 172 = .ok (.aload_n 0, 1) := by decide +kernel
theorem dX0_tryBoth_173 : decode cX0_tryBoth 173 = .ok (.getfield 30, 3) := by decide +kernel
theorem dX0_tryBoth_176 : decode cX0_tryBoth 176 = .ok (.lload 12, 2) := by decide +kernel
theorem dX0_tryBoth_178 : decode cX0_tryBoth 178 = .ok (.iconst 0, 1) := by decide +kernel
theorem dX0_tryBoth_179 : decode cX0_tryBoth 179 = .ok (.invokevirtual 66, 3) := by decide +kernel
theorem dX0_tryBoth_182 : decode cX0_tryBoth 182 = .ok (.goto 21, 3) := by decide +kernel
theorem dX0_tryBoth_185 : decode cX0_tryBoth 185 = .ok (.aload 7, 2) := by decide +kernel
theorem dX0_tryBoth_187 : decode cX0_tryBoth 187 = .ok (.aload_n 1, 1) := by decide +kernel
theorem dX0_tryBoth_188 : decode cX0_tryBoth 188 = .ok (.invokevirtual 113, 3) := by decide +kernel
theorem dX0_tryBoth_191 : decode cX0_tryBoth 191 = .ok (.aload_n 0, 1) := by decide +kernel
theorem dX0_tryBoth_192 : decode cX0_tryBoth 192 = .ok (.aload_n 1, 1) := by decide +kernel
theorem dX0_tryBoth_193 : decode cX0_tryBoth 193 = .ok (.iload_n 2, 1) := by decide +kernel
theorem dX0_tryBoth_194 : decode cX0_tryBoth 194 = .ok (.iconst 1, 1) := by decide +kernel
theorem dX0_tryBoth_195 : decode cX0_tryBoth 195 = .ok (.iadd, 1) := by decide +kernel
theorem dX0_tryBoth_196 : decode cX0_tryBoth 196 = .ok (.iload 11, 2) := by decide +kernel
theorem dX0_tryBoth_198 : decode cX0_tryBoth 198 = .ok (.lload 12, 2) := by decide +kernel
theorem dX0_tryBoth_200 : decode cX0_tryBoth 200 = .ok (.invokevirtual 83, 3) := by decide +kernel
theorem dX0_tryBoth_203 : decode cX0_tryBoth 203 = .ok (.iinc 10 1, 3) := by decide +kernel
theorem dX0_tryBoth_206 : decode cX0_tryBoth 206 = .ok (.goto (-134), 3) := by decide +kernel
theorem dX0_tryBoth_209 : decode cX0_tryBoth 209 = .ok (.iinc 9 1, 3) := by decide +kernel
theorem dX0_tryBoth_212 : decode cX0_tryBoth 212 = .ok (.goto (-149), 3) := by decide +kernel
theorem dX0_tryBoth_215 : decode cX0_tryBoth 215 = .ok (.return_, 1) := by decide +kernel
theorem dX1_init_0 : decode cX1_init 0 = .ok (.aload_n 0, 1) := by decide +kernel
theorem dX1_init_1 : decode cX1_init 1 = .ok (.invokespecial 1, 3) := by decide +kernel
theorem dX1_init_4 : decode cX1_init 4 = .ok (.return_, 1) := by decide +kernel
theorem dX1_clear_0 : decode cX1_clear 0 = .ok (.aload_n 0, 1) := by decide +kernel
theorem dX1_clear_1 : decode cX1_clear 1 = .ok (.ldc2_w 7, 3) := by decide +kernel
theorem dX1_clear_4 : decode cX1_clear 4 = .ok (.putfield 9, 3) := by decide +kernel
theorem dX1_clear_7 : decode cX1_clear 7 = .ok (.aload_n 0, 1) := by decide +kernel
theorem dX1_clear_8 : decode cX1_clear 8 = .ok (.iconst 0, 1) := by decide +kernel
theorem dX1_clear_9 : decode cX1_clear 9 = .ok (.putfield 15, 3) := by decide +kernel
theorem dX1_clear_12 : decode cX1_clear 12 = .ok (.return_, 1) := by decide +kernel
theorem dX1_offer_0 : decode cX1_offer 0 = .ok (.lload_n 1, 1) := by decide +kernel
theorem dX1_offer_1 : decode cX1_offer 1 = .ok (.aload_n 0, 1) := by decide +kernel
theorem dX1_offer_2 : decode cX1_offer 2 = .ok (.getfield 9, 3) := by decide +kernel
theorem dX1_offer_5 : decode cX1_offer 5 = .ok (.lcmp, 1) := by decide +kernel
theorem dX1_offer_6 : decode cX1_offer 6 = .ok (.ifCond .le 13, 3) := by decide +kernel
theorem dX1_offer_9 : decode cX1_offer 9 = .ok (.aload_n 0, 1) := by decide +kernel
theorem dX1_offer_10 : decode cX1_offer 10 = .ok (.lload_n 1, 1) := by decide +kernel
theorem dX1_offer_11 : decode cX1_offer 11 = .ok (.putfield 9, 3) := by decide +kernel
theorem dX1_offer_14 : decode cX1_offer 14 = .ok (.aload_n 0, 1) := by decide +kernel
theorem dX1_offer_15 : decode cX1_offer 15 = .ok (.iload_n 3, 1) := by decide +kernel
theorem dX1_offer_16 : decode cX1_offer 16 = .ok (.putfield 15, 3) := by decide +kernel
theorem dX1_offer_19 : decode cX1_offer 19 = .ok (.return_, 1) := by decide +kernel
theorem dX2_init_0 : decode cX2_init 0 = .ok (.aload_n 0, 1) := by decide +kernel
theorem dX2_init_1 : decode cX2_init 1 = .ok (.invokespecial 1, 3) := by decide +kernel
theorem dX2_init_4 : decode cX2_init 4 = .ok (.return_, 1) := by decide +kernel
theorem dX2_below_0 : decode cX2_below 0 = .ok (.aload_n 0, 1) := by decide +kernel
theorem dX2_below_1 : decode cX2_below 1 = .ok (.aload_n 0, 1) := by decide +kernel
theorem dX2_below_2 : decode cX2_below 2 = .ok (.getfield 7, 3) := by decide +kernel
theorem dX2_below_5 : decode cX2_below 5 = .ok (.ldc2_w 13, 3) := by decide +kernel
theorem dX2_below_8 : decode cX2_below 8 = .ok (.lmul, 1) := by decide +kernel
theorem dX2_below_9 : decode cX2_below 9 = .ok (.ldc2_w 15, 3) := by decide +kernel
theorem dX2_below_12 : decode cX2_below 12 = .ok (.ladd, 1) := by decide +kernel
theorem dX2_below_13 : decode cX2_below 13 = .ok (.putfield 7, 3) := by decide +kernel
theorem dX2_below_16 : decode cX2_below 16 = .ok (.iload_n 1, 1) := by decide +kernel
theorem dX2_below_17 : decode cX2_below 17 = .ok (.ifCond .gt 7, 3) := by decide +kernel
theorem dX2_below_20 : decode cX2_below 20 = .ok (.iconst 0, 1) := by decide +kernel
theorem dX2_below_21 : decode cX2_below 21 = .ok (.goto 14, 3) := by decide +kernel
theorem dX2_below_24 : decode cX2_below 24 = .ok (.aload_n 0, 1) := by decide +kernel
theorem dX2_below_25 : decode cX2_below 25 = .ok (.getfield 7, 3) := by decide +kernel
theorem dX2_below_28 : decode cX2_below 28 = .ok (.bipush 33, 2) := by decide +kernel
theorem dX2_below_30 : decode cX2_below 30 = .ok (.lushr, 1) := by decide +kernel
theorem dX2_below_31 : decode cX2_below 31 = .ok (.iload_n 1, 1) := by decide +kernel
theorem dX2_below_32 : decode cX2_below 32 = .ok (.i2l, 1) := by decide +kernel
theorem dX2_below_33 : decode cX2_below 33 = .ok (.lrem, 1) := by decide +kernel
theorem dX2_below_34 : decode cX2_below 34 = .ok (.l2i, 1) := by decide +kernel
theorem dX2_below_35 : decode cX2_below 35 = .ok (.ireturn, 1) := by decide +kernel
set_option maxRecDepth 20000 in
theorem ggX3_part_X3_commonOf : GoodIn wsX3_part wsX3_commonOf := goodIn_r _ [8] (by decide +kernel) (by decide +kernel)
set_option maxRecDepth 20000 in
theorem gX3_part_X3_commonOf : GoodIn wsX3_part (va_wsS RX3 13 yX3_commonOf wsX3_commonOf) := goodIn_app (goodIn_of _ (by decide +kernel)) ggX3_part_X3_commonOf
theorem dX3_part_0 : decode cX3_part 0 = .ok (.lload_n 0, 1) := by decide +kernel
theorem dX3_part_1 : decode cX3_part 1 = .ok (.invokestatic 7, 3) := by decide +kernel
theorem dX3_part_4 : decode cX3_part 4 = .ok (.lload_n 2, 1) := by decide +kernel
theorem dX3_part_5 : decode cX3_part 5 = .ok (.invokestatic 13, 3) := by decide +kernel
theorem dX3_part_8 : decode cX3_part 8 = .ok (.lstore 5, 2) := by decide +kernel
theorem dX3_part_10 : decode cX3_part 10 = .ok (.lload 5, 2) := by decide +kernel
theorem dX3_part_12 : decode cX3_part 12 = .ok (.lconst 0, 1) := by decide +kernel
theorem dX3_part_13 : decode cX3_part 13 = .ok (.lcmp, 1) := by decide +kernel
theorem dX3_part_14 : decode cX3_part 14 = .ok (.ifCond .gt 14, 3) := by decide +kernel
theorem dX3_part_17 : decode cX3_part 17 = .ok (.iload 4, 2) := by decide +kernel
theorem dX3_part_19 : decode cX3_part 19 = .ok (.ifCond .eq 7, 3) := by decide +kernel
theorem dX3_part_22 : decode cX3_part 22 = .ok (.lconst 0, 1) := by decide +kernel
theorem dX3_part_23 : decode cX3_part 23 = .ok (.goto 4, 3) := by decide +kernel
theorem dX3_part_26 : decode cX3_part 26 = .ok (.lconst 1, 1) := by decide +kernel
theorem dX3_part_27 : decode cX3_part 27 = .ok (.lreturn, 1) := by decide +kernel
theorem dX3_part_28 : decode cX3_part 28 = .ok (.iload 4, 2) := by decide +kernel
theorem dX3_part_30 : decode cX3_part 30 = .ok (.ifCond .eq 10, 3) := by decide +kernel
theorem dX3_part_33 : decode cX3_part 33 = .ok (.lload_n 0, 1) := by decide +kernel
theorem dX3_part_34 : decode cX3_part 34 = .ok (.lload 5, 2) := by decide +kernel
theorem dX3_part_36 : decode cX3_part 36 = .ok (.ldiv, 1) := by decide +kernel
theorem dX3_part_37 : decode cX3_part 37 = .ok (.goto 7, 3) := by decide +kernel
theorem dX3_part_40 : decode cX3_part 40 = .ok (.lload_n 2, 1) := by decide +kernel
theorem dX3_part_41 : decode cX3_part 41 = .ok (.lload 5, 2) := by decide +kernel
theorem dX3_part_43 : decode cX3_part 43 = .ok (.ldiv, 1) := by decide +kernel
theorem dX3_part_44 : decode cX3_part 44 = .ok (.lreturn, 1) := by decide +kernel
theorem dX3_commonOf_0 : decode cX3_commonOf 0 = .ok (.lload_n 0, 1) := by decide +kernel
theorem dX3_commonOf_1 : decode cX3_commonOf 1 = .ok (.lstore 4, 2) := by decide +kernel
theorem dX3_commonOf_3 : decode cX3_commonOf 3 = .ok (.lload_n 2, 1) := by decide +kernel
theorem dX3_commonOf_4 : decode cX3_commonOf 4 = .ok (.lstore 6, 2) := by decide +kernel
theorem dX3_commonOf_6 : decode cX3_commonOf 6 = .ok (.iconst 0, 1) := by decide +kernel
theorem dX3_commonOf_7 : decode cX3_commonOf 7 = .ok (.istore 8, 2) := by decide +kernel
theorem dX3_commonOf_9 : decode cX3_commonOf 9 = .ok (.iload 8, 2) := by decide +kernel
theorem dX3_commonOf_11 : decode cX3_commonOf 11 = .ok (.sipush 200, 3) := by decide +kernel
theorem dX3_commonOf_14 : decode cX3_commonOf 14 = .ok (.if_icmp .ge 31, 3) := by decide +kernel
theorem dX3_commonOf_17 : decode cX3_commonOf 17 = .ok (.lload 6, 2) := by decide +kernel
theorem dX3_commonOf_19 : decode cX3_commonOf 19 = .ok (.lconst 0, 1) := by decide +kernel
theorem dX3_commonOf_20 : decode cX3_commonOf 20 = .ok (.lcmp, 1) := by decide +kernel
theorem dX3_commonOf_21 : decode cX3_commonOf 21 = .ok (.ifCond .eq 24, 3) := by decide +kernel
theorem dX3_commonOf_24 : decode cX3_commonOf 24 = .ok (.lload 4, 2) := by decide +kernel
theorem dX3_commonOf_26 : decode cX3_commonOf 26 = .ok (.lload 6, 2) := by decide +kernel
theorem dX3_commonOf_28 : decode cX3_commonOf 28 = .ok (.lrem, 1) := by decide +kernel
theorem dX3_commonOf_29 : decode cX3_commonOf 29 = .ok (.lstore 9, 2) := by decide +kernel
theorem dX3_commonOf_31 : decode cX3_commonOf 31 = .ok (.lload 6, 2) := by decide +kernel
theorem dX3_commonOf_33 : decode cX3_commonOf 33 = .ok (.lstore 4, 2) := by decide +kernel
theorem dX3_commonOf_35 : decode cX3_commonOf 35 = .ok (.lload 9, 2) := by decide +kernel
theorem dX3_commonOf_37 : decode cX3_commonOf 37 = .ok (.lstore 6, 2) := by decide +kernel
theorem dX3_commonOf_39 : decode cX3_commonOf 39 = .ok (.iinc 8 1, 3) := by decide +kernel
theorem dX3_commonOf_42 : decode cX3_commonOf 42 = .ok (.goto (-33), 3) := by decide +kernel
theorem dX3_commonOf_45 : decode cX3_commonOf 45 = .ok (.lload 4, 2) := by decide +kernel
theorem dX3_commonOf_47 : decode cX3_commonOf 47 = .ok (.lreturn, 1) := by decide +kernel
theorem dX4_init_0 : decode cX4_init 0 = .ok (.aload_n 0, 1) := by decide +kernel
theorem dX4_init_1 : decode cX4_init 1 = .ok (.invokespecial 3, 3) := by decide +kernel
theorem dX4_init_4 : decode cX4_init 4 = .ok (.aload_n 0, 1) := by decide +kernel
theorem dX4_init_5 : decode cX4_init 5 = .ok (.bipush 11, 2) := by decide +kernel
theorem dX4_init_7 : decode cX4_init 7 = .ok (.newarray .long, 2) := by decide +kernel
theorem dX4_init_9 : decode cX4_init 9 = .ok (.putfield 9, 3) := by decide +kernel
theorem dX4_init_12 : decode cX4_init 12 = .ok (.aload_n 0, 1) := by decide +kernel
theorem dX4_init_13 : decode cX4_init 13 = .ok (.iconst 2, 1) := by decide +kernel
theorem dX4_init_14 : decode cX4_init 14 = .ok (.newarray .int, 2) := by decide +kernel
theorem dX4_init_16 : decode cX4_init 16 = .ok (.putfield 15, 3) := by decide +kernel
theorem dX4_init_19 : decode cX4_init 19 = .ok (.aload_n 0, 1) := by decide +kernel
theorem dX4_init_20 : decode cX4_init 20 = .ok (.iconst 2, 1) := by decide +kernel
theorem dX4_init_21 : decode cX4_init 21 = .ok (.newarray .int, 2) := by decide +kernel
theorem dX4_init_23 : decode cX4_init 23 = .ok (.putfield 19, 3) := by decide +kernel
theorem dX4_init_26 : decode cX4_init 26 = .ok (.return_, 1) := by decide +kernel
set_option maxRecDepth 20000 in
theorem ggX4_begin_X7_partAt : GoodIn wsX4_begin wsX7_partAt := goodIn_r _ [9, 10, 17, 18, 19, 20, 21, 22, 23, 24, 25] (by decide +kernel) (by decide +kernel)
set_option maxRecDepth 20000 in
theorem gX4_begin_X7_partAt : GoodIn wsX4_begin (wsV RX4 22 RX7 yX7_partAt wsX7_partAt) := goodIn_app (goodIn_of _ (by decide +kernel)) ggX4_begin_X7_partAt
theorem dX4_begin_0 : decode cX4_begin 0 = .ok (.iconst 0, 1) := by decide +kernel
theorem dX4_begin_1 : decode cX4_begin 1 = .ok (.istore_n 2, 1) := by decide +kernel
theorem dX4_begin_2 : decode cX4_begin 2 = .ok (.iload_n 2, 1) := by decide +kernel
theorem dX4_begin_3 : decode cX4_begin 3 = .ok (.aload_n 0, 1) := by decide +kernel
theorem dX4_begin_4 : decode cX4_begin 4 = .ok (.getfield 9, 3) := by decide +kernel
theorem dX4_begin_7 : decode cX4_begin 7 = .ok (.arraylength, 1) := by decide +kernel
theorem dX4_begin_8 : decode cX4_begin 8 = .ok (.if_icmp .ge 21, 3) := by decide +kernel
theorem dX4_begin_11 : decode cX4_begin 11 = .ok (.aload_n 0, 1) := by decide +kernel
theorem dX4_begin_12 : decode cX4_begin 12 = .ok (.getfield 9, 3) := by decide +kernel
theorem dX4_begin_15 : decode cX4_begin 15 = .ok (.iload_n 2, 1) := by decide +kernel
theorem dX4_begin_16 : decode cX4_begin 16 = .ok (.aload_n 1, 1) := by decide +kernel
theorem dX4_begin_17 : decode cX4_begin 17 = .ok (.iload_n 2, 1) := by decide +kernel
theorem dX4_begin_18 : decode cX4_begin 18 = .ok (.invokevirtual 22, 3) := by decide +kernel
theorem dX4_begin_21 : decode cX4_begin 21 = .ok (.i2l, 1) := by decide +kernel
theorem dX4_begin_22 : decode cX4_begin 22 = .ok (.lastore, 1) := by decide +kernel
theorem dX4_begin_23 : decode cX4_begin 23 = .ok (.iinc 2 1, 3) := by decide +kernel
theorem dX4_begin_26 : decode cX4_begin 26 = .ok (.goto (-24), 3) := by decide +kernel
theorem dX4_begin_29 : decode cX4_begin 29 = .ok (.aload_n 0, 1) := by decide +kernel
theorem dX4_begin_30 : decode cX4_begin 30 = .ok (.aload_n 1, 1) := by decide +kernel
theorem dX4_begin_31 : decode cX4_begin 31 = .ok (.getfield 28, 3) := by decide +kernel
theorem dX4_begin_34 : decode cX4_begin 34 = .ok (.putfield 32, 3) := by decide +kernel
theorem dX4_begin_37 : decode cX4_begin 37 = .ok (.aload_n 0, 1) := by decide +kernel
theorem dX4_begin_38 : decode cX4_begin 38 = .ok (.iconst 0, 1) := by decide +kernel
theorem dX4_begin_39 : decode cX4_begin 39 = .ok (.putfield 35, 3) := by decide +kernel
theorem dX4_begin_42 : decode cX4_begin 42 = .ok (.aload_n 0, 1) := by decide +kernel
theorem dX4_begin_43 : decode cX4_begin 43 = .ok (.iconst 0, 1) := by decide +kernel
theorem dX4_begin_44 : decode cX4_begin 44 = .ok (.putfield 38, 3) := by decide +kernel
theorem dX4_begin_47 : decode cX4_begin 47 = .ok (.return_, 1) := by decide +kernel
set_option maxRecDepth 20000 in
theorem ggX4_copy_X4_of : GoodIn wsX4_copy wsX4_of := goodIn_r _ [11, 1, 20, 21, 22, 23, 24, 25] (by decide +kernel) (by decide +kernel)
set_option maxRecDepth 20000 in
theorem gX4_copy_X4_of : GoodIn wsX4_copy (wsV RX4 41 RX4 yX4_of wsX4_of) := goodIn_app (goodIn_of _ (by decide +kernel)) ggX4_copy_X4_of
set_option maxRecDepth 20000 in
theorem ggX4_copy_X4_lowOf : GoodIn wsX4_copy wsX4_lowOf := goodIn_r _ [15, 2, 20, 21, 22, 23, 24, 25] (by decide +kernel) (by decide +kernel)
set_option maxRecDepth 20000 in
theorem gX4_copy_X4_lowOf : GoodIn wsX4_copy (wsV RX4 45 RX4 yX4_lowOf wsX4_lowOf) := goodIn_app (goodIn_of _ (by decide +kernel)) ggX4_copy_X4_lowOf
set_option maxRecDepth 20000 in
theorem ggX4_copy_X4_highOf : GoodIn wsX4_copy wsX4_highOf := goodIn_r _ [19, 3, 20, 21, 22, 23, 24, 25] (by decide +kernel) (by decide +kernel)
set_option maxRecDepth 20000 in
theorem gX4_copy_X4_highOf : GoodIn wsX4_copy (wsV RX4 48 RX4 yX4_highOf wsX4_highOf) := goodIn_app (goodIn_of _ (by decide +kernel)) ggX4_copy_X4_highOf
theorem dX4_copy_0 : decode cX4_copy 0 = .ok (.iconst 0, 1) := by decide +kernel
theorem dX4_copy_1 : decode cX4_copy 1 = .ok (.istore_n 2, 1) := by decide +kernel
theorem dX4_copy_2 : decode cX4_copy 2 = .ok (.iload_n 2, 1) := by decide +kernel
theorem dX4_copy_3 : decode cX4_copy 3 = .ok (.aload_n 0, 1) := by decide +kernel
theorem dX4_copy_4 : decode cX4_copy 4 = .ok (.getfield 9, 3) := by decide +kernel
theorem dX4_copy_7 : decode cX4_copy 7 = .ok (.arraylength, 1) := by decide +kernel
theorem dX4_copy_8 : decode cX4_copy 8 = .ok (.if_icmp .ge 20, 3) := by decide +kernel
theorem dX4_copy_11 : decode cX4_copy 11 = .ok (.aload_n 0, 1) := by decide +kernel
theorem dX4_copy_12 : decode cX4_copy 12 = .ok (.getfield 9, 3) := by decide +kernel
theorem dX4_copy_15 : decode cX4_copy 15 = .ok (.iload_n 2, 1) := by decide +kernel
theorem dX4_copy_16 : decode cX4_copy 16 = .ok (.aload_n 1, 1) := by decide +kernel
theorem dX4_copy_17 : decode cX4_copy 17 = .ok (.iload_n 2, 1) := by decide +kernel
theorem dX4_copy_18 : decode cX4_copy 18 = .ok (.invokevirtual 41, 3) := by decide +kernel
theorem dX4_copy_21 : decode cX4_copy 21 = .ok (.lastore, 1) := by decide +kernel
theorem dX4_copy_22 : decode cX4_copy 22 = .ok (.iinc 2 1, 3) := by decide +kernel
theorem dX4_copy_25 : decode cX4_copy 25 = .ok (.goto (-23), 3) := by decide +kernel
theorem dX4_copy_28 : decode cX4_copy 28 = .ok (.iconst 0, 1) := by decide +kernel
theorem dX4_copy_29 : decode cX4_copy 29 = .ok (.istore_n 2, 1) := by decide +kernel
theorem dX4_copy_30 : decode cX4_copy 30 = .ok (.iload_n 2, 1) := by decide +kernel
theorem dX4_copy_31 : decode cX4_copy 31 = .ok (.aload_n 0, 1) := by decide +kernel
theorem dX4_copy_32 : decode cX4_copy 32 = .ok (.getfield 15, 3) := by decide +kernel
theorem dX4_copy_35 : decode cX4_copy 35 = .ok (.arraylength, 1) := by decide +kernel
theorem dX4_copy_36 : decode cX4_copy 36 = .ok (.if_icmp .ge 40, 3) := by decide +kernel
theorem dX4_copy_39 : decode cX4_copy 39 = .ok (.iload_n 2, 1) := by decide +kernel
theorem dX4_copy_40 : decode cX4_copy 40 = .ok (.aload_n 0, 1) := by decide +kernel
theorem dX4_copy_41 : decode cX4_copy 41 = .ok (.getfield 19, 3) := by decide +kernel
theorem dX4_copy_44 : decode cX4_copy 44 = .ok (.arraylength, 1) := by decide +kernel
theorem dX4_copy_45 : decode cX4_copy 45 = .ok (.if_icmp .ge 31, 3) := by decide +kernel
theorem dX4_copy_48 : decode cX4_copy 48 = .ok (.aload_n 0, 1) := by decide +kernel
theorem dX4_copy_49 : decode cX4_copy 49 = .ok (.getfield 15, 3) := by decide +kernel
theorem dX4_copy_52 : decode cX4_copy 52 = .ok (.iload_n 2, 1) := by decide +kernel
theorem dX4_copy_53 : decode cX4_copy 53 = .ok (.aload_n 1, 1) := by decide +kernel
theorem dX4_copy_54 : decode cX4_copy 54 = .ok (.iload_n 2, 1) := by decide +kernel
theorem dX4_copy_55 : decode cX4_copy 55 = .ok (.invokevirtual 45, 3) := by decide +kernel
theorem dX4_copy_58 : decode cX4_copy 58 = .ok (.iastore, 1) := by decide +kernel
theorem dX4_copy_59 : decode cX4_copy 59 = .ok (.aload_n 0, 1) := by decide +kernel
theorem dX4_copy_60 : decode cX4_copy 60 = .ok (.getfield 19, 3) := by decide +kernel
theorem dX4_copy_63 : decode cX4_copy 63 = .ok (.iload_n 2, 1) := by decide +kernel
theorem dX4_copy_64 : decode cX4_copy 64 = .ok (.aload_n 1, 1) := by decide +kernel
theorem dX4_copy_65 : decode cX4_copy 65 = .ok (.iload_n 2, 1) := by decide +kernel
theorem dX4_copy_66 : decode cX4_copy 66 = .ok (.invokevirtual 48, 3) := by decide +kernel
theorem dX4_copy_69 : decode cX4_copy 69 = .ok (.iastore, 1) := by decide +kernel
theorem dX4_copy_70 : decode cX4_copy 70 = .ok (.iinc 2 1, 3) := by decide +kernel
theorem dX4_copy_73 : decode cX4_copy 73 = .ok (.goto (-43), 3) := by decide +kernel
theorem dX4_copy_76 : decode cX4_copy 76 = .ok (.aload_n 0, 1) := by decide +kernel
theorem dX4_copy_77 : decode cX4_copy 77 = .ok (.aload_n 1, 1) := by decide +kernel
theorem dX4_copy_78 : decode cX4_copy 78 = .ok (.getfield 32, 3) := by decide +kernel
theorem dX4_copy_81 : decode cX4_copy 81 = .ok (.putfield 32, 3) := by decide +kernel
theorem dX4_copy_84 : decode cX4_copy 84 = .ok (.aload_n 0, 1) := by decide +kernel
theorem dX4_copy_85 : decode cX4_copy 85 = .ok (.aload_n 1, 1) := by decide +kernel
theorem dX4_copy_86 : decode cX4_copy 86 = .ok (.getfield 35, 3) := by decide +kernel
theorem dX4_copy_89 : decode cX4_copy 89 = .ok (.putfield 35, 3) := by decide +kernel
theorem dX4_copy_92 : decode cX4_copy 92 = .ok (.aload_n 0, 1) := by decide +kernel
theorem dX4_copy_93 : decode cX4_copy 93 = .ok (.aload_n 1, 1) := by decide +kernel
theorem dX4_copy_94 : decode cX4_copy 94 = .ok (.getfield 38, 3) := by decide +kernel
theorem dX4_copy_97 : decode cX4_copy 97 = .ok (.putfield 38, 3) := by decide +kernel
theorem dX4_copy_100 : decode cX4_copy 100 = .ok (.return_, 1) := by decide +kernel
theorem dX4_of_0 : decode cX4_of 0 = .ok (.iload_n 1, 1) := by decide +kernel
theorem dX4_of_1 : decode cX4_of 1 = .ok (.ifCond .lt 21, 3) := by decide +kernel
theorem dX4_of_4 : decode cX4_of 4 = .ok (.iload_n 1, 1) := by decide +kernel
theorem dX4_of_5 : decode cX4_of 5 = .ok (.aload_n 0, 1) := by decide +kernel
theorem dX4_of_6 : decode cX4_of 6 = .ok (.getfield 9, 3) := by decide +kernel
theorem dX4_of_9 : decode cX4_of 9 = .ok (.arraylength, 1) := by decide +kernel
theorem dX4_of_10 : decode cX4_of 10 = .ok (.if_icmp .ge 12, 3) := by decide +kernel
theorem dX4_of_13 : decode cX4_of 13 = .ok (.aload_n 0, 1) := by decide +kernel
theorem dX4_of_14 : decode cX4_of 14 = .ok (.getfield 9, 3) := by decide +kernel
theorem dX4_of_17 : decode cX4_of 17 = .ok (.iload_n 1, 1) := by decide +kernel
theorem dX4_of_18 : decode cX4_of 18 = .ok (.laload, 1) := by decide +kernel
theorem dX4_of_19 : decode cX4_of 19 = .ok (.goto 4, 3) := by decide +kernel
theorem dX4_of_22 : decode cX4_of 22 = .ok (.lconst 0, 1) := by decide +kernel
theorem dX4_of_23 : decode cX4_of 23 = .ok (.lreturn, 1) := by decide +kernel
theorem dX4_lowOf_0 : decode cX4_lowOf 0 = .ok (.iload_n 1, 1) := by decide +kernel
theorem dX4_lowOf_1 : decode cX4_lowOf 1 = .ok (.ifCond .lt 21, 3) := by decide +kernel
theorem dX4_lowOf_4 : decode cX4_lowOf 4 = .ok (.iload_n 1, 1) := by decide +kernel
theorem dX4_lowOf_5 : decode cX4_lowOf 5 = .ok (.aload_n 0, 1) := by decide +kernel
theorem dX4_lowOf_6 : decode cX4_lowOf 6 = .ok (.getfield 15, 3) := by decide +kernel
theorem dX4_lowOf_9 : decode cX4_lowOf 9 = .ok (.arraylength, 1) := by decide +kernel
theorem dX4_lowOf_10 : decode cX4_lowOf 10 = .ok (.if_icmp .ge 12, 3) := by decide +kernel
theorem dX4_lowOf_13 : decode cX4_lowOf 13 = .ok (.aload_n 0, 1) := by decide +kernel
theorem dX4_lowOf_14 : decode cX4_lowOf 14 = .ok (.getfield 15, 3) := by decide +kernel
theorem dX4_lowOf_17 : decode cX4_lowOf 17 = .ok (.iload_n 1, 1) := by decide +kernel
theorem dX4_lowOf_18 : decode cX4_lowOf 18 = .ok (.iaload, 1) := by decide +kernel
theorem dX4_lowOf_19 : decode cX4_lowOf 19 = .ok (.goto 4, 3) := by decide +kernel
theorem dX4_lowOf_22 : decode cX4_lowOf 22 = .ok (.iconst 0, 1) := by decide +kernel
theorem dX4_lowOf_23 : decode cX4_lowOf 23 = .ok (.ireturn, 1) := by decide +kernel
theorem dX4_highOf_0 : decode cX4_highOf 0 = .ok (.iload_n 1, 1) := by decide +kernel
theorem dX4_highOf_1 : decode cX4_highOf 1 = .ok (.ifCond .lt 21, 3) := by decide +kernel
theorem dX4_highOf_4 : decode cX4_highOf 4 = .ok (.iload_n 1, 1) := by decide +kernel
theorem dX4_highOf_5 : decode cX4_highOf 5 = .ok (.aload_n 0, 1) := by decide +kernel
theorem dX4_highOf_6 : decode cX4_highOf 6 = .ok (.getfield 19, 3) := by decide +kernel
theorem dX4_highOf_9 : decode cX4_highOf 9 = .ok (.arraylength, 1) := by decide +kernel
theorem dX4_highOf_10 : decode cX4_highOf 10 = .ok (.if_icmp .ge 12, 3) := by decide +kernel
theorem dX4_highOf_13 : decode cX4_highOf 13 = .ok (.aload_n 0, 1) := by decide +kernel
theorem dX4_highOf_14 : decode cX4_highOf 14 = .ok (.getfield 19, 3) := by decide +kernel
theorem dX4_highOf_17 : decode cX4_highOf 17 = .ok (.iload_n 1, 1) := by decide +kernel
theorem dX4_highOf_18 : decode cX4_highOf 18 = .ok (.iaload, 1) := by decide +kernel
theorem dX4_highOf_19 : decode cX4_highOf 19 = .ok (.goto 4, 3) := by decide +kernel
theorem dX4_highOf_22 : decode cX4_highOf 22 = .ok (.iconst 0, 1) := by decide +kernel
theorem dX4_highOf_23 : decode cX4_highOf 23 = .ok (.ireturn, 1) := by decide +kernel
theorem dX4_together_0 : decode cX4_together 0 = .ok (.lconst 0, 1) := by decide +kernel
theorem dX4_together_1 : decode cX4_together 1 = .ok (.lstore_n 1, 1) := by decide +kernel
theorem dX4_together_2 : decode cX4_together 2 = .ok (.iconst 0, 1) := by decide +kernel
theorem dX4_together_3 : decode cX4_together 3 = .ok (.istore_n 3, 1) := by decide +kernel
theorem dX4_together_4 : decode cX4_together 4 = .ok (.iload_n 3, 1) := by decide +kernel
theorem dX4_together_5 : decode cX4_together 5 = .ok (.aload_n 0, 1) := by decide +kernel
theorem dX4_together_6 : decode cX4_together 6 = .ok (.getfield 9, 3) := by decide +kernel
theorem dX4_together_9 : decode cX4_together 9 = .ok (.arraylength, 1) := by decide +kernel
theorem dX4_together_10 : decode cX4_together 10 = .ok (.if_icmp .ge 18, 3) := by decide +kernel
theorem dX4_together_13 : decode cX4_together 13 = .ok (.lload_n 1, 1) := by decide +kernel
theorem dX4_together_14 : decode cX4_together 14 = .ok (.aload_n 0, 1) := by decide +kernel
theorem dX4_together_15 : decode cX4_together 15 = .ok (.getfield 9, 3) := by decide +kernel
theorem dX4_together_18 : decode cX4_together 18 = .ok (.iload_n 3, 1) := by decide +kernel
theorem dX4_together_19 : decode cX4_together 19 = .ok (.laload, 1) := by decide +kernel
theorem dX4_together_20 : decode cX4_together 20 = .ok (.ladd, 1) := by decide +kernel
theorem dX4_together_21 : decode cX4_together 21 = .ok (.lstore_n 1, 1) := by decide +kernel
theorem dX4_together_22 : decode cX4_together 22 = .ok (.iinc 3 1, 3) := by decide +kernel
theorem dX4_together_25 : decode cX4_together 25 = .ok (.goto (-21), 3) := by decide +kernel
theorem dX4_together_28 : decode cX4_together 28 = .ok (.lload_n 1, 1) := by decide +kernel
theorem dX4_together_29 : decode cX4_together 29 = .ok (.lreturn, 1) := by decide +kernel
set_option maxRecDepth 20000 in
theorem ggX4_cellBits_X4_of : GoodIn wsX4_cellBits wsX4_of := goodIn_r _ [5, 6, 7, 8, 9, 10, 11, 12] (by decide +kernel) (by decide +kernel)
set_option maxRecDepth 20000 in
theorem gX4_cellBits_X4_of : GoodIn wsX4_cellBits (wsV RX4 41 RX4 yX4_of wsX4_of) := goodIn_app (goodIn_of _ (by decide +kernel)) ggX4_cellBits_X4_of
theorem dX4_cellBits_0 : decode cX4_cellBits 0 = .ok (.iconst 0, 1) := by decide +kernel
theorem dX4_cellBits_1 : decode cX4_cellBits 1 = .ok (.istore_n 1, 1) := by decide +kernel
theorem dX4_cellBits_2 : decode cX4_cellBits 2 = .ok (.iconst 0, 1) := by decide +kernel
theorem dX4_cellBits_3 : decode cX4_cellBits 3 = .ok (.istore_n 2, 1) := by decide +kernel
theorem dX4_cellBits_4 : decode cX4_cellBits 4 = .ok (.iload_n 2, 1) := by decide +kernel
theorem dX4_cellBits_5 : decode cX4_cellBits 5 = .ok (.bipush 10, 2) := by decide +kernel
theorem dX4_cellBits_7 : decode cX4_cellBits 7 = .ok (.if_icmp .ge 25, 3) := by decide +kernel
theorem dX4_cellBits_10 : decode cX4_cellBits 10 = .ok (.aload_n 0, 1) := by decide +kernel
theorem dX4_cellBits_11 : decode cX4_cellBits 11 = .ok (.iload_n 2, 1) := by decide +kernel
theorem dX4_cellBits_12 : decode cX4_cellBits 12 = .ok (.invokevirtual 41, 3) := by decide +kernel
theorem dX4_cellBits_15 : decode cX4_cellBits 15 = .ok (.lconst 0, 1) := by decide +kernel
theorem dX4_cellBits_16 : decode cX4_cellBits 16 = .ok (.lcmp, 1) := by decide +kernel
theorem dX4_cellBits_17 : decode cX4_cellBits 17 = .ok (.ifCond .le 9, 3) := by decide +kernel
theorem dX4_cellBits_20 : decode cX4_cellBits 20 = .ok (.iload_n 1, 1) := by decide +kernel
theorem dX4_cellBits_21 : decode cX4_cellBits 21 = .ok (.iconst 1, 1) := by decide +kernel
theorem dX4_cellBits_22 : decode cX4_cellBits 22 = .ok (.iload_n 2, 1) := by decide +kernel
theorem dX4_cellBits_23 : decode cX4_cellBits 23 = .ok (.ishl, 1) := by decide +kernel
theorem dX4_cellBits_24 : decode cX4_cellBits 24 = .ok (.ior, 1) := by decide +kernel
theorem dX4_cellBits_25 : decode cX4_cellBits 25 = .ok (.istore_n 1, 1) := by decide +kernel
theorem dX4_cellBits_26 : decode cX4_cellBits 26 = .ok (.iinc 2 1, 3) := by decide +kernel
theorem dX4_cellBits_29 : decode cX4_cellBits 29 = .ok (.goto (-25), 3) := by decide +kernel
theorem dX4_cellBits_32 : decode cX4_cellBits 32 = .ok (.iload_n 1, 1) := by decide +kernel
theorem dX4_cellBits_33 : decode cX4_cellBits 33 = .ok (.ireturn, 1) := by decide +kernel
set_option maxRecDepth 20000 in
theorem ggX4_placeBy_X8_moved : GoodIn wsX4_placeBy wsX8_moved := goodIn_r _ [4, 5, 6, 7, 8, 9, 10, 11] (by decide +kernel) (by decide +kernel)
set_option maxRecDepth 20000 in
theorem gX4_placeBy_X8_moved_n51 : GoodIn wsX4_placeBy (wsX8_moved) := ggX4_placeBy_X8_moved
theorem dX4_placeBy_0 : decode cX4_placeBy 0 = .ok (.iload_n 1, 1) := by decide +kernel
theorem dX4_placeBy_1 : decode cX4_placeBy 1 = .ok (.iconst 3, 1) := by decide +kernel
theorem dX4_placeBy_2 : decode cX4_placeBy 2 = .ok (.if_icmp .ne 8, 3) := by decide +kernel
theorem dX4_placeBy_5 : decode cX4_placeBy 5 = .ok (.bipush 10, 2) := by decide +kernel
theorem dX4_placeBy_7 : decode cX4_placeBy 7 = .ok (.goto 11, 3) := by decide +kernel
theorem dX4_placeBy_10 : decode cX4_placeBy 10 = .ok (.aload_n 0, 1) := by decide +kernel
theorem dX4_placeBy_11 : decode cX4_placeBy 11 = .ok (.getfield 32, 3) := by decide +kernel
theorem dX4_placeBy_14 : decode cX4_placeBy 14 = .ok (.iload_n 1, 1) := by decide +kernel
theorem dX4_placeBy_15 : decode cX4_placeBy 15 = .ok (.invokestatic 51, 3) := by decide +kernel
theorem dX4_placeBy_18 : decode cX4_placeBy 18 = .ok (.ireturn, 1) := by decide +kernel
set_option maxRecDepth 20000 in
theorem ggX4_foundNow_X4_placeBy : GoodIn wsX4_foundNow wsX4_placeBy := goodIn_r _ [5, 6, 7, 8, 9, 10, 11, 12, 13, 14, 15, 16, 29, 30, 31, 32, 33, 34] (by decide +kernel) (by decide +kernel)
set_option maxRecDepth 20000 in
theorem gX4_foundNow_X4_placeBy : GoodIn wsX4_foundNow (wsV RX4 55 RX4 yX4_placeBy wsX4_placeBy) := goodIn_app (goodIn_of _ (by decide +kernel)) ggX4_foundNow_X4_placeBy
set_option maxRecDepth 20000 in
theorem ggX4_foundNow_X4_of : GoodIn wsX4_foundNow wsX4_of := goodIn_r _ [20, 21, 29, 30, 31, 32, 33, 34] (by decide +kernel) (by decide +kernel)
set_option maxRecDepth 20000 in
theorem gX4_foundNow_X4_of : GoodIn wsX4_foundNow (wsV RX4 41 RX4 yX4_of wsX4_of) := goodIn_app (goodIn_of _ (by decide +kernel)) ggX4_foundNow_X4_of
set_option maxRecDepth 20000 in
theorem ggX4_foundNow_X7_chanceAt : GoodIn wsX4_foundNow wsX7_chanceAt := goodIn_r _ [26, 27, 28, 35, 36, 37, 38, 39, 40, 41, 42, 43] (by decide +kernel) (by decide +kernel)
set_option maxRecDepth 20000 in
theorem gX4_foundNow_X7_chanceAt : GoodIn wsX4_foundNow (wsV RX4 58 RX7 yX7_chanceAt wsX7_chanceAt) := goodIn_app (goodIn_of _ (by decide +kernel)) ggX4_foundNow_X7_chanceAt
theorem dX4_foundNow_0 : decode cX4_foundNow 0 = .ok (.aload_n 0, 1) := by decide +kernel
theorem dX4_foundNow_1 : decode cX4_foundNow 1 = .ok (.iload_n 2, 1) := by decide +kernel
theorem dX4_foundNow_2 : decode cX4_foundNow 2 = .ok (.invokevirtual 55, 3) := by decide +kernel
theorem dX4_foundNow_5 : decode cX4_foundNow 5 = .ok (.istore_n 3, 1) := by decide +kernel
theorem dX4_foundNow_6 : decode cX4_foundNow 6 = .ok (.aload_n 0, 1) := by decide +kernel
theorem dX4_foundNow_7 : decode cX4_foundNow 7 = .ok (.iload_n 3, 1) := by decide +kernel
theorem dX4_foundNow_8 : decode cX4_foundNow 8 = .ok (.invokevirtual 41, 3) := by decide +kernel
theorem dX4_foundNow_11 : decode cX4_foundNow 11 = .ok (.aload_n 1, 1) := by decide +kernel
theorem dX4_foundNow_12 : decode cX4_foundNow 12 = .ok (.iload_n 3, 1) := by decide +kernel
theorem dX4_foundNow_13 : decode cX4_foundNow 13 = .ok (.invokevirtual 58, 3) := by decide +kernel
theorem dX4_foundNow_16 : decode cX4_foundNow 16 = .ok (.i2l, 1) := by decide +kernel
theorem dX4_foundNow_17 : decode cX4_foundNow 17 = .ok (.lmul, 1) := by decide +kernel
theorem dX4_foundNow_18 : decode cX4_foundNow 18 = .ok (.lreturn, 1) := by decide +kernel
set_option maxRecDepth 20000 in
theorem ggX4_act_X4_lookBy : GoodIn wsX4_act wsX4_lookBy := goodIn_r _ [5, 6, 7, 8, 9, 4, 10, 11, 12, 13, 14, 15, 16, 17, 18, 19, 20, 21, 22, 23, 24, 25, 26, 27, 28, 29, 30, 31, 32, 33, 43, 44, 45, 46, 47, 48, 49, 50, 51, 52, 53, 54, 55, 56, 57] (by decide +kernel) (by decide +kernel)
set_option maxRecDepth 20000 in
theorem gX4_act_X4_lookBy : GoodIn wsX4_act (wsV RX4 61 RX4 yX4_lookBy wsX4_lookBy) := goodIn_app (goodIn_of _ (by decide +kernel)) ggX4_act_X4_lookBy
set_option maxRecDepth 20000 in
theorem ggX4_act_X4_pass : GoodIn wsX4_act wsX4_pass := goodIn_r _ [37, 38, 32, 33, 39, 40, 41, 4, 42, 43, 44, 45, 46, 47, 48, 49, 50, 51, 52, 53, 54, 55, 56, 57] (by decide +kernel) (by decide +kernel)
set_option maxRecDepth 20000 in
theorem gX4_act_X4_pass : GoodIn wsX4_act (wsV RX4 65 RX4 yX4_pass wsX4_pass) := goodIn_app (goodIn_of _ (by decide +kernel)) ggX4_act_X4_pass
theorem dX4_act_0 : decode cX4_act 0 = .ok (.aload_n 0, 1) := by decide +kernel
theorem dX4_act_1 : decode cX4_act 1 = .ok (.aload_n 1, 1) := by decide +kernel
theorem dX4_act_2 : decode cX4_act 2 = .ok (.iload_n 2, 1) := by decide +kernel
theorem dX4_act_3 : decode cX4_act 3 = .ok (.invokevirtual 61, 3) := by decide +kernel
theorem dX4_act_6 : decode cX4_act 6 = .ok (.aload_n 0, 1) := by decide +kernel
theorem dX4_act_7 : decode cX4_act 7 = .ok (.aload_n 1, 1) := by decide +kernel
theorem dX4_act_8 : decode cX4_act 8 = .ok (.invokevirtual 65, 3) := by decide +kernel
theorem dX4_act_11 : decode cX4_act 11 = .ok (.return_, 1) := by decide +kernel
set_option maxRecDepth 20000 in
theorem ggX4_lookBy_X4_placeBy : GoodIn wsX4_lookBy wsX4_placeBy := goodIn_r _ [6, 1, 7, 8, 9, 10, 11, 12, 13, 14, 15, 16, 30, 31, 32, 33, 34, 35] (by decide +kernel) (by decide +kernel)
set_option maxRecDepth 20000 in
theorem gX4_lookBy_X4_placeBy : GoodIn wsX4_lookBy (wsV RX4 55 RX4 yX4_placeBy wsX4_placeBy) := goodIn_app (goodIn_of _ (by decide +kernel)) ggX4_lookBy_X4_placeBy
set_option maxRecDepth 20000 in
theorem ggX4_lookBy_X8_moved : GoodIn wsX4_lookBy wsX8_moved := goodIn_r _ [9, 10, 11, 12, 13, 14, 15, 16] (by decide +kernel) (by decide +kernel)
set_option maxRecDepth 20000 in
theorem gX4_lookBy_X8_moved_n51 : GoodIn wsX4_lookBy (wsX8_moved) := ggX4_lookBy_X8_moved
set_option maxRecDepth 20000 in
theorem ggX4_lookBy_X7_chanceAt : GoodIn wsX4_lookBy wsX7_chanceAt := goodIn_r _ [21, 22, 23, 36, 37, 38, 39, 40, 41, 42, 43, 44] (by decide +kernel) (by decide +kernel)
set_option maxRecDepth 20000 in
theorem gX4_lookBy_X7_chanceAt : GoodIn wsX4_lookBy (wsV RX4 58 RX7 yX7_chanceAt wsX7_chanceAt) := goodIn_app (goodIn_of _ (by decide +kernel)) ggX4_lookBy_X7_chanceAt
set_option maxRecDepth 20000 in
theorem ggX4_lookBy_X4_lessen : GoodIn wsX4_lookBy wsX4_lessen := goodIn_r _ [27, 28, 29, 30, 31, 32, 33, 34, 35] (by decide +kernel) (by decide +kernel)
set_option maxRecDepth 20000 in
theorem gX4_lookBy_X4_lessen : GoodIn wsX4_lookBy (wsV RX4 69 RX4 yX4_lessen wsX4_lessen) := goodIn_app (goodIn_of _ (by decide +kernel)) ggX4_lookBy_X4_lessen
theorem dX4_lookBy_0 : decode cX4_lookBy 0 = .ok (.aload_n 0, 1) := by decide +kernel
theorem dX4_lookBy_1 : decode cX4_lookBy 1 = .ok (.iload_n 2, 1) := by decide +kernel
theorem dX4_lookBy_2 : decode cX4_lookBy 2 = .ok (.invokevirtual 55, 3) := by decide +kernel
theorem dX4_lookBy_5 : decode cX4_lookBy 5 = .ok (.istore_n 3, 1) := by decide +kernel
theorem dX4_lookBy_6 : decode cX4_lookBy 6 = .ok (.aload_n 0, 1) := by decide +kernel
theorem dX4_lookBy_7 : decode cX4_lookBy 7 = .ok (.aload_n 0, 1) := by decide +kernel
theorem dX4_lookBy_8 : decode cX4_lookBy 8 = .ok (.getfield 32, 3) := by decide +kernel
theorem dX4_lookBy_11 : decode cX4_lookBy 11 = .ok (.iload_n 2, 1) := by decide +kernel
theorem dX4_lookBy_12 : decode cX4_lookBy 12 = .ok (.invokestatic 51, 3) := by decide +kernel
theorem dX4_lookBy_15 : decode cX4_lookBy 15 = .ok (.putfield 32, 3) := by decide +kernel
theorem dX4_lookBy_18 : decode cX4_lookBy 18 = .ok (.aload_n 0, 1) := by decide +kernel
theorem dX4_lookBy_19 : decode cX4_lookBy 19 = .ok (.iload_n 3, 1) := by decide +kernel
theorem dX4_lookBy_20 : decode cX4_lookBy 20 = .ok (.bipush 10, 2) := by decide +kernel
theorem dX4_lookBy_22 : decode cX4_lookBy 22 = .ok (.aload_n 1, 1) := by decide +kernel
theorem dX4_lookBy_23 : decode cX4_lookBy 23 = .ok (.iload_n 3, 1) := by decide +kernel
theorem dX4_lookBy_24 : decode cX4_lookBy 24 = .ok (.invokevirtual 58, 3) := by decide +kernel
theorem dX4_lookBy_27 : decode cX4_lookBy 27 = .ok (.isub, 1) := by decide +kernel
theorem dX4_lookBy_28 : decode cX4_lookBy 28 = .ok (.invokevirtual 69, 3) := by decide +kernel
theorem dX4_lookBy_31 : decode cX4_lookBy 31 = .ok (.return_, 1) := by decide +kernel
theorem dX4_lessen_0 : decode cX4_lessen 0 = .ok (.iconst 0, 1) := by decide +kernel
theorem dX4_lessen_1 : decode cX4_lessen 1 = .ok (.istore_n 3, 1) := by decide +kernel
theorem dX4_lessen_2 : decode cX4_lessen 2 = .ok (.iload_n 3, 1) := by decide +kernel
theorem dX4_lessen_3 : decode cX4_lessen 3 = .ok (.aload_n 0, 1) := by decide +kernel
theorem dX4_lessen_4 : decode cX4_lessen 4 = .ok (.getfield 9, 3) := by decide +kernel
theorem dX4_lessen_7 : decode cX4_lessen 7 = .ok (.arraylength, 1) := by decide +kernel
theorem dX4_lessen_8 : decode cX4_lessen 8 = .ok (.if_icmp .ge 31, 3) := by decide +kernel
theorem dX4_lessen_11 : decode cX4_lessen 11 = .ok (.aload_n 0, 1) := by decide +kernel
theorem dX4_lessen_12 : decode cX4_lessen 12 = .ok (.getfield 9, 3) := by decide +kernel
theorem dX4_lessen_15 : decode cX4_lessen 15 = .ok (.iload_n 3, 1) := by decide +kernel
theorem dX4_lessen_16 : decode cX4_lessen 16 = .ok (.dup2, 1) := by decide +kernel
theorem dX4_lessen_17 : decode cX4_lessen 17 = .ok (.laload, 1) := by decide +kernel
theorem dX4_lessen_18 : decode cX4_lessen 18 = .ok (.iload_n 3, 1) := by decide +kernel
theorem dX4_lessen_19 : decode cX4_lessen 19 = .ok (.iload_n 1, 1) := by decide +kernel
theorem dX4_lessen_20 : decode cX4_lessen 20 = .ok (.if_icmp .ne 8, 3) := by decide +kernel
theorem dX4_lessen_23 : decode cX4_lessen 23 = .ok (.iload_n 2, 1) := by decide +kernel
theorem dX4_lessen_24 : decode cX4_lessen 24 = .ok (.i2l, 1) := by decide +kernel
theorem dX4_lessen_25 : decode cX4_lessen 25 = .ok (.goto 6, 3) := by decide +kernel
theorem dX4_lessen_28 : decode cX4_lessen 28 = .ok (.ldc2_w 73, 3) := by decide +kernel
theorem dX4_lessen_31 : decode cX4_lessen 31 = .ok (.lmul, 1) := by decide +kernel
theorem dX4_lessen_32 : decode cX4_lessen 32 = .ok (.lastore, 1) := by decide +kernel
theorem dX4_lessen_33 : decode cX4_lessen 33 = .ok (.iinc 3 1, 3) := by decide +kernel
theorem dX4_lessen_36 : decode cX4_lessen 36 = .ok (.goto (-34), 3) := by decide +kernel
theorem dX4_lessen_39 : decode cX4_lessen 39 = .ok (.return_, 1) := by decide +kernel
set_option maxRecDepth 20000 in
theorem ggX4_pass_X4_of : GoodIn wsX4_pass wsX4_of := goodIn_r _ [8, 2, 9, 10, 11, 12, 13, 14] (by decide +kernel) (by decide +kernel)
set_option maxRecDepth 20000 in
theorem gX4_pass_X4_of : GoodIn wsX4_pass (wsV RX4 41 RX4 yX4_of wsX4_of) := goodIn_app (goodIn_of _ (by decide +kernel)) ggX4_pass_X4_of
theorem dX4_pass_0 : decode cX4_pass 0 = .ok (.aload_n 0, 1) := by decide +kernel
theorem dX4_pass_1 : decode cX4_pass 1 = .ok (.dup, 1) := by decide +kernel
theorem dX4_pass_2 : decode cX4_pass 2 = .ok (.getfield 35, 3) := by decide +kernel
theorem dX4_pass_5 : decode cX4_pass 5 = .ok (.iconst 1, 1) := by decide +kernel
theorem dX4_pass_6 : decode cX4_pass 6 = .ok (.iadd, 1) := by decide +kernel
theorem dX4_pass_7 : decode cX4_pass 7 = .ok (.putfield 35, 3) := by decide +kernel
theorem dX4_pass_10 : decode cX4_pass 10 = .ok (.lconst 0, 1) := by decide +kernel
theorem dX4_pass_11 : decode cX4_pass 11 = .ok (.lstore_n 2, 1) := by decide +kernel
theorem dX4_pass_12 : decode cX4_pass 12 = .ok (.iconst 0, 1) := by decide +kernel
theorem dX4_pass_13 : decode cX4_pass 13 = .ok (.istore 4, 2) := by decide +kernel
theorem dX4_pass_15 : decode cX4_pass 15 = .ok (.iload 4, 2) := by decide +kernel
theorem dX4_pass_17 : decode cX4_pass 17 = .ok (.bipush 10, 2) := by decide +kernel
theorem dX4_pass_19 : decode cX4_pass 19 = .ok (.if_icmp .ge 141, 3) := by decide +kernel
theorem dX4_pass_22 : decode cX4_pass 22 = .ok (.iload 4, 2) := by decide +kernel
theorem dX4_pass_24 : decode cX4_pass 24 = .ok (.aload_n 0, 1) := by decide +kernel
theorem dX4_pass_25 : decode cX4_pass 25 = .ok (.getfield 9, 3) := by decide +kernel
theorem dX4_pass_28 : decode cX4_pass 28 = .ok (.arraylength, 1) := by decide +kernel
theorem dX4_pass_29 : decode cX4_pass 29 = .ok (.if_icmp .ge 131, 3) := by decide +kernel
theorem dX4_pass_32 : decode cX4_pass 32 = .ok (.aload_n 0, 1) := by decide +kernel
theorem dX4_pass_33 : decode cX4_pass 33 = .ok (.getfield 9, 3) := by decide +kernel
theorem dX4_pass_36 : decode cX4_pass 36 = .ok (.iload 4, 2) := by decide +kernel
theorem dX4_pass_38 : decode cX4_pass 38 = .ok (.laload, 1) := by decide +kernel
theorem dX4_pass_39 : decode cX4_pass 39 = .ok (.lstore 5, 2) := by decide +kernel
theorem dX4_pass_41 : decode cX4_pass 41 = .ok (.iload 4, 2) := by decide +kernel
theorem dX4_pass_43 : decode cX4_pass 43 = .ok (.bipush 9, 2) := by decide +kernel
theorem dX4_pass_45 : decode cX4_pass 45 = .ok (.if_icmp .ge 14, 3) := by decide +kernel
theorem dX4_pass_48 : decode cX4_pass 48 = .ok (.aload_n 0, 1) := by decide +kernel
theorem dX4_pass_49 : decode cX4_pass 49 = .ok (.iload 4, 2) := by decide +kernel
theorem dX4_pass_51 : decode cX4_pass 51 = .ok (.iconst 1, 1) := by decide +kernel
theorem dX4_pass_52 : decode cX4_pass 52 = .ok (.iadd, 1) := by decide +kernel
theorem dX4_pass_53 : decode cX4_pass 53 = .ok (.invokevirtual 41, 3) := by decide +kernel
theorem dX4_pass_56 : decode cX4_pass 56 = .ok (.goto 4, 3) := by decide +kernel
theorem dX4_pass_59 : decode cX4_pass 59 = .ok (.lconst 0, 1) := by decide +kernel
theorem dX4_pass_60 : decode cX4_pass 60 = .ok (.lstore 7, 2) := by decide +kernel
theorem dX4_pass_62 : decode cX4_pass 62 = .ok (.bipush 10, 2) := by decide +kernel
theorem dX4_pass_64 : decode cX4_pass 64 = .ok (.aload_n 1, 1) := by decide +kernel
theorem dX4_pass_65 : decode cX4_pass 65 = .ok (.getfield 75, 3) := by decide +kernel
theorem dX4_pass_68 : decode cX4_pass 68 = .ok (.isub, 1) := by decide +kernel
theorem dX4_pass_69 : decode cX4_pass 69 = .ok (.aload_n 1, 1) := by decide +kernel
theorem dX4_pass_70 : decode cX4_pass 70 = .ok (.getfield 78, 3) := by decide +kernel
theorem dX4_pass_73 : decode cX4_pass 73 = .ok (.isub, 1) := by decide +kernel
theorem dX4_pass_74 : decode cX4_pass 74 = .ok (.istore 9, 2) := by decide +kernel
theorem dX4_pass_76 : decode cX4_pass 76 = .ok (.iload 4, 2) := by decide +kernel
theorem dX4_pass_78 : decode cX4_pass 78 = .ok (.ifCond .ne 12, 3) := by decide +kernel
theorem dX4_pass_81 : decode cX4_pass 81 = .ok (.iload 9, 2) := by decide +kernel
theorem dX4_pass_83 : decode cX4_pass 83 = .ok (.aload_n 1, 1) := by decide +kernel
theorem dX4_pass_84 : decode cX4_pass 84 = .ok (.getfield 78, 3) := by decide +kernel
theorem dX4_pass_87 : decode cX4_pass 87 = .ok (.iadd, 1) := by decide +kernel
theorem dX4_pass_88 : decode cX4_pass 88 = .ok (.istore 9, 2) := by decide +kernel
theorem dX4_pass_90 : decode cX4_pass 90 = .ok (.iload 4, 2) := by decide +kernel
theorem dX4_pass_92 : decode cX4_pass 92 = .ok (.bipush 9, 2) := by decide +kernel
theorem dX4_pass_94 : decode cX4_pass 94 = .ok (.if_icmp .ne 12, 3) := by decide +kernel
theorem dX4_pass_97 : decode cX4_pass 97 = .ok (.iload 9, 2) := by decide +kernel
theorem dX4_pass_99 : decode cX4_pass 99 = .ok (.aload_n 1, 1) := by decide +kernel
theorem dX4_pass_100 : decode cX4_pass 100 = .ok (.getfield 75, 3) := by decide +kernel
theorem dX4_pass_103 : decode cX4_pass 103 = .ok (.iadd, 1) := by decide +kernel
theorem dX4_pass_104 : decode cX4_pass 104 = .ok (.istore 9, 2) := by decide +kernel
theorem dX4_pass_106 : decode cX4_pass 106 = .ok (.aload_n 0, 1) := by decide +kernel
theorem dX4_pass_107 : decode cX4_pass 107 = .ok (.getfield 9, 3) := by decide +kernel
theorem dX4_pass_110 : decode cX4_pass 110 = .ok (.iload 4, 2) := by decide +kernel
theorem dX4_pass_112 : decode cX4_pass 112 = .ok (.aload_n 0, 1) := by decide +kernel
theorem dX4_pass_113 : decode cX4_pass 113 = .ok (.getfield 35, 3) := by decide +kernel
theorem dX4_pass_116 : decode cX4_pass 116 = .ok (.aload_n 1, 1) := by decide +kernel
theorem dX4_pass_117 : decode cX4_pass 117 = .ok (.getfield 81, 3) := by decide +kernel
theorem dX4_pass_120 : decode cX4_pass 120 = .ok (.if_icmp .lt 7, 3) := by decide +kernel
theorem dX4_pass_123 : decode cX4_pass 123 = .ok (.lconst 0, 1) := by decide +kernel
theorem dX4_pass_124 : decode cX4_pass 124 = .ok (.goto 26, 3) := by decide +kernel
theorem dX4_pass_127 : decode cX4_pass 127 = .ok (.lload 5, 2) := by decide +kernel
theorem dX4_pass_129 : decode cX4_pass 129 = .ok (.iload 9, 2) := by decide +kernel
theorem dX4_pass_131 : decode cX4_pass 131 = .ok (.i2l, 1) := by decide +kernel
theorem dX4_pass_132 : decode cX4_pass 132 = .ok (.lmul, 1) := by decide +kernel
theorem dX4_pass_133 : decode cX4_pass 133 = .ok (.lload_n 2, 1) := by decide +kernel
theorem dX4_pass_134 : decode cX4_pass 134 = .ok (.aload_n 1, 1) := by decide +kernel
theorem dX4_pass_135 : decode cX4_pass 135 = .ok (.getfield 75, 3) := by decide +kernel
theorem dX4_pass_138 : decode cX4_pass 138 = .ok (.i2l, 1) := by decide +kernel
theorem dX4_pass_139 : decode cX4_pass 139 = .ok (.lmul, 1) := by decide +kernel
theorem dX4_pass_140 : decode cX4_pass 140 = .ok (.ladd, 1) := by decide +kernel
theorem dX4_pass_141 : decode cX4_pass 141 = .ok (.lload 7, 2) := by decide +kernel
theorem dX4_pass_143 : decode cX4_pass 143 = .ok (.aload_n 1, 1) := by decide +kernel
theorem dX4_pass_144 : decode cX4_pass 144 = .ok (.getfield 78, 3) := by decide +kernel
theorem dX4_pass_147 : decode cX4_pass 147 = .ok (.i2l, 1) := by decide +kernel
theorem dX4_pass_148 : decode cX4_pass 148 = .ok (.lmul, 1) := by decide +kernel
theorem dX4_pass_149 : decode cX4_pass 149 = .ok (.ladd, 1) := by decide +kernel
theorem dX4_pass_150 : decode cX4_pass 150 = .ok (.lastore, 1) := by decide +kernel
theorem dX4_pass_151 : decode cX4_pass 151 = .ok (.lload 5, 2) := by decide +kernel
theorem dX4_pass_153 : decode cX4_pass 153 = .ok (.lstore_n 2, 1) := by decide +kernel
theorem dX4_pass_154 : decode cX4_pass 154 = .ok (.iinc 4 1, 3) := by decide +kernel
theorem dX4_pass_157 : decode cX4_pass 157 = .ok (.goto (-142), 3) := by decide +kernel
theorem dX4_pass_160 : decode cX4_pass 160 = .ok (.bipush 10, 2) := by decide +kernel
theorem dX4_pass_162 : decode cX4_pass 162 = .ok (.aload_n 0, 1) := by decide +kernel
theorem dX4_pass_163 : decode cX4_pass 163 = .ok (.getfield 9, 3) := by decide +kernel
theorem dX4_pass_166 : decode cX4_pass 166 = .ok (.arraylength, 1) := by decide +kernel
theorem dX4_pass_167 : decode cX4_pass 167 = .ok (.if_icmp .ge 16, 3) := by decide +kernel
theorem dX4_pass_170 : decode cX4_pass 170 = .ok (.aload_n 0, 1) := by decide +kernel
theorem dX4_pass_171 : decode cX4_pass 171 = .ok (.getfield 9, 3) := by decide +kernel
theorem dX4_pass_174 : decode cX4_pass 174 = .ok (.bipush 10, 2) := by decide +kernel
theorem dX4_pass_176 : decode cX4_pass 176 = .ok (.dup2, 1) := by decide +kernel
theorem dX4_pass_177 : decode cX4_pass 177 = .ok (.laload, 1) := by decide +kernel
theorem dX4_pass_178 : decode cX4_pass 178 = .ok (.ldc2_w 73, 3) := by decide +kernel
theorem dX4_pass_181 : decode cX4_pass 181 = .ok (.lmul, 1) := by decide +kernel
theorem dX4_pass_182 : decode cX4_pass 182 = .ok (.lastore, 1) := by decide +kernel
theorem dX4_pass_183 : decode cX4_pass 183 = .ok (.return_, 1) := by decide +kernel
set_option maxRecDepth 20000 in
theorem ggX4_believe_X8_isWithin : GoodIn wsX4_believe wsX8_isWithin := goodIn_r _ [8] (by decide +kernel) (by decide +kernel)
set_option maxRecDepth 20000 in
theorem gX4_believe_X8_isWithin_n86 : GoodIn wsX4_believe (wsX8_isWithin) := ggX4_believe_X8_isWithin
theorem dX4_believe_0 : decode cX4_believe 0 = .ok (.iconst 0, 1) := by decide +kernel
theorem dX4_believe_1 : decode cX4_believe 1 = .ok (.istore 4, 2) := by decide +kernel
theorem dX4_believe_3 : decode cX4_believe 3 = .ok (.iload 4, 2) := by decide +kernel
theorem dX4_believe_5 : decode cX4_believe 5 = .ok (.aload_n 0, 1) := by decide +kernel
theorem dX4_believe_6 : decode cX4_believe 6 = .ok (.getfield 9, 3) := by decide +kernel
theorem dX4_believe_9 : decode cX4_believe 9 = .ok (.arraylength, 1) := by decide +kernel
theorem dX4_believe_10 : decode cX4_believe 10 = .ok (.if_icmp .ge 62, 3) := by decide +kernel
theorem dX4_believe_13 : decode cX4_believe 13 = .ok (.iload 4, 2) := by decide +kernel
theorem dX4_believe_15 : decode cX4_believe 15 = .ok (.bipush 10, 2) := by decide +kernel
theorem dX4_believe_17 : decode cX4_believe 17 = .ok (.if_icmp .ne 19, 3) := by decide +kernel
theorem dX4_believe_20 : decode cX4_believe 20 = .ok (.aload_n 0, 1) := by decide +kernel
theorem dX4_believe_21 : decode cX4_believe 21 = .ok (.getfield 9, 3) := by decide +kernel
theorem dX4_believe_24 : decode cX4_believe 24 = .ok (.iload 4, 2) := by decide +kernel
theorem dX4_believe_26 : decode cX4_believe 26 = .ok (.dup2, 1) := by decide +kernel
theorem dX4_believe_27 : decode cX4_believe 27 = .ok (.laload, 1) := by decide +kernel
theorem dX4_believe_28 : decode cX4_believe 28 = .ok (.ldc2_w 84, 3) := by decide +kernel
theorem dX4_believe_31 : decode cX4_believe 31 = .ok (.lmul, 1) := by decide +kernel
theorem dX4_believe_32 : decode cX4_believe 32 = .ok (.lastore, 1) := by decide +kernel
theorem dX4_believe_33 : decode cX4_believe 33 = .ok (.goto 33, 3) := by decide +kernel
theorem dX4_believe_36 : decode cX4_believe 36 = .ok (.aload_n 0, 1) := by decide +kernel
theorem dX4_believe_37 : decode cX4_believe 37 = .ok (.getfield 9, 3) := by decide +kernel
theorem dX4_believe_40 : decode cX4_believe 40 = .ok (.iload 4, 2) := by decide +kernel
theorem dX4_believe_42 : decode cX4_believe 42 = .ok (.dup2, 1) := by decide +kernel
theorem dX4_believe_43 : decode cX4_believe 43 = .ok (.laload, 1) := by decide +kernel
theorem dX4_believe_44 : decode cX4_believe 44 = .ok (.iload 4, 2) := by decide +kernel
theorem dX4_believe_46 : decode cX4_believe 46 = .ok (.iload_n 1, 1) := by decide +kernel
theorem dX4_believe_47 : decode cX4_believe 47 = .ok (.iload_n 2, 1) := by decide +kernel
theorem dX4_believe_48 : decode cX4_believe 48 = .ok (.invokestatic 86, 3) := by decide +kernel
theorem dX4_believe_51 : decode cX4_believe 51 = .ok (.ifCond .eq 8, 3) := by decide +kernel
theorem dX4_believe_54 : decode cX4_believe 54 = .ok (.iload_n 3, 1) := by decide +kernel
theorem dX4_believe_55 : decode cX4_believe 55 = .ok (.i2l, 1) := by decide +kernel
theorem dX4_believe_56 : decode cX4_believe 56 = .ok (.goto 8, 3) := by decide +kernel
theorem dX4_believe_59 : decode cX4_believe 59 = .ok (.bipush 10, 2) := by decide +kernel
theorem dX4_believe_61 : decode cX4_believe 61 = .ok (.iload_n 3, 1) := by decide +kernel
theorem dX4_believe_62 : decode cX4_believe 62 = .ok (.isub, 1) := by decide +kernel
theorem dX4_believe_63 : decode cX4_believe 63 = .ok (.i2l, 1) := by decide +kernel
theorem dX4_believe_64 : decode cX4_believe 64 = .ok (.lmul, 1) := by decide +kernel
theorem dX4_believe_65 : decode cX4_believe 65 = .ok (.lastore, 1) := by decide +kernel
theorem dX4_believe_66 : decode cX4_believe 66 = .ok (.iinc 4 1, 3) := by decide +kernel
theorem dX4_believe_69 : decode cX4_believe 69 = .ok (.goto (-66), 3) := by decide +kernel
theorem dX4_believe_72 : decode cX4_believe 72 = .ok (.aload_n 0, 1) := by decide +kernel
theorem dX4_believe_73 : decode cX4_believe 73 = .ok (.getfield 38, 3) := by decide +kernel
theorem dX4_believe_76 : decode cX4_believe 76 = .ok (.ifCond .lt 57, 3) := by decide +kernel
theorem dX4_believe_79 : decode cX4_believe 79 = .ok (.aload_n 0, 1) := by decide +kernel
theorem dX4_believe_80 : decode cX4_believe 80 = .ok (.getfield 38, 3) := by decide +kernel
theorem dX4_believe_83 : decode cX4_believe 83 = .ok (.aload_n 0, 1) := by decide +kernel
theorem dX4_believe_84 : decode cX4_believe 84 = .ok (.getfield 15, 3) := by decide +kernel
theorem dX4_believe_87 : decode cX4_believe 87 = .ok (.arraylength, 1) := by decide +kernel
theorem dX4_believe_88 : decode cX4_believe 88 = .ok (.if_icmp .ge 45, 3) := by decide +kernel
theorem dX4_believe_91 : decode cX4_believe 91 = .ok (.aload_n 0, 1) := by decide +kernel
theorem dX4_believe_92 : decode cX4_believe 92 = .ok (.getfield 38, 3) := by decide +kernel
theorem dX4_believe_95 : decode cX4_believe 95 = .ok (.aload_n 0, 1) := by decide +kernel
theorem dX4_believe_96 : decode cX4_believe 96 = .ok (.getfield 19, 3) := by decide +kernel
theorem dX4_believe_99 : decode cX4_believe 99 = .ok (.arraylength, 1) := by decide +kernel
theorem dX4_believe_100 : decode cX4_believe 100 = .ok (.if_icmp .ge 33, 3) := by decide +kernel
theorem dX4_believe_103 : decode cX4_believe 103 = .ok (.aload_n 0, 1) := by decide +kernel
theorem dX4_believe_104 : decode cX4_believe 104 = .ok (.getfield 15, 3) := by decide +kernel
theorem dX4_believe_107 : decode cX4_believe 107 = .ok (.aload_n 0, 1) := by decide +kernel
theorem dX4_believe_108 : decode cX4_believe 108 = .ok (.getfield 38, 3) := by decide +kernel
theorem dX4_believe_111 : decode cX4_believe 111 = .ok (.iload_n 1, 1) := by decide +kernel
theorem dX4_believe_112 : decode cX4_believe 112 = .ok (.iastore, 1) := by decide +kernel
theorem dX4_believe_113 : decode cX4_believe 113 = .ok (.aload_n 0, 1) := by decide +kernel
theorem dX4_believe_114 : decode cX4_believe 114 = .ok (.getfield 19, 3) := by decide +kernel
theorem dX4_believe_117 : decode cX4_believe 117 = .ok (.aload_n 0, 1) := by decide +kernel
theorem dX4_believe_118 : decode cX4_believe 118 = .ok (.getfield 38, 3) := by decide +kernel
theorem dX4_believe_121 : decode cX4_believe 121 = .ok (.iload_n 2, 1) := by decide +kernel
theorem dX4_believe_122 : decode cX4_believe 122 = .ok (.iastore, 1) := by decide +kernel
theorem dX4_believe_123 : decode cX4_believe 123 = .ok (.aload_n 0, 1) := by decide +kernel
theorem dX4_believe_124 : decode cX4_believe 124 = .ok (.dup, 1) := by decide +kernel
theorem dX4_believe_125 : decode cX4_believe 125 = .ok (.getfield 38, 3) := by decide +kernel
theorem dX4_believe_128 : decode cX4_believe 128 = .ok (.iconst 1, 1) := by decide +kernel
theorem dX4_believe_129 : decode cX4_believe 129 = .ok (.iadd, 1) := by decide +kernel
theorem dX4_believe_130 : decode cX4_believe 130 = .ok (.putfield 38, 3) := by decide +kernel
theorem dX4_believe_133 : decode cX4_believe 133 = .ok (.return_, 1) := by decide +kernel
set_option maxRecDepth 20000 in
theorem ggX5_init_X4_init : GoodIn wsX5_init wsX4_init := goodIn_r _ [14, 15, 2, 3, 16, 17, 18, 19, 20, 22, 23, 24, 25, 26, 27] (by decide +kernel) (by decide +kernel)
set_option maxRecDepth 20000 in
theorem gX5_init_X4_init : GoodIn wsX5_init (wsX4_init) := ggX5_init_X4_init
theorem dX5_init_0 : decode cX5_init 0 = .ok (.aload_n 0, 1) := by decide +kernel
theorem dX5_init_1 : decode cX5_init 1 = .ok (.invokespecial 1, 3) := by decide +kernel
theorem dX5_init_4 : decode cX5_init 4 = .ok (.aload_n 0, 1) := by decide +kernel
theorem dX5_init_5 : decode cX5_init 5 = .ok (.iload_n 1, 1) := by decide +kernel
theorem dX5_init_6 : decode cX5_init 6 = .ok (.iconst 0, 1) := by decide +kernel
theorem dX5_init_7 : decode cX5_init 7 = .ok (.invokestatic 7, 3) := by decide +kernel
theorem dX5_init_10 : decode cX5_init 10 = .ok (.anewarray 13, 3) := by decide +kernel
theorem dX5_init_13 : decode cX5_init 13 = .ok (.putfield 15, 3) := by decide +kernel
theorem dX5_init_16 : decode cX5_init 16 = .ok (.iconst 0, 1) := by decide +kernel
theorem dX5_init_17 : decode cX5_init 17 = .ok (.istore_n 2, 1) := by decide +kernel
theorem dX5_init_18 : decode cX5_init 18 = .ok (.iload_n 2, 1) := by decide +kernel
theorem dX5_init_19 : decode cX5_init 19 = .ok (.aload_n 0, 1) := by decide +kernel
theorem dX5_init_20 : decode cX5_init 20 = .ok (.getfield 15, 3) := by decide +kernel
theorem dX5_init_23 : decode cX5_init 23 = .ok (.arraylength, 1) := by decide +kernel
theorem dX5_init_24 : decode cX5_init 24 = .ok (.if_icmp .ge 22, 3) := by decide +kernel
theorem dX5_init_27 : decode cX5_init 27 = .ok (.aload_n 0, 1) := by decide +kernel
theorem dX5_init_28 : decode cX5_init 28 = .ok (.getfield 15, 3) := by decide +kernel
theorem dX5_init_31 : decode cX5_init 31 = .ok (.iload_n 2, 1) := by decide +kernel
theorem dX5_init_32 : decode cX5_init 32 = .ok (.new 13, 3) := by decide +kernel
theorem dX5_init_35 : decode cX5_init 35 = .ok (.dup, 1) := by decide +kernel
theorem dX5_init_36 : decode cX5_init 36 = .ok (.invokespecial 21, 3) := by decide +kernel
theorem dX5_init_39 : decode cX5_init 39 = .ok (.aastore, 1) := by decide +kernel
theorem dX5_init_40 : decode cX5_init 40 = .ok (.iinc 2 1, 3) := by decide +kernel
theorem dX5_init_43 : decode cX5_init 43 = .ok (.goto (-25), 3) := by decide +kernel
theorem dX5_init_46 : decode cX5_init 46 = .ok (.return_, 1) := by decide +kernel
theorem dX5_at_0 : decode cX5_at 0 = .ok (.iload_n 1, 1) := by decide +kernel
theorem dX5_at_1 : decode cX5_at 1 = .ok (.ifCond .lt 21, 3) := by decide +kernel
theorem dX5_at_4 : decode cX5_at 4 = .ok (.iload_n 1, 1) := by decide +kernel
theorem dX5_at_5 : decode cX5_at 5 = .ok (.aload_n 0, 1) := by decide +kernel
theorem dX5_at_6 : decode cX5_at 6 = .ok (.getfield 15, 3) := by decide +kernel
theorem dX5_at_9 : decode cX5_at 9 = .ok (.arraylength, 1) := by decide +kernel
theorem dX5_at_10 : decode cX5_at 10 = .ok (.if_icmp .ge 12, 3) := by decide +kernel
theorem dX5_at_13 : decode cX5_at 13 = .ok (.aload_n 0, 1) := by decide +kernel
theorem dX5_at_14 : decode cX5_at 14 = .ok (.getfield 15, 3) := by decide +kernel
theorem dX5_at_17 : decode cX5_at 17 = .ok (.iload_n 1, 1) := by decide +kernel
theorem dX5_at_18 : decode cX5_at 18 = .ok (.aaload, 1) := by decide +kernel
theorem dX5_at_19 : decode cX5_at 19 = .ok (.goto 4, 3) := by decide +kernel
theorem dX5_at_22 : decode cX5_at 22 = .ok (.aconst_null, 1) := by decide +kernel
theorem dX5_at_23 : decode cX5_at 23 = .ok (.areturn, 1) := by decide +kernel
set_option maxRecDepth 20000 in
theorem ggX5_put_X5_at : GoodIn wsX5_put wsX5_at := goodIn_r _ [5, 6, 30] (by decide +kernel) (by decide +kernel)
set_option maxRecDepth 20000 in
theorem gX5_put_X5_at : GoodIn wsX5_put (wsV RX5 22 RX5 yX5_at wsX5_at) := goodIn_app (goodIn_of _ (by decide +kernel)) ggX5_put_X5_at
set_option maxRecDepth 20000 in
theorem ggX5_put_X4_copy : GoodIn wsX5_put wsX4_copy := goodIn_r _ [11, 12, 13, 14, 15, 16, 17, 18, 19, 20, 10, 21, 22, 23, 24, 25, 26, 27, 28, 29, 31, 32, 33, 34, 35, 36] (by decide +kernel) (by decide +kernel)
set_option maxRecDepth 20000 in
theorem gX5_put_X4_copy : GoodIn wsX5_put (wsV RX5 26 RX4 yX4_copy wsX4_copy) := goodIn_app (goodIn_of _ (by decide +kernel)) ggX5_put_X4_copy
theorem dX5_put_0 : decode cX5_put 0 = .ok (.aload_n 0, 1) := by decide +kernel
theorem dX5_put_1 : decode cX5_put 1 = .ok (.iload_n 1, 1) := by decide +kernel
theorem dX5_put_2 : decode cX5_put 2 = .ok (.invokevirtual 22, 3) := by decide +kernel
theorem dX5_put_5 : decode cX5_put 5 = .ok (.astore_n 3, 1) := by decide +kernel
theorem dX5_put_6 : decode cX5_put 6 = .ok (.aload_n 3, 1) := by decide +kernel
theorem dX5_put_7 : decode cX5_put 7 = .ok (.ifnull 8, 3) := by decide +kernel
theorem dX5_put_10 : decode cX5_put 10 = .ok (.aload_n 3, 1) := by decide +kernel
theorem dX5_put_11 : decode cX5_put 11 = .ok (.aload_n 2, 1) := by decide +kernel
theorem dX5_put_12 : decode cX5_put 12 = .ok (.invokevirtual 26, 3) := by decide +kernel
theorem dX5_put_15 : decode cX5_put 15 = .ok (.return_, 1) := by decide +kernel
set_option maxRecDepth 20000 in
theorem ggX5_give_X5_at : GoodIn wsX5_give wsX5_at := goodIn_r _ [5, 6, 30] (by decide +kernel) (by decide +kernel)
set_option maxRecDepth 20000 in
theorem gX5_give_X5_at : GoodIn wsX5_give (wsV RX5 22 RX5 yX5_at wsX5_at) := goodIn_app (goodIn_of _ (by decide +kernel)) ggX5_give_X5_at
set_option maxRecDepth 20000 in
theorem ggX5_give_X4_copy : GoodIn wsX5_give wsX4_copy := goodIn_r _ [11, 12, 13, 14, 15, 16, 17, 18, 19, 20, 10, 21, 22, 23, 24, 25, 26, 27, 28, 29, 31, 32, 33, 34, 35, 36] (by decide +kernel) (by decide +kernel)
set_option maxRecDepth 20000 in
theorem gX5_give_X4_copy : GoodIn wsX5_give (wsV RX5 26 RX4 yX4_copy wsX4_copy) := goodIn_app (goodIn_of _ (by decide +kernel)) ggX5_give_X4_copy
theorem dX5_give_0 : decode cX5_give 0 = .ok (.aload_n 0, 1) := by decide +kernel
theorem dX5_give_1 : decode cX5_give 1 = .ok (.iload_n 1, 1) := by decide +kernel
theorem dX5_give_2 : decode cX5_give 2 = .ok (.invokevirtual 22, 3) := by decide +kernel
theorem dX5_give_5 : decode cX5_give 5 = .ok (.astore_n 3, 1) := by decide +kernel
theorem dX5_give_6 : decode cX5_give 6 = .ok (.aload_n 3, 1) := by decide +kernel
theorem dX5_give_7 : decode cX5_give 7 = .ok (.ifnull 8, 3) := by decide +kernel
theorem dX5_give_10 : decode cX5_give 10 = .ok (.aload_n 2, 1) := by decide +kernel
theorem dX5_give_11 : decode cX5_give 11 = .ok (.aload_n 3, 1) := by decide +kernel
theorem dX5_give_12 : decode cX5_give 12 = .ok (.invokevirtual 26, 3) := by decide +kernel
theorem dX5_give_15 : decode cX5_give 15 = .ok (.return_, 1) := by decide +kernel
theorem dX6_init_0 : decode cX6_init 0 = .ok (.aload_n 0, 1) := by decide +kernel
theorem dX6_init_1 : decode cX6_init 1 = .ok (.invokespecial 3, 3) := by decide +kernel
theorem dX6_init_4 : decode cX6_init 4 = .ok (.aload_n 0, 1) := by decide +kernel
theorem dX6_init_5 : decode cX6_init 5 = .ok (.bipush 40, 2) := by decide +kernel
theorem dX6_init_7 : decode cX6_init 7 = .ok (.newarray .int, 2) := by decide +kernel
theorem dX6_init_9 : decode cX6_init 9 = .ok (.putfield 11, 3) := by decide +kernel
theorem dX6_init_12 : decode cX6_init 12 = .ok (.return_, 1) := by decide +kernel
theorem dX6_size_0 : decode cX6_size 0 = .ok (.aload_n 0, 1) := by decide +kernel
theorem dX6_size_1 : decode cX6_size 1 = .ok (.getfield 15, 3) := by decide +kernel
theorem dX6_size_4 : decode cX6_size 4 = .ok (.ireturn, 1) := by decide +kernel
theorem dX6_isFull_0 : decode cX6_isFull 0 = .ok (.aload_n 0, 1) := by decide +kernel
theorem dX6_isFull_1 : decode cX6_isFull 1 = .ok (.getfield 15, 3) := by decide +kernel
theorem dX6_isFull_4 : decode cX6_isFull 4 = .ok (.aload_n 0, 1) := by decide +kernel
theorem dX6_isFull_5 : decode cX6_isFull 5 = .ok (.getfield 11, 3) := by decide +kernel
theorem dX6_isFull_8 : decode cX6_isFull 8 = .ok (.arraylength, 1) := by decide +kernel
theorem dX6_isFull_9 : decode cX6_isFull 9 = .ok (.if_icmp .lt 7, 3) := by decide +kernel
theorem dX6_isFull_12 : decode cX6_isFull 12 = .ok (.iconst 1, 1) := by decide +kernel
theorem dX6_isFull_13 : decode cX6_isFull 13 = .ok (.goto 4, 3) := by decide +kernel
theorem dX6_isFull_16 : decode cX6_isFull 16 = .ok (.iconst 0, 1) := by decide +kernel
theorem dX6_isFull_17 : decode cX6_isFull 17 = .ok (.ireturn, 1) := by decide +kernel
theorem dX6_add_0 : decode cX6_add 0 = .ok (.aload_n 0, 1) := by decide +kernel
theorem dX6_add_1 : decode cX6_add 1 = .ok (.getfield 15, 3) := by decide +kernel
theorem dX6_add_4 : decode cX6_add 4 = .ok (.ifCond .lt 35, 3) := by decide +kernel
theorem dX6_add_7 : decode cX6_add 7 = .ok (.aload_n 0, 1) := by decide +kernel
theorem dX6_add_8 : decode cX6_add 8 = .ok (.getfield 15, 3) := by decide +kernel
theorem dX6_add_11 : decode cX6_add 11 = .ok (.aload_n 0, 1) := by decide +kernel
theorem dX6_add_12 : decode cX6_add 12 = .ok (.getfield 11, 3) := by decide +kernel
theorem dX6_add_15 : decode cX6_add 15 = .ok (.arraylength, 1) := by decide +kernel
theorem dX6_add_16 : decode cX6_add 16 = .ok (.if_icmp .ge 23, 3) := by decide +kernel
theorem dX6_add_19 : decode cX6_add 19 = .ok (.aload_n 0, 1) := by decide +kernel
theorem dX6_add_20 : decode cX6_add 20 = .ok (.getfield 11, 3) := by decide +kernel
theorem dX6_add_23 : decode cX6_add 23 = .ok (.aload_n 0, 1) := by decide +kernel
theorem dX6_add_24 : decode cX6_add 24 = .ok (.getfield 15, 3) := by decide +kernel
theorem dX6_add_27 : decode cX6_add 27 = .ok (.iload_n 1, 1) := by decide +kernel
theorem dX6_add_28 : decode cX6_add 28 = .ok (.iastore, 1) := by decide +kernel
theorem dX6_add_29 : decode cX6_add 29 = .ok (.aload_n 0, 1) := by decide +kernel
theorem dX6_add_30 : decode cX6_add 30 = .ok (.dup, 1) := by decide +kernel
theorem dX6_add_31 : decode cX6_add 31 = .ok (.getfield 15, 3) := by decide +kernel
theorem dX6_add_34 : decode cX6_add 34 = .ok (.iconst 1, 1) := by decide +kernel
theorem dX6_add_35 : decode cX6_add 35 = .ok (.iadd, 1) := by decide +kernel
theorem dX6_add_36 : decode cX6_add 36 = .ok (.putfield 15, 3) := by decide +kernel
theorem dX6_add_39 : decode cX6_add 39 = .ok (.aload_n 0, 1) := by decide +kernel
theorem dX6_add_40 : decode cX6_add 40 = .ok (.getfield 15, 3) := by decide +kernel
theorem dX6_add_43 : decode cX6_add 43 = .ok (.ireturn, 1) := by decide +kernel
theorem dX6_clear_0 : decode cX6_clear 0 = .ok (.aload_n 0, 1) := by decide +kernel
theorem dX6_clear_1 : decode cX6_clear 1 = .ok (.getfield 15, 3) := by decide +kernel
theorem dX6_clear_4 : decode cX6_clear 4 = .ok (.istore_n 1, 1) := by decide +kernel
theorem dX6_clear_5 : decode cX6_clear 5 = .ok (.aload_n 0, 1) := by decide +kernel
theorem dX6_clear_6 : decode cX6_clear 6 = .ok (.iconst 0, 1) := by decide +kernel
theorem dX6_clear_7 : decode cX6_clear 7 = .ok (.putfield 15, 3) := by decide +kernel
theorem dX6_clear_10 : decode cX6_clear 10 = .ok (.iload_n 1, 1) := by decide +kernel
theorem dX6_clear_11 : decode cX6_clear 11 = .ok (.ireturn, 1) := by decide +kernel
theorem dX6_letterAt_0 : decode cX6_letterAt 0 = .ok (.iload_n 1, 1) := by decide +kernel
theorem dX6_letterAt_1 : decode cX6_letterAt 1 = .ok (.ifCond .lt 29, 3) := by decide +kernel
theorem dX6_letterAt_4 : decode cX6_letterAt 4 = .ok (.iload_n 1, 1) := by decide +kernel
theorem dX6_letterAt_5 : decode cX6_letterAt 5 = .ok (.aload_n 0, 1) := by decide +kernel
theorem dX6_letterAt_6 : decode cX6_letterAt 6 = .ok (.getfield 15, 3) := by decide +kernel
theorem dX6_letterAt_9 : decode cX6_letterAt 9 = .ok (.if_icmp .ge 21, 3) := by decide +kernel
theorem dX6_letterAt_12 : decode cX6_letterAt 12 = .ok (.iload_n 1, 1) := by decide +kernel
theorem dX6_letterAt_13 : decode cX6_letterAt 13 = .ok (.aload_n 0, 1) := by decide +kernel
theorem dX6_letterAt_14 : decode cX6_letterAt 14 = .ok (.getfield 11, 3) := by decide +kernel
theorem dX6_letterAt_17 : decode cX6_letterAt 17 = .ok (.arraylength, 1) := by decide +kernel
theorem dX6_letterAt_18 : decode cX6_letterAt 18 = .ok (.if_icmp .ge 12, 3) := by decide +kernel
theorem dX6_letterAt_21 : decode cX6_letterAt 21 = .ok (.aload_n 0, 1) := by decide +kernel
theorem dX6_letterAt_22 : decode cX6_letterAt 22 = .ok (.getfield 11, 3) := by decide +kernel
theorem dX6_letterAt_25 : decode cX6_letterAt 25 = .ok (.iload_n 1, 1) := by decide +kernel
theorem dX6_letterAt_26 : decode cX6_letterAt 26 = .ok (.iaload, 1) := by decide +kernel
theorem dX6_letterAt_27 : decode cX6_letterAt 27 = .ok (.goto 5, 3) := by decide +kernel
theorem dX6_letterAt_30 : decode cX6_letterAt 30 = .ok (.bipush (-9), 2) := by decide +kernel
theorem dX6_letterAt_32 : decode cX6_letterAt 32 = .ok (.ireturn, 1) := by decide +kernel
set_option maxRecDepth 20000 in
theorem ggX6_digitAt_X6_letterAt : GoodIn wsX6_digitAt wsX6_letterAt := goodIn_r _ [5, 6, 7, 8, 9, 10, 11, 12, 13] (by decide +kernel) (by decide +kernel)
set_option maxRecDepth 20000 in
theorem gX6_digitAt_X6_letterAt : GoodIn wsX6_digitAt (wsV RX6 19 RX6 yX6_letterAt wsX6_letterAt) := goodIn_app (goodIn_of _ (by decide +kernel)) ggX6_digitAt_X6_letterAt
theorem dX6_digitAt_0 : decode cX6_digitAt 0 = .ok (.aload_n 0, 1) := by decide +kernel
theorem dX6_digitAt_1 : decode cX6_digitAt 1 = .ok (.iload_n 1, 1) := by decide +kernel
theorem dX6_digitAt_2 : decode cX6_digitAt 2 = .ok (.invokevirtual 19, 3) := by decide +kernel
theorem dX6_digitAt_5 : decode cX6_digitAt 5 = .ok (.istore_n 2, 1) := by decide +kernel
theorem dX6_digitAt_6 : decode cX6_digitAt 6 = .ok (.iload_n 2, 1) := by decide +kernel
theorem dX6_digitAt_7 : decode cX6_digitAt 7 = .ok (.bipush 48, 2) := by decide +kernel
theorem dX6_digitAt_9 : decode cX6_digitAt 9 = .ok (.if_icmp .lt 16, 3) := by decide +kernel
theorem dX6_digitAt_12 : decode cX6_digitAt 12 = .ok (.iload_n 2, 1) := by decide +kernel
theorem dX6_digitAt_13 : decode cX6_digitAt 13 = .ok (.bipush 57, 2) := by decide +kernel
theorem dX6_digitAt_15 : decode cX6_digitAt 15 = .ok (.if_icmp .gt 10, 3) := by decide +kernel
theorem dX6_digitAt_18 : decode cX6_digitAt 18 = .ok (.iload_n 2, 1) := by decide +kernel
theorem dX6_digitAt_19 : decode cX6_digitAt 19 = .ok (.bipush 48, 2) := by decide +kernel
theorem dX6_digitAt_21 : decode cX6_digitAt 21 = .ok (.isub, 1) := by decide +kernel
theorem dX6_digitAt_22 : decode cX6_digitAt 22 = .ok (.goto 5, 3) := by decide +kernel
theorem dX6_digitAt_25 : decode cX6_digitAt 25 = .ok (.bipush (-9), 2) := by decide +kernel
theorem dX6_digitAt_27 : decode cX6_digitAt 27 = .ok (.ireturn, 1) := by decide +kernel
set_option maxRecDepth 20000 in
theorem ggX6_firstFault_X6_headFits : GoodIn wsX6_firstFault wsX6_headFits := goodIn_r _ [10, 11, 12, 13, 9, 14, 15, 16, 17, 18, 5, 19, 32, 33, 34, 35, 36, 37] (by decide +kernel) (by decide +kernel)
set_option maxRecDepth 20000 in
theorem gX6_firstFault_X6_headFits : GoodIn wsX6_firstFault (wsV RX6 36 RX6 yX6_headFits wsX6_headFits) := goodIn_app (goodIn_of _ (by decide +kernel)) ggX6_firstFault_X6_headFits
set_option maxRecDepth 20000 in
theorem ggX6_firstFault_X6_partFits : GoodIn wsX6_firstFault wsX6_partFits := goodIn_r _ [23, 1, 11, 12, 13, 9, 14, 15, 16, 17, 18, 5, 19, 24, 25, 26, 27, 2, 3, 4, 28, 29, 30, 31, 32, 33, 34, 35, 36, 37] (by decide +kernel) (by decide +kernel)
set_option maxRecDepth 20000 in
theorem gX6_firstFault_X6_partFits : GoodIn wsX6_firstFault (wsV RX6 40 RX6 yX6_partFits wsX6_partFits) := goodIn_app (goodIn_of _ (by decide +kernel)) ggX6_firstFault_X6_partFits
theorem dX6_firstFault_0 : decode cX6_firstFault 0 = .ok (.aload_n 0, 1) := by decide +kernel
theorem dX6_firstFault_1 : decode cX6_firstFault 1 = .ok (.iconst 0, 1) := by decide +kernel
theorem dX6_firstFault_2 : decode cX6_firstFault 2 = .ok (.putfield 23, 3) := by decide +kernel
theorem dX6_firstFault_5 : decode cX6_firstFault 5 = .ok (.aload_n 0, 1) := by decide +kernel
theorem dX6_firstFault_6 : decode cX6_firstFault 6 = .ok (.sipush 1023, 3) := by decide +kernel
theorem dX6_firstFault_9 : decode cX6_firstFault 9 = .ok (.putfield 26, 3) := by decide +kernel
theorem dX6_firstFault_12 : decode cX6_firstFault 12 = .ok (.aload_n 0, 1) := by decide +kernel
theorem dX6_firstFault_13 : decode cX6_firstFault 13 = .ok (.iconst 1, 1) := by decide +kernel
theorem dX6_firstFault_14 : decode cX6_firstFault 14 = .ok (.putfield 29, 3) := by decide +kernel
theorem dX6_firstFault_17 : decode cX6_firstFault 17 = .ok (.aload_n 0, 1) := by decide +kernel
theorem dX6_firstFault_18 : decode cX6_firstFault 18 = .ok (.iconst 1, 1) := by decide +kernel
theorem dX6_firstFault_19 : decode cX6_firstFault 19 = .ok (.putfield 33, 3) := by decide +kernel
theorem dX6_firstFault_22 : decode cX6_firstFault 22 = .ok (.iconst 0, 1) := by decide +kernel
theorem dX6_firstFault_23 : decode cX6_firstFault 23 = .ok (.istore_n 1, 1) := by decide +kernel
theorem dX6_firstFault_24 : decode cX6_firstFault 24 = .ok (.iload_n 1, 1) := by decide +kernel
theorem dX6_firstFault_25 : decode cX6_firstFault 25 = .ok (.aload_n 0, 1) := by decide +kernel
theorem dX6_firstFault_26 : decode cX6_firstFault 26 = .ok (.getfield 15, 3) := by decide +kernel
theorem dX6_firstFault_29 : decode cX6_firstFault 29 = .ok (.if_icmp .ge 35, 3) := by decide +kernel
theorem dX6_firstFault_32 : decode cX6_firstFault 32 = .ok (.iload_n 1, 1) := by decide +kernel
theorem dX6_firstFault_33 : decode cX6_firstFault 33 = .ok (.bipush 7, 2) := by decide +kernel
theorem dX6_firstFault_35 : decode cX6_firstFault 35 = .ok (.if_icmp .ge 11, 3) := by decide +kernel
theorem dX6_firstFault_38 : decode cX6_firstFault 38 = .ok (.aload_n 0, 1) := by decide +kernel
theorem dX6_firstFault_39 : decode cX6_firstFault 39 = .ok (.iload_n 1, 1) := by decide +kernel
theorem dX6_firstFault_40 : decode cX6_firstFault 40 = .ok (.invokevirtual 36, 3) := by decide +kernel
theorem dX6_firstFault_43 : decode cX6_firstFault 43 = .ok (.goto 8, 3) := by decide +kernel
theorem dX6_firstFault_46 : decode cX6_firstFault 46 = .ok (.aload_n 0, 1) := by decide +kernel
theorem dX6_firstFault_47 : decode cX6_firstFault 47 = .ok (.iload_n 1, 1) := by decide +kernel
theorem dX6_firstFault_48 : decode cX6_firstFault 48 = .ok (.invokevirtual 40, 3) := by decide +kernel
theorem dX6_firstFault_51 : decode cX6_firstFault 51 = .ok (.istore_n 2, 1) := by decide +kernel
theorem dX6_firstFault_52 : decode cX6_firstFault 52 = .ok (.iload_n 2, 1) := by decide +kernel
theorem dX6_firstFault_53 : decode cX6_firstFault 53 = .ok (.ifCond .ne 5, 3) := by decide +kernel
theorem dX6_firstFault_56 : decode cX6_firstFault 56 = .ok (.iload_n 1, 1) := by decide +kernel
theorem dX6_firstFault_57 : decode cX6_firstFault 57 = .ok (.ireturn, 1) := by decide +kernel
theorem dX6_firstFault_58 : decode cX6_firstFault 58 = .ok (.iinc 1 1, 3) := by decide +kernel
theorem dX6_firstFault_61 : decode cX6_firstFault 61 = .ok (.goto (-37), 3) := by decide +kernel
theorem dX6_firstFault_64 : decode cX6_firstFault 64 = .ok (.aload_n 0, 1) := by decide +kernel
theorem dX6_firstFault_65 : decode cX6_firstFault 65 = .ok (.getfield 15, 3) := by decide +kernel
theorem dX6_firstFault_68 : decode cX6_firstFault 68 = .ok (.bipush 7, 2) := by decide +kernel
theorem dX6_firstFault_70 : decode cX6_firstFault 70 = .ok (.if_icmp .lt 10, 3) := by decide +kernel
theorem dX6_firstFault_73 : decode cX6_firstFault 73 = .ok (.aload_n 0, 1) := by decide +kernel
theorem dX6_firstFault_74 : decode cX6_firstFault 74 = .ok (.getfield 23, 3) := by decide +kernel
theorem dX6_firstFault_77 : decode cX6_firstFault 77 = .ok (.ifCond .eq 10, 3) := by decide +kernel
theorem dX6_firstFault_80 : decode cX6_firstFault 80 = .ok (.aload_n 0, 1) := by decide +kernel
theorem dX6_firstFault_81 : decode cX6_firstFault 81 = .ok (.getfield 15, 3) := by decide +kernel
theorem dX6_firstFault_84 : decode cX6_firstFault 84 = .ok (.goto 5, 3) := by decide +kernel
theorem dX6_firstFault_87 : decode cX6_firstFault 87 = .ok (.bipush (-9), 2) := by decide +kernel
theorem dX6_firstFault_89 : decode cX6_firstFault 89 = .ok (.ireturn, 1) := by decide +kernel
set_option maxRecDepth 20000 in
theorem ggX6_headFits_X6_digitAt : GoodIn wsX6_headFits wsX6_digitAt := goodIn_r _ [5, 6, 7, 8, 4, 9, 10, 11, 12, 13, 14, 15, 16, 17] (by decide +kernel) (by decide +kernel)
set_option maxRecDepth 20000 in
theorem gX6_headFits_X6_digitAt : GoodIn wsX6_headFits (wsV RX6 43 RX6 yX6_digitAt wsX6_digitAt) := goodIn_app (goodIn_of _ (by decide +kernel)) ggX6_headFits_X6_digitAt
set_option maxRecDepth 20000 in
theorem ggX6_headFits_X6_letterAt : GoodIn wsX6_headFits wsX6_letterAt := goodIn_r _ [9, 10, 11, 12, 13, 14, 15, 16, 17] (by decide +kernel) (by decide +kernel)
set_option maxRecDepth 20000 in
theorem gX6_headFits_X6_letterAt : GoodIn wsX6_headFits (wsV RX6 19 RX6 yX6_letterAt wsX6_letterAt) := goodIn_app (goodIn_of _ (by decide +kernel)) ggX6_headFits_X6_letterAt
theorem dX6_headFits_0 : decode cX6_headFits 0 = .ok (.aload_n 0, 1) := by decide +kernel
theorem dX6_headFits_1 : decode cX6_headFits 1 = .ok (.iload_n 1, 1) := by decide +kernel
theorem dX6_headFits_2 : decode cX6_headFits 2 = .ok (.invokevirtual 43, 3) := by decide +kernel
theorem dX6_headFits_5 : decode cX6_headFits 5 = .ok (.istore_n 2, 1) := by decide +kernel
theorem dX6_headFits_6 : decode cX6_headFits 6 = .ok (.iload_n 1, 1) := by decide +kernel
theorem dX6_headFits_7 : decode cX6_headFits 7 = .ok (.lookupswitch 88 #[(0, 33), (2, 49), (6, 71)], 33) := by decide +kernel
theorem dX6_headFits_40 : decode cX6_headFits 40 = .ok (.aload_n 0, 1) := by decide +kernel
theorem dX6_headFits_41 : decode cX6_headFits 41 = .ok (.iload_n 1, 1) := by decide +kernel
theorem dX6_headFits_42 : decode cX6_headFits 42 = .ok (.invokevirtual 19, 3) := by decide +kernel
theorem dX6_headFits_45 : decode cX6_headFits 45 = .ok (.bipush 83, 2) := by decide +kernel
theorem dX6_headFits_47 : decode cX6_headFits 47 = .ok (.if_icmp .ne 7, 3) := by decide +kernel
theorem dX6_headFits_50 : decode cX6_headFits 50 = .ok (.iconst 1, 1) := by decide +kernel
theorem dX6_headFits_51 : decode cX6_headFits 51 = .ok (.goto 4, 3) := by decide +kernel
theorem dX6_headFits_54 : decode cX6_headFits 54 = .ok (.iconst 0, 1) := by decide +kernel
theorem dX6_headFits_55 : decode cX6_headFits 55 = .ok (.ireturn, 1) := by decide +kernel
theorem dX6_headFits_56 : decode cX6_headFits 56 = .ok (.iload_n 2, 1) := by decide +kernel
theorem dX6_headFits_57 : decode cX6_headFits 57 = .ok (.ifCond .lt 19, 3) := by decide +kernel
theorem dX6_headFits_60 : decode cX6_headFits 60 = .ok (.aload_n 0, 1) := by decide +kernel
theorem dX6_headFits_61 : decode cX6_headFits 61 = .ok (.iconst 1, 1) := by decide +kernel
theorem dX6_headFits_62 : decode cX6_headFits 62 = .ok (.invokevirtual 43, 3) := by decide +kernel
theorem dX6_headFits_65 : decode cX6_headFits 65 = .ok (.iload_n 2, 1) := by decide +kernel
theorem dX6_headFits_66 : decode cX6_headFits 66 = .ok (.iadd, 1) := by decide +kernel
theorem dX6_headFits_67 : decode cX6_headFits 67 = .ok (.bipush 10, 2) := by decide +kernel
theorem dX6_headFits_69 : decode cX6_headFits 69 = .ok (.if_icmp .gt 7, 3) := by decide +kernel
theorem dX6_headFits_72 : decode cX6_headFits 72 = .ok (.iconst 1, 1) := by decide +kernel
theorem dX6_headFits_73 : decode cX6_headFits 73 = .ok (.goto 4, 3) := by decide +kernel
theorem dX6_headFits_76 : decode cX6_headFits 76 = .ok (.iconst 0, 1) := by decide +kernel
theorem dX6_headFits_77 : decode cX6_headFits 77 = .ok (.ireturn, 1) := by decide +kernel
theorem dX6_headFits_78 : decode cX6_headFits 78 = .ok (.iload_n 2, 1) := by decide +kernel
theorem dX6_headFits_79 : decode cX6_headFits 79 = .ok (.iconst 1, 1) := by decide +kernel
theorem dX6_headFits_80 : decode cX6_headFits 80 = .ok (.if_icmp .lt 13, 3) := by decide +kernel
theorem dX6_headFits_83 : decode cX6_headFits 83 = .ok (.iload_n 2, 1) := by decide +kernel
theorem dX6_headFits_84 : decode cX6_headFits 84 = .ok (.bipush 6, 2) := by decide +kernel
theorem dX6_headFits_86 : decode cX6_headFits 86 = .ok (.if_icmp .gt 7, 3) := by decide +kernel
theorem dX6_headFits_89 : decode cX6_headFits 89 = .ok (.iconst 1, 1) := by decide +kernel
theorem dX6_headFits_90 : decode cX6_headFits 90 = .ok (.goto 4, 3) := by decide +kernel
theorem dX6_headFits_93 : decode cX6_headFits 93 = .ok (.iconst 0, 1) := by decide +kernel
theorem dX6_headFits_94 : decode cX6_headFits 94 = .ok (.ireturn, 1) := by decide +kernel
theorem dX6_headFits_95 : decode cX6_headFits 95 = .ok (.iload_n 2, 1) := by decide +kernel
theorem dX6_headFits_96 : decode cX6_headFits 96 = .ok (.ifCond .lt 7, 3) := by decide +kernel
theorem dX6_headFits_99 : decode cX6_headFits 99 = .ok (.iconst 1, 1) := by decide +kernel
theorem dX6_headFits_100 : decode cX6_headFits 100 = .ok (.goto 4, 3) := by decide +kernel
theorem dX6_headFits_103 : decode cX6_headFits 103 = .ok (.iconst 0, 1) := by decide +kernel
theorem dX6_headFits_104 : decode cX6_headFits 104 = .ok (.ireturn, 1) := by decide +kernel
set_option maxRecDepth 20000 in
theorem ggX6_partFits_X6_digitAt : GoodIn wsX6_partFits wsX6_digitAt := goodIn_r _ [6, 7, 8, 9, 5, 10, 11, 12, 24, 25, 26, 27, 28, 29] (by decide +kernel) (by decide +kernel)
set_option maxRecDepth 20000 in
theorem gX6_partFits_X6_digitAt : GoodIn wsX6_partFits (wsV RX6 43 RX6 yX6_digitAt wsX6_digitAt) := goodIn_app (goodIn_of _ (by decide +kernel)) ggX6_partFits_X6_digitAt
set_option maxRecDepth 20000 in
theorem ggX6_partFits_X6_letterAt : GoodIn wsX6_partFits wsX6_letterAt := goodIn_r _ [10, 11, 12, 24, 25, 26, 27, 28, 29] (by decide +kernel) (by decide +kernel)
set_option maxRecDepth 20000 in
theorem gX6_partFits_X6_letterAt : GoodIn wsX6_partFits (wsV RX6 19 RX6 yX6_letterAt wsX6_letterAt) := goodIn_app (goodIn_of _ (by decide +kernel)) ggX6_partFits_X6_letterAt
set_option maxRecDepth 20000 in
theorem ggX6_partFits_X6_partBegins : GoodIn wsX6_partFits wsX6_partBegins := goodIn_r _ [16, 17, 1, 18, 19, 24, 25, 26, 27, 28, 29] (by decide +kernel) (by decide +kernel)
set_option maxRecDepth 20000 in
theorem gX6_partFits_X6_partBegins : GoodIn wsX6_partFits (wsV RX6 46 RX6 yX6_partBegins wsX6_partBegins) := goodIn_app (goodIn_of _ (by decide +kernel)) ggX6_partFits_X6_partBegins
set_option maxRecDepth 20000 in
theorem ggX6_partFits_X6_takeCell : GoodIn wsX6_partFits wsX6_takeCell := goodIn_r _ [23, 17, 24, 25, 26, 27, 28, 29] (by decide +kernel) (by decide +kernel)
set_option maxRecDepth 20000 in
theorem gX6_partFits_X6_takeCell : GoodIn wsX6_partFits (wsV RX6 49 RX6 yX6_takeCell wsX6_takeCell) := goodIn_app (goodIn_of _ (by decide +kernel)) ggX6_partFits_X6_takeCell
theorem dX6_partFits_0 : decode cX6_partFits 0 = .ok (.aload_n 0, 1) := by decide +kernel
theorem dX6_partFits_1 : decode cX6_partFits 1 = .ok (.iload_n 1, 1) := by decide +kernel
theorem dX6_partFits_2 : decode cX6_partFits 2 = .ok (.invokevirtual 43, 3) := by decide +kernel
theorem dX6_partFits_5 : decode cX6_partFits 5 = .ok (.istore_n 2, 1) := by decide +kernel
theorem dX6_partFits_6 : decode cX6_partFits 6 = .ok (.aload_n 0, 1) := by decide +kernel
theorem dX6_partFits_7 : decode cX6_partFits 7 = .ok (.getfield 23, 3) := by decide +kernel
theorem dX6_partFits_10 : decode cX6_partFits 10 = .ok (.tableswitch 94 0 3 #[30, 40, 63, 79], 30) := by decide +kernel
theorem dX6_partFits_40 : decode cX6_partFits 40 = .ok (.aload_n 0, 1) := by decide +kernel
theorem dX6_partFits_41 : decode cX6_partFits 41 = .ok (.aload_n 0, 1) := by decide +kernel
theorem dX6_partFits_42 : decode cX6_partFits 42 = .ok (.iload_n 1, 1) := by decide +kernel
theorem dX6_partFits_43 : decode cX6_partFits 43 = .ok (.invokevirtual 19, 3) := by decide +kernel
theorem dX6_partFits_46 : decode cX6_partFits 46 = .ok (.invokevirtual 46, 3) := by decide +kernel
theorem dX6_partFits_49 : decode cX6_partFits 49 = .ok (.ireturn, 1) := by decide +kernel
theorem dX6_partFits_50 : decode cX6_partFits 50 = .ok (.aload_n 0, 1) := by decide +kernel
theorem dX6_partFits_51 : decode cX6_partFits 51 = .ok (.iconst 2, 1) := by decide +kernel
theorem dX6_partFits_52 : decode cX6_partFits 52 = .ok (.putfield 23, 3) := by decide +kernel
theorem dX6_partFits_55 : decode cX6_partFits 55 = .ok (.iload_n 2, 1) := by decide +kernel
theorem dX6_partFits_56 : decode cX6_partFits 56 = .ok (.ifCond .lt 15, 3) := by decide +kernel
theorem dX6_partFits_59 : decode cX6_partFits 59 = .ok (.aload_n 0, 1) := by decide +kernel
theorem dX6_partFits_60 : decode cX6_partFits 60 = .ok (.iload_n 2, 1) := by decide +kernel
theorem dX6_partFits_61 : decode cX6_partFits 61 = .ok (.invokevirtual 49, 3) := by decide +kernel
theorem dX6_partFits_64 : decode cX6_partFits 64 = .ok (.ifCond .eq 7, 3) := by decide +kernel
theorem dX6_partFits_67 : decode cX6_partFits 67 = .ok (.iconst 1, 1) := by decide +kernel
theorem dX6_partFits_68 : decode cX6_partFits 68 = .ok (.goto 4, 3) := by decide +kernel
theorem dX6_partFits_71 : decode cX6_partFits 71 = .ok (.iconst 0, 1) := by decide +kernel
theorem dX6_partFits_72 : decode cX6_partFits 72 = .ok (.ireturn, 1) := by decide +kernel
theorem dX6_partFits_73 : decode cX6_partFits 73 = .ok (.aload_n 0, 1) := by decide +kernel
theorem dX6_partFits_74 : decode cX6_partFits 74 = .ok (.iconst 0, 1) := by decide +kernel
theorem dX6_partFits_75 : decode cX6_partFits 75 = .ok (.putfield 23, 3) := by decide +kernel
theorem dX6_partFits_78 : decode cX6_partFits 78 = .ok (.iload_n 2, 1) := by decide +kernel
theorem dX6_partFits_79 : decode cX6_partFits 79 = .ok (.iconst 1, 1) := by decide +kernel
theorem dX6_partFits_80 : decode cX6_partFits 80 = .ok (.if_icmp .lt 7, 3) := by decide +kernel
theorem dX6_partFits_83 : decode cX6_partFits 83 = .ok (.iconst 1, 1) := by decide +kernel
theorem dX6_partFits_84 : decode cX6_partFits 84 = .ok (.goto 4, 3) := by decide +kernel
theorem dX6_partFits_87 : decode cX6_partFits 87 = .ok (.iconst 0, 1) := by decide +kernel
theorem dX6_partFits_88 : decode cX6_partFits 88 = .ok (.ireturn, 1) := by decide +kernel
theorem dX6_partFits_89 : decode cX6_partFits 89 = .ok (.aload_n 0, 1) := by decide +kernel
theorem dX6_partFits_90 : decode cX6_partFits 90 = .ok (.iconst 4, 1) := by decide +kernel
theorem dX6_partFits_91 : decode cX6_partFits 91 = .ok (.putfield 23, 3) := by decide +kernel
theorem dX6_partFits_94 : decode cX6_partFits 94 = .ok (.iload_n 2, 1) := by decide +kernel
theorem dX6_partFits_95 : decode cX6_partFits 95 = .ok (.ifCond .lt 7, 3) := by decide +kernel
theorem dX6_partFits_98 : decode cX6_partFits 98 = .ok (.iconst 1, 1) := by decide +kernel
theorem dX6_partFits_99 : decode cX6_partFits 99 = .ok (.goto 4, 3) := by decide +kernel
theorem dX6_partFits_102 : decode cX6_partFits 102 = .ok (.iconst 0, 1) := by decide +kernel
theorem dX6_partFits_103 : decode cX6_partFits 103 = .ok (.ireturn, 1) := by decide +kernel
theorem dX6_partFits_104 : decode cX6_partFits 104 = .ok (.aload_n 0, 1) := by decide +kernel
theorem dX6_partFits_105 : decode cX6_partFits 105 = .ok (.iconst 0, 1) := by decide +kernel
theorem dX6_partFits_106 : decode cX6_partFits 106 = .ok (.putfield 23, 3) := by decide +kernel
theorem dX6_partFits_109 : decode cX6_partFits 109 = .ok (.iload_n 2, 1) := by decide +kernel
theorem dX6_partFits_110 : decode cX6_partFits 110 = .ok (.ifCond .lt 13, 3) := by decide +kernel
theorem dX6_partFits_113 : decode cX6_partFits 113 = .ok (.iload_n 2, 1) := by decide +kernel
theorem dX6_partFits_114 : decode cX6_partFits 114 = .ok (.bipush 6, 2) := by decide +kernel
theorem dX6_partFits_116 : decode cX6_partFits 116 = .ok (.if_icmp .gt 7, 3) := by decide +kernel
theorem dX6_partFits_119 : decode cX6_partFits 119 = .ok (.iconst 1, 1) := by decide +kernel
theorem dX6_partFits_120 : decode cX6_partFits 120 = .ok (.goto 4, 3) := by decide +kernel
theorem dX6_partFits_123 : decode cX6_partFits 123 = .ok (.iconst 0, 1) := by decide +kernel
theorem dX6_partFits_124 : decode cX6_partFits 124 = .ok (.ireturn, 1) := by decide +kernel
theorem dX6_partBegins_0 : decode cX6_partBegins 0 = .ok (.iconst 0, 1) := by decide +kernel
theorem dX6_partBegins_1 : decode cX6_partBegins 1 = .ok (.istore_n 2, 1) := by decide +kernel
theorem dX6_partBegins_2 : decode cX6_partBegins 2 = .ok (.iload_n 1, 1) := by decide +kernel
theorem dX6_partBegins_3 : decode cX6_partBegins 3 = .ok (.bipush 70, 2) := by decide +kernel
theorem dX6_partBegins_5 : decode cX6_partBegins 5 = .ok (.if_icmp .ne 24, 3) := by decide +kernel
theorem dX6_partBegins_8 : decode cX6_partBegins 8 = .ok (.aload_n 0, 1) := by decide +kernel
theorem dX6_partBegins_9 : decode cX6_partBegins 9 = .ok (.getfield 26, 3) := by decide +kernel
theorem dX6_partBegins_12 : decode cX6_partBegins 12 = .ok (.ifCond .eq 7, 3) := by decide +kernel
theorem dX6_partBegins_15 : decode cX6_partBegins 15 = .ok (.iconst 1, 1) := by decide +kernel
theorem dX6_partBegins_16 : decode cX6_partBegins 16 = .ok (.goto 4, 3) := by decide +kernel
theorem dX6_partBegins_19 : decode cX6_partBegins 19 = .ok (.iconst 0, 1) := by decide +kernel
theorem dX6_partBegins_20 : decode cX6_partBegins 20 = .ok (.istore_n 2, 1) := by decide +kernel
theorem dX6_partBegins_21 : decode cX6_partBegins 21 = .ok (.aload_n 0, 1) := by decide +kernel
theorem dX6_partBegins_22 : decode cX6_partBegins 22 = .ok (.iconst 1, 1) := by decide +kernel
theorem dX6_partBegins_23 : decode cX6_partBegins 23 = .ok (.putfield 23, 3) := by decide +kernel
theorem dX6_partBegins_26 : decode cX6_partBegins 26 = .ok (.goto 48, 3) := by decide +kernel
theorem dX6_partBegins_29 : decode cX6_partBegins 29 = .ok (.iload_n 1, 1) := by decide +kernel
theorem dX6_partBegins_30 : decode cX6_partBegins 30 = .ok (.bipush 65, 2) := by decide +kernel
theorem dX6_partBegins_32 : decode cX6_partBegins 32 = .ok (.if_icmp .ne 21, 3) := by decide +kernel
theorem dX6_partBegins_35 : decode cX6_partBegins 35 = .ok (.aload_n 0, 1) := by decide +kernel
theorem dX6_partBegins_36 : decode cX6_partBegins 36 = .ok (.getfield 29, 3) := by decide +kernel
theorem dX6_partBegins_39 : decode cX6_partBegins 39 = .ok (.istore_n 2, 1) := by decide +kernel
theorem dX6_partBegins_40 : decode cX6_partBegins 40 = .ok (.aload_n 0, 1) := by decide +kernel
theorem dX6_partBegins_41 : decode cX6_partBegins 41 = .ok (.iconst 0, 1) := by decide +kernel
theorem dX6_partBegins_42 : decode cX6_partBegins 42 = .ok (.putfield 29, 3) := by decide +kernel
theorem dX6_partBegins_45 : decode cX6_partBegins 45 = .ok (.aload_n 0, 1) := by decide +kernel
theorem dX6_partBegins_46 : decode cX6_partBegins 46 = .ok (.iconst 2, 1) := by decide +kernel
theorem dX6_partBegins_47 : decode cX6_partBegins 47 = .ok (.putfield 23, 3) := by decide +kernel
theorem dX6_partBegins_50 : decode cX6_partBegins 50 = .ok (.goto 24, 3) := by decide +kernel
theorem dX6_partBegins_53 : decode cX6_partBegins 53 = .ok (.iload_n 1, 1) := by decide +kernel
theorem dX6_partBegins_54 : decode cX6_partBegins 54 = .ok (.bipush 84, 2) := by decide +kernel
theorem dX6_partBegins_56 : decode cX6_partBegins 56 = .ok (.if_icmp .ne 18, 3) := by decide +kernel
theorem dX6_partBegins_59 : decode cX6_partBegins 59 = .ok (.aload_n 0, 1) := by decide +kernel
theorem dX6_partBegins_60 : decode cX6_partBegins 60 = .ok (.getfield 33, 3) := by decide +kernel
theorem dX6_partBegins_63 : decode cX6_partBegins 63 = .ok (.istore_n 2, 1) := by decide +kernel
theorem dX6_partBegins_64 : decode cX6_partBegins 64 = .ok (.aload_n 0, 1) := by decide +kernel
theorem dX6_partBegins_65 : decode cX6_partBegins 65 = .ok (.iconst 0, 1) := by decide +kernel
theorem dX6_partBegins_66 : decode cX6_partBegins 66 = .ok (.putfield 33, 3) := by decide +kernel
theorem dX6_partBegins_69 : decode cX6_partBegins 69 = .ok (.aload_n 0, 1) := by decide +kernel
theorem dX6_partBegins_70 : decode cX6_partBegins 70 = .ok (.iconst 3, 1) := by decide +kernel
theorem dX6_partBegins_71 : decode cX6_partBegins 71 = .ok (.putfield 23, 3) := by decide +kernel
theorem dX6_partBegins_74 : decode cX6_partBegins 74 = .ok (.iload_n 2, 1) := by decide +kernel
theorem dX6_partBegins_75 : decode cX6_partBegins 75 = .ok (.ireturn, 1) := by decide +kernel
theorem dX6_takeCell_0 : decode cX6_takeCell 0 = .ok (.aload_n 0, 1) := by decide +kernel
theorem dX6_takeCell_1 : decode cX6_takeCell 1 = .ok (.getfield 26, 3) := by decide +kernel
theorem dX6_takeCell_4 : decode cX6_takeCell 4 = .ok (.iload_n 1, 1) := by decide +kernel
theorem dX6_takeCell_5 : decode cX6_takeCell 5 = .ok (.ishr, 1) := by decide +kernel
theorem dX6_takeCell_6 : decode cX6_takeCell 6 = .ok (.iconst 1, 1) := by decide +kernel
theorem dX6_takeCell_7 : decode cX6_takeCell 7 = .ok (.iand, 1) := by decide +kernel
theorem dX6_takeCell_8 : decode cX6_takeCell 8 = .ok (.ifCond .eq 7, 3) := by decide +kernel
theorem dX6_takeCell_11 : decode cX6_takeCell 11 = .ok (.iconst 1, 1) := by decide +kernel
theorem dX6_takeCell_12 : decode cX6_takeCell 12 = .ok (.goto 4, 3) := by decide +kernel
theorem dX6_takeCell_15 : decode cX6_takeCell 15 = .ok (.iconst 0, 1) := by decide +kernel
theorem dX6_takeCell_16 : decode cX6_takeCell 16 = .ok (.istore_n 2, 1) := by decide +kernel
theorem dX6_takeCell_17 : decode cX6_takeCell 17 = .ok (.aload_n 0, 1) := by decide +kernel
theorem dX6_takeCell_18 : decode cX6_takeCell 18 = .ok (.dup, 1) := by decide +kernel
theorem dX6_takeCell_19 : decode cX6_takeCell 19 = .ok (.getfield 26, 3) := by decide +kernel
theorem dX6_takeCell_22 : decode cX6_takeCell 22 = .ok (.iconst 1, 1) := by decide +kernel
theorem dX6_takeCell_23 : decode cX6_takeCell 23 = .ok (.iload_n 1, 1) := by decide +kernel
theorem dX6_takeCell_24 : decode cX6_takeCell 24 = .ok (.ishl, 1) := by decide +kernel
theorem dX6_takeCell_25 : decode cX6_takeCell 25 = .ok (.iconst (-1), 1) := by decide +kernel
theorem dX6_takeCell_26 : decode cX6_takeCell 26 = .ok (.ixor, 1) := by decide +kernel
theorem dX6_takeCell_27 : decode cX6_takeCell 27 = .ok (.iand, 1) := by decide +kernel
theorem dX6_takeCell_28 : decode cX6_takeCell 28 = .ok (.putfield 26, 3) := by decide +kernel
theorem dX6_takeCell_31 : decode cX6_takeCell 31 = .ok (.iload_n 2, 1) := by decide +kernel
theorem dX6_takeCell_32 : decode cX6_takeCell 32 = .ok (.ireturn, 1) := by decide +kernel
theorem dX7_init_0 : decode cX7_init 0 = .ok (.aload_n 0, 1) := by decide +kernel
theorem dX7_init_1 : decode cX7_init 1 = .ok (.invokespecial 3, 3) := by decide +kernel
theorem dX7_init_4 : decode cX7_init 4 = .ok (.aload_n 0, 1) := by decide +kernel
theorem dX7_init_5 : decode cX7_init 5 = .ok (.bipush 11, 2) := by decide +kernel
theorem dX7_init_7 : decode cX7_init 7 = .ok (.newarray .int, 2) := by decide +kernel
theorem dX7_init_9 : decode cX7_init 9 = .ok (.putfield 9, 3) := by decide +kernel
theorem dX7_init_12 : decode cX7_init 12 = .ok (.aload_n 0, 1) := by decide +kernel
theorem dX7_init_13 : decode cX7_init 13 = .ok (.iconst 1, 1) := by decide +kernel
theorem dX7_init_14 : decode cX7_init 14 = .ok (.putfield 15, 3) := by decide +kernel
theorem dX7_init_17 : decode cX7_init 17 = .ok (.aload_n 0, 1) := by decide +kernel
theorem dX7_init_18 : decode cX7_init 18 = .ok (.bipush (-9), 2) := by decide +kernel
theorem dX7_init_20 : decode cX7_init 20 = .ok (.putfield 19, 3) := by decide +kernel
theorem dX7_init_23 : decode cX7_init 23 = .ok (.return_, 1) := by decide +kernel
set_option maxRecDepth 20000 in
theorem ggX7_take_X6_digitAt : GoodIn wsX7_take wsX6_digitAt := goodIn_r _ [13, 14, 15, 16, 12, 17, 18, 19, 44, 45, 46, 47, 48, 49] (by decide +kernel) (by decide +kernel)
set_option maxRecDepth 20000 in
theorem gX7_take_X6_digitAt : GoodIn wsX7_take (wsV RX7 22 RX6 yX6_digitAt wsX6_digitAt) := goodIn_app (goodIn_of _ (by decide +kernel)) ggX7_take_X6_digitAt
set_option maxRecDepth 20000 in
theorem ggX7_take_X7_setPart : GoodIn wsX7_take wsX7_setPart := goodIn_r _ [24, 25, 35, 36, 37, 38, 39, 40, 41, 42, 43] (by decide +kernel) (by decide +kernel)
set_option maxRecDepth 20000 in
theorem gX7_take_X7_setPart : GoodIn wsX7_take (wsV RX7 46 RX7 yX7_setPart wsX7_setPart) := goodIn_app (goodIn_of _ (by decide +kernel)) ggX7_take_X7_setPart
set_option maxRecDepth 20000 in
theorem ggX7_take_X6_size : GoodIn wsX7_take wsX6_size := goodIn_r _ [29, 18, 44, 45, 46, 47, 48, 49] (by decide +kernel) (by decide +kernel)
set_option maxRecDepth 20000 in
theorem gX7_take_X6_size : GoodIn wsX7_take (wsV RX7 50 RX6 yX6_size wsX6_size) := goodIn_app (goodIn_of _ (by decide +kernel)) ggX7_take_X6_size
set_option maxRecDepth 20000 in
theorem ggX7_take_X7_takePart : GoodIn wsX7_take wsX7_takePart := goodIn_r _ [33, 7, 8, 34, 15, 16, 12, 17, 18, 19, 9, 10, 11, 13, 14, 20, 21, 22, 23, 24, 25, 35, 36, 37, 38, 39, 40, 41, 42, 43, 44, 45, 46, 47, 48, 49] (by decide +kernel) (by decide +kernel)
set_option maxRecDepth 20000 in
theorem gX7_take_X7_takePart : GoodIn wsX7_take (wsV RX7 54 RX7 yX7_takePart wsX7_takePart) := goodIn_app (goodIn_of _ (by decide +kernel)) ggX7_take_X7_takePart
set_option maxRecDepth 20000 in
theorem ggX7_take_X6_letterAt : GoodIn wsX7_take wsX6_letterAt := goodIn_r _ [17, 18, 19, 44, 45, 46, 47, 48, 49] (by decide +kernel) (by decide +kernel)
set_option maxRecDepth 20000 in
theorem gX7_take_X6_letterAt : GoodIn wsX7_take (wsV RX7 58 RX6 yX6_letterAt wsX6_letterAt) := goodIn_app (goodIn_of _ (by decide +kernel)) ggX7_take_X6_letterAt
theorem dX7_take_0 : decode cX7_take 0 = .ok (.aload_n 0, 1) := by decide +kernel
theorem dX7_take_1 : decode cX7_take 1 = .ok (.aload_n 1, 1) := by decide +kernel
theorem dX7_take_2 : decode cX7_take 2 = .ok (.iconst 1, 1) := by decide +kernel
theorem dX7_take_3 : decode cX7_take 3 = .ok (.invokevirtual 22, 3) := by decide +kernel
theorem dX7_take_6 : decode cX7_take 6 = .ok (.putfield 28, 3) := by decide +kernel
theorem dX7_take_9 : decode cX7_take 9 = .ok (.aload_n 0, 1) := by decide +kernel
theorem dX7_take_10 : decode cX7_take 10 = .ok (.aload_n 1, 1) := by decide +kernel
theorem dX7_take_11 : decode cX7_take 11 = .ok (.iconst 2, 1) := by decide +kernel
theorem dX7_take_12 : decode cX7_take 12 = .ok (.invokevirtual 22, 3) := by decide +kernel
theorem dX7_take_15 : decode cX7_take 15 = .ok (.putfield 31, 3) := by decide +kernel
theorem dX7_take_18 : decode cX7_take 18 = .ok (.aload_n 0, 1) := by decide +kernel
theorem dX7_take_19 : decode cX7_take 19 = .ok (.aload_n 1, 1) := by decide +kernel
theorem dX7_take_20 : decode cX7_take 20 = .ok (.iconst 3, 1) := by decide +kernel
theorem dX7_take_21 : decode cX7_take 21 = .ok (.invokevirtual 22, 3) := by decide +kernel
theorem dX7_take_24 : decode cX7_take 24 = .ok (.putfield 34, 3) := by decide +kernel
theorem dX7_take_27 : decode cX7_take 27 = .ok (.aload_n 0, 1) := by decide +kernel
theorem dX7_take_28 : decode cX7_take 28 = .ok (.aload_n 1, 1) := by decide +kernel
theorem dX7_take_29 : decode cX7_take 29 = .ok (.iconst 4, 1) := by decide +kernel
theorem dX7_take_30 : decode cX7_take 30 = .ok (.invokevirtual 22, 3) := by decide +kernel
theorem dX7_take_33 : decode cX7_take 33 = .ok (.putfield 37, 3) := by decide +kernel
theorem dX7_take_36 : decode cX7_take 36 = .ok (.aload_n 0, 1) := by decide +kernel
theorem dX7_take_37 : decode cX7_take 37 = .ok (.aload_n 1, 1) := by decide +kernel
theorem dX7_take_38 : decode cX7_take 38 = .ok (.iconst 5, 1) := by decide +kernel
theorem dX7_take_39 : decode cX7_take 39 = .ok (.invokevirtual 22, 3) := by decide +kernel
theorem dX7_take_42 : decode cX7_take 42 = .ok (.putfield 40, 3) := by decide +kernel
theorem dX7_take_45 : decode cX7_take 45 = .ok (.aload_n 0, 1) := by decide +kernel
theorem dX7_take_46 : decode cX7_take 46 = .ok (.aload_n 1, 1) := by decide +kernel
theorem dX7_take_47 : decode cX7_take 47 = .ok (.bipush 6, 2) := by decide +kernel
theorem dX7_take_49 : decode cX7_take 49 = .ok (.invokevirtual 22, 3) := by decide +kernel
theorem dX7_take_52 : decode cX7_take 52 = .ok (.putfield 15, 3) := by decide +kernel
theorem dX7_take_55 : decode cX7_take 55 = .ok (.aload_n 0, 1) := by decide +kernel
theorem dX7_take_56 : decode cX7_take 56 = .ok (.bipush (-9), 2) := by decide +kernel
theorem dX7_take_58 : decode cX7_take 58 = .ok (.putfield 19, 3) := by decide +kernel
theorem dX7_take_61 : decode cX7_take 61 = .ok (.aload_n 0, 1) := by decide +kernel
theorem dX7_take_62 : decode cX7_take 62 = .ok (.iconst 0, 1) := by decide +kernel
theorem dX7_take_63 : decode cX7_take 63 = .ok (.putfield 43, 3) := by decide +kernel
theorem dX7_take_66 : decode cX7_take 66 = .ok (.iconst 0, 1) := by decide +kernel
theorem dX7_take_67 : decode cX7_take 67 = .ok (.istore_n 2, 1) := by decide +kernel
theorem dX7_take_68 : decode cX7_take 68 = .ok (.iload_n 2, 1) := by decide +kernel
theorem dX7_take_69 : decode cX7_take 69 = .ok (.bipush 11, 2) := by decide +kernel
theorem dX7_take_71 : decode cX7_take 71 = .ok (.if_icmp .ge 15, 3) := by decide +kernel
theorem dX7_take_74 : decode cX7_take 74 = .ok (.aload_n 0, 1) := by decide +kernel
theorem dX7_take_75 : decode cX7_take 75 = .ok (.iload_n 2, 1) := by decide +kernel
theorem dX7_take_76 : decode cX7_take 76 = .ok (.iconst 0, 1) := by decide +kernel
theorem dX7_take_77 : decode cX7_take 77 = .ok (.invokevirtual 46, 3) := by decide +kernel
theorem dX7_take_80 : decode cX7_take 80 = .ok (.iinc 2 1, 3) := by decide +kernel
theorem dX7_take_83 : decode cX7_take 83 = .ok (.goto (-15), 3) := by decide +kernel
theorem dX7_take_86 : decode cX7_take 86 = .ok (.bipush 7, 2) := by decide +kernel
theorem dX7_take_88 : decode cX7_take 88 = .ok (.istore_n 2, 1) := by decide +kernel
theorem dX7_take_89 : decode cX7_take 89 = .ok (.iload_n 2, 1) := by decide +kernel
theorem dX7_take_90 : decode cX7_take 90 = .ok (.aload_n 1, 1) := by decide +kernel
theorem dX7_take_91 : decode cX7_take 91 = .ok (.invokevirtual 50, 3) := by decide +kernel
theorem dX7_take_94 : decode cX7_take 94 = .ok (.if_icmp .ge 30, 3) := by decide +kernel
theorem dX7_take_97 : decode cX7_take 97 = .ok (.aload_n 0, 1) := by decide +kernel
theorem dX7_take_98 : decode cX7_take 98 = .ok (.aload_n 1, 1) := by decide +kernel
theorem dX7_take_99 : decode cX7_take 99 = .ok (.iload_n 2, 1) := by decide +kernel
theorem dX7_take_100 : decode cX7_take 100 = .ok (.invokevirtual 54, 3) := by decide +kernel
theorem dX7_take_103 : decode cX7_take 103 = .ok (.iload_n 2, 1) := by decide +kernel
theorem dX7_take_104 : decode cX7_take 104 = .ok (.aload_n 1, 1) := by decide +kernel
theorem dX7_take_105 : decode cX7_take 105 = .ok (.iload_n 2, 1) := by decide +kernel
theorem dX7_take_106 : decode cX7_take 106 = .ok (.invokevirtual 58, 3) := by decide +kernel
theorem dX7_take_109 : decode cX7_take 109 = .ok (.bipush 65, 2) := by decide +kernel
theorem dX7_take_111 : decode cX7_take 111 = .ok (.if_icmp .ne 7, 3) := by decide +kernel
theorem dX7_take_114 : decode cX7_take 114 = .ok (.iconst 2, 1) := by decide +kernel
theorem dX7_take_115 : decode cX7_take 115 = .ok (.goto 4, 3) := by decide +kernel
theorem dX7_take_118 : decode cX7_take 118 = .ok (.iconst 3, 1) := by decide +kernel
theorem dX7_take_119 : decode cX7_take 119 = .ok (.iadd, 1) := by decide +kernel
theorem dX7_take_120 : decode cX7_take 120 = .ok (.istore_n 2, 1) := by decide +kernel
theorem dX7_take_121 : decode cX7_take 121 = .ok (.goto (-32), 3) := by decide +kernel
theorem dX7_take_124 : decode cX7_take 124 = .ok (.return_, 1) := by decide +kernel
set_option maxRecDepth 20000 in
theorem ggX7_takePart_X6_letterAt : GoodIn wsX7_takePart wsX6_letterAt := goodIn_r _ [7, 8, 9, 30, 31, 32, 33, 34, 35] (by decide +kernel) (by decide +kernel)
set_option maxRecDepth 20000 in
theorem gX7_takePart_X6_letterAt : GoodIn wsX7_takePart (wsV RX7 58 RX6 yX6_letterAt wsX6_letterAt) := goodIn_app (goodIn_of _ (by decide +kernel)) ggX7_takePart_X6_letterAt
set_option maxRecDepth 20000 in
theorem ggX7_takePart_X6_digitAt : GoodIn wsX7_takePart wsX6_digitAt := goodIn_r _ [13, 14, 4, 5, 6, 7, 8, 9, 30, 31, 32, 33, 34, 35] (by decide +kernel) (by decide +kernel)
set_option maxRecDepth 20000 in
theorem gX7_takePart_X6_digitAt : GoodIn wsX7_takePart (wsV RX7 22 RX6 yX6_digitAt wsX6_digitAt) := goodIn_app (goodIn_of _ (by decide +kernel)) ggX7_takePart_X6_digitAt
set_option maxRecDepth 20000 in
theorem ggX7_takePart_X7_setPart : GoodIn wsX7_takePart wsX7_setPart := goodIn_r _ [19, 20, 21, 22, 23, 24, 25, 26, 27, 28, 29] (by decide +kernel) (by decide +kernel)
set_option maxRecDepth 20000 in
theorem gX7_takePart_X7_setPart : GoodIn wsX7_takePart (wsV RX7 46 RX7 yX7_setPart wsX7_setPart) := goodIn_app (goodIn_of _ (by decide +kernel)) ggX7_takePart_X7_setPart
theorem dX7_takePart_0 : decode cX7_takePart 0 = .ok (.aload_n 1, 1) := by decide +kernel
theorem dX7_takePart_1 : decode cX7_takePart 1 = .ok (.iload_n 2, 1) := by decide +kernel
theorem dX7_takePart_2 : decode cX7_takePart 2 = .ok (.invokevirtual 58, 3) := by decide +kernel
theorem dX7_takePart_5 : decode cX7_takePart 5 = .ok (.lookupswitch 64 #[(65, 48), (70, 27)], 27) := by decide +kernel
theorem dX7_takePart_32 : decode cX7_takePart 32 = .ok (.aload_n 0, 1) := by decide +kernel
theorem dX7_takePart_33 : decode cX7_takePart 33 = .ok (.aload_n 1, 1) := by decide +kernel
theorem dX7_takePart_34 : decode cX7_takePart 34 = .ok (.iload_n 2, 1) := by decide +kernel
theorem dX7_takePart_35 : decode cX7_takePart 35 = .ok (.iconst 1, 1) := by decide +kernel
theorem dX7_takePart_36 : decode cX7_takePart 36 = .ok (.iadd, 1) := by decide +kernel
theorem dX7_takePart_37 : decode cX7_takePart 37 = .ok (.invokevirtual 22, 3) := by decide +kernel
theorem dX7_takePart_40 : decode cX7_takePart 40 = .ok (.aload_n 1, 1) := by decide +kernel
theorem dX7_takePart_41 : decode cX7_takePart 41 = .ok (.iload_n 2, 1) := by decide +kernel
theorem dX7_takePart_42 : decode cX7_takePart 42 = .ok (.iconst 2, 1) := by decide +kernel
theorem dX7_takePart_43 : decode cX7_takePart 43 = .ok (.iadd, 1) := by decide +kernel
theorem dX7_takePart_44 : decode cX7_takePart 44 = .ok (.invokevirtual 22, 3) := by decide +kernel
theorem dX7_takePart_47 : decode cX7_takePart 47 = .ok (.invokevirtual 46, 3) := by decide +kernel
theorem dX7_takePart_50 : decode cX7_takePart 50 = .ok (.goto 41, 3) := by decide +kernel
theorem dX7_takePart_53 : decode cX7_takePart 53 = .ok (.aload_n 0, 1) := by decide +kernel
theorem dX7_takePart_54 : decode cX7_takePart 54 = .ok (.bipush 10, 2) := by decide +kernel
theorem dX7_takePart_56 : decode cX7_takePart 56 = .ok (.aload_n 1, 1) := by decide +kernel
theorem dX7_takePart_57 : decode cX7_takePart 57 = .ok (.iload_n 2, 1) := by decide +kernel
theorem dX7_takePart_58 : decode cX7_takePart 58 = .ok (.iconst 1, 1) := by decide +kernel
theorem dX7_takePart_59 : decode cX7_takePart 59 = .ok (.iadd, 1) := by decide +kernel
theorem dX7_takePart_60 : decode cX7_takePart 60 = .ok (.invokevirtual 22, 3) := by decide +kernel
theorem dX7_takePart_63 : decode cX7_takePart 63 = .ok (.invokevirtual 46, 3) := by decide +kernel
theorem dX7_takePart_66 : decode cX7_takePart 66 = .ok (.goto 25, 3) := by decide +kernel
theorem dX7_takePart_69 : decode cX7_takePart 69 = .ok (.aload_n 0, 1) := by decide +kernel
theorem dX7_takePart_70 : decode cX7_takePart 70 = .ok (.aload_n 1, 1) := by decide +kernel
theorem dX7_takePart_71 : decode cX7_takePart 71 = .ok (.iload_n 2, 1) := by decide +kernel
theorem dX7_takePart_72 : decode cX7_takePart 72 = .ok (.iconst 1, 1) := by decide +kernel
theorem dX7_takePart_73 : decode cX7_takePart 73 = .ok (.iadd, 1) := by decide +kernel
theorem dX7_takePart_74 : decode cX7_takePart 74 = .ok (.invokevirtual 22, 3) := by decide +kernel
theorem dX7_takePart_77 : decode cX7_takePart 77 = .ok (.putfield 19, 3) := by decide +kernel
theorem dX7_takePart_80 : decode cX7_takePart 80 = .ok (.aload_n 0, 1) := by decide +kernel
theorem dX7_takePart_81 : decode cX7_takePart 81 = .ok (.aload_n 1, 1) := by decide +kernel
theorem dX7_takePart_82 : decode cX7_takePart 82 = .ok (.iload_n 2, 1) := by decide +kernel
theorem dX7_takePart_83 : decode cX7_takePart 83 = .ok (.iconst 2, 1) := by decide +kernel
theorem dX7_takePart_84 : decode cX7_takePart 84 = .ok (.iadd, 1) := by decide +kernel
theorem dX7_takePart_85 : decode cX7_takePart 85 = .ok (.invokevirtual 22, 3) := by decide +kernel
theorem dX7_takePart_88 : decode cX7_takePart 88 = .ok (.putfield 43, 3) := by decide +kernel
theorem dX7_takePart_91 : decode cX7_takePart 91 = .ok (.return_, 1) := by decide +kernel
theorem dX7_setPart_0 : decode cX7_setPart 0 = .ok (.iload_n 1, 1) := by decide +kernel
theorem dX7_setPart_1 : decode cX7_setPart 1 = .ok (.ifCond .lt 19, 3) := by decide +kernel
theorem dX7_setPart_4 : decode cX7_setPart 4 = .ok (.iload_n 1, 1) := by decide +kernel
theorem dX7_setPart_5 : decode cX7_setPart 5 = .ok (.aload_n 0, 1) := by decide +kernel
theorem dX7_setPart_6 : decode cX7_setPart 6 = .ok (.getfield 9, 3) := by decide +kernel
theorem dX7_setPart_9 : decode cX7_setPart 9 = .ok (.arraylength, 1) := by decide +kernel
theorem dX7_setPart_10 : decode cX7_setPart 10 = .ok (.if_icmp .ge 10, 3) := by decide +kernel
theorem dX7_setPart_13 : decode cX7_setPart 13 = .ok (.aload_n 0, 1) := by decide +kernel
theorem dX7_setPart_14 : decode cX7_setPart 14 = .ok (.getfield 9, 3) := by decide +kernel
theorem dX7_setPart_17 : decode cX7_setPart 17 = .ok (.iload_n 1, 1) := by decide +kernel
theorem dX7_setPart_18 : decode cX7_setPart 18 = .ok (.iload_n 2, 1) := by decide +kernel
theorem dX7_setPart_19 : decode cX7_setPart 19 = .ok (.iastore, 1) := by decide +kernel
theorem dX7_setPart_20 : decode cX7_setPart 20 = .ok (.return_, 1) := by decide +kernel
theorem dX7_partAt_0 : decode cX7_partAt 0 = .ok (.iload_n 1, 1) := by decide +kernel
theorem dX7_partAt_1 : decode cX7_partAt 1 = .ok (.ifCond .lt 21, 3) := by decide +kernel
theorem dX7_partAt_4 : decode cX7_partAt 4 = .ok (.iload_n 1, 1) := by decide +kernel
theorem dX7_partAt_5 : decode cX7_partAt 5 = .ok (.aload_n 0, 1) := by decide +kernel
theorem dX7_partAt_6 : decode cX7_partAt 6 = .ok (.getfield 9, 3) := by decide +kernel
theorem dX7_partAt_9 : decode cX7_partAt 9 = .ok (.arraylength, 1) := by decide +kernel
theorem dX7_partAt_10 : decode cX7_partAt 10 = .ok (.if_icmp .ge 12, 3) := by decide +kernel
theorem dX7_partAt_13 : decode cX7_partAt 13 = .ok (.aload_n 0, 1) := by decide +kernel
theorem dX7_partAt_14 : decode cX7_partAt 14 = .ok (.getfield 9, 3) := by decide +kernel
theorem dX7_partAt_17 : decode cX7_partAt 17 = .ok (.iload_n 1, 1) := by decide +kernel
theorem dX7_partAt_18 : decode cX7_partAt 18 = .ok (.iaload, 1) := by decide +kernel
theorem dX7_partAt_19 : decode cX7_partAt 19 = .ok (.goto 4, 3) := by decide +kernel
theorem dX7_partAt_22 : decode cX7_partAt 22 = .ok (.iconst 0, 1) := by decide +kernel
theorem dX7_partAt_23 : decode cX7_partAt 23 = .ok (.ireturn, 1) := by decide +kernel
set_option maxRecDepth 20000 in
theorem ggX7_partsFrom_X8_isWithin : GoodIn wsX7_partsFrom wsX8_isWithin := goodIn_r _ [3] (by decide +kernel) (by decide +kernel)
set_option maxRecDepth 20000 in
theorem gX7_partsFrom_X8_isWithin_n61 : GoodIn wsX7_partsFrom (wsX8_isWithin) := ggX7_partsFrom_X8_isWithin
set_option maxRecDepth 20000 in
theorem ggX7_partsFrom_X7_partAt : GoodIn wsX7_partsFrom wsX7_partAt := goodIn_r _ [8, 9, 10, 11, 12, 13, 14, 15, 16, 17, 18] (by decide +kernel) (by decide +kernel)
set_option maxRecDepth 20000 in
theorem gX7_partsFrom_X7_partAt : GoodIn wsX7_partsFrom (wsV RX7 65 RX7 yX7_partAt wsX7_partAt) := goodIn_app (goodIn_of _ (by decide +kernel)) ggX7_partsFrom_X7_partAt
theorem dX7_partsFrom_0 : decode cX7_partsFrom 0 = .ok (.iconst 0, 1) := by decide +kernel
theorem dX7_partsFrom_1 : decode cX7_partsFrom 1 = .ok (.istore_n 3, 1) := by decide +kernel
theorem dX7_partsFrom_2 : decode cX7_partsFrom 2 = .ok (.iconst 0, 1) := by decide +kernel
theorem dX7_partsFrom_3 : decode cX7_partsFrom 3 = .ok (.istore 4, 2) := by decide +kernel
theorem dX7_partsFrom_5 : decode cX7_partsFrom 5 = .ok (.iload 4, 2) := by decide +kernel
theorem dX7_partsFrom_7 : decode cX7_partsFrom 7 = .ok (.bipush 11, 2) := by decide +kernel
theorem dX7_partsFrom_9 : decode cX7_partsFrom 9 = .ok (.if_icmp .ge 28, 3) := by decide +kernel
theorem dX7_partsFrom_12 : decode cX7_partsFrom 12 = .ok (.iload 4, 2) := by decide +kernel
theorem dX7_partsFrom_14 : decode cX7_partsFrom 14 = .ok (.iload_n 1, 1) := by decide +kernel
theorem dX7_partsFrom_15 : decode cX7_partsFrom 15 = .ok (.iload_n 2, 1) := by decide +kernel
theorem dX7_partsFrom_16 : decode cX7_partsFrom 16 = .ok (.invokestatic 61, 3) := by decide +kernel
theorem dX7_partsFrom_19 : decode cX7_partsFrom 19 = .ok (.ifCond .eq 12, 3) := by decide +kernel
theorem dX7_partsFrom_22 : decode cX7_partsFrom 22 = .ok (.iload_n 3, 1) := by decide +kernel
theorem dX7_partsFrom_23 : decode cX7_partsFrom 23 = .ok (.aload_n 0, 1) := by decide +kernel
theorem dX7_partsFrom_24 : decode cX7_partsFrom 24 = .ok (.iload 4, 2) := by decide +kernel
theorem dX7_partsFrom_26 : decode cX7_partsFrom 26 = .ok (.invokevirtual 65, 3) := by decide +kernel
theorem dX7_partsFrom_29 : decode cX7_partsFrom 29 = .ok (.iadd, 1) := by decide +kernel
theorem dX7_partsFrom_30 : decode cX7_partsFrom 30 = .ok (.istore_n 3, 1) := by decide +kernel
theorem dX7_partsFrom_31 : decode cX7_partsFrom 31 = .ok (.iinc 4 1, 3) := by decide +kernel
theorem dX7_partsFrom_34 : decode cX7_partsFrom 34 = .ok (.goto (-29), 3) := by decide +kernel
theorem dX7_partsFrom_37 : decode cX7_partsFrom 37 = .ok (.iload_n 3, 1) := by decide +kernel
theorem dX7_partsFrom_38 : decode cX7_partsFrom 38 = .ok (.ireturn, 1) := by decide +kernel
set_option maxRecDepth 20000 in
theorem ggX7_allParts_X7_partsFrom : GoodIn wsX7_allParts wsX7_partsFrom := goodIn_r _ [5, 6, 7, 8, 9, 10, 11, 4, 12, 13, 14, 15, 16, 17, 18, 19, 20, 21, 22] (by decide +kernel) (by decide +kernel)
set_option maxRecDepth 20000 in
theorem gX7_allParts_X7_partsFrom : GoodIn wsX7_allParts (wsV RX7 68 RX7 yX7_partsFrom wsX7_partsFrom) := goodIn_app (goodIn_of _ (by decide +kernel)) ggX7_allParts_X7_partsFrom
theorem dX7_allParts_0 : decode cX7_allParts 0 = .ok (.aload_n 0, 1) := by decide +kernel
theorem dX7_allParts_1 : decode cX7_allParts 1 = .ok (.iconst 0, 1) := by decide +kernel
theorem dX7_allParts_2 : decode cX7_allParts 2 = .ok (.bipush 10, 2) := by decide +kernel
theorem dX7_allParts_4 : decode cX7_allParts 4 = .ok (.invokevirtual 68, 3) := by decide +kernel
theorem dX7_allParts_7 : decode cX7_allParts 7 = .ok (.ireturn, 1) := by decide +kernel
theorem dX7_chanceAt_0 : decode cX7_chanceAt 0 = .ok (.iload_n 1, 1) := by decide +kernel
theorem dX7_chanceAt_1 : decode cX7_chanceAt 1 = .ok (.bipush 10, 2) := by decide +kernel
theorem dX7_chanceAt_3 : decode cX7_chanceAt 3 = .ok (.if_icmp .ne 10, 3) := by decide +kernel
theorem dX7_chanceAt_6 : decode cX7_chanceAt 6 = .ok (.aload_n 0, 1) := by decide +kernel
theorem dX7_chanceAt_7 : decode cX7_chanceAt 7 = .ok (.getfield 37, 3) := by decide +kernel
theorem dX7_chanceAt_10 : decode cX7_chanceAt 10 = .ok (.goto 7, 3) := by decide +kernel
theorem dX7_chanceAt_13 : decode cX7_chanceAt 13 = .ok (.aload_n 0, 1) := by decide +kernel
theorem dX7_chanceAt_14 : decode cX7_chanceAt 14 = .ok (.getfield 34, 3) := by decide +kernel
theorem dX7_chanceAt_17 : decode cX7_chanceAt 17 = .ok (.ireturn, 1) := by decide +kernel
set_option maxRecDepth 20000 in
theorem ggX7_placeOfPart_X7_partAt : GoodIn wsX7_placeOfPart wsX7_partAt := goodIn_r _ [5, 6, 7, 8, 9, 10, 11, 12, 13, 14, 15] (by decide +kernel) (by decide +kernel)
set_option maxRecDepth 20000 in
theorem gX7_placeOfPart_X7_partAt : GoodIn wsX7_placeOfPart (wsV RX7 65 RX7 yX7_partAt wsX7_partAt) := goodIn_app (goodIn_of _ (by decide +kernel)) ggX7_placeOfPart_X7_partAt
theorem dX7_placeOfPart_0 : decode cX7_placeOfPart 0 = .ok (.iload_n 1, 1) := by decide +kernel
theorem dX7_placeOfPart_1 : decode cX7_placeOfPart 1 = .ok (.istore_n 2, 1) := by decide +kernel
theorem dX7_placeOfPart_2 : decode cX7_placeOfPart 2 = .ok (.iconst 0, 1) := by decide +kernel
theorem dX7_placeOfPart_3 : decode cX7_placeOfPart 3 = .ok (.istore_n 3, 1) := by decide +kernel
theorem dX7_placeOfPart_4 : decode cX7_placeOfPart 4 = .ok (.iload_n 3, 1) := by decide +kernel
theorem dX7_placeOfPart_5 : decode cX7_placeOfPart 5 = .ok (.bipush 10, 2) := by decide +kernel
theorem dX7_placeOfPart_7 : decode cX7_placeOfPart 7 = .ok (.if_icmp .ge 23, 3) := by decide +kernel
theorem dX7_placeOfPart_10 : decode cX7_placeOfPart 10 = .ok (.iload_n 2, 1) := by decide +kernel
theorem dX7_placeOfPart_11 : decode cX7_placeOfPart 11 = .ok (.aload_n 0, 1) := by decide +kernel
theorem dX7_placeOfPart_12 : decode cX7_placeOfPart 12 = .ok (.iload_n 3, 1) := by decide +kernel
theorem dX7_placeOfPart_13 : decode cX7_placeOfPart 13 = .ok (.invokevirtual 65, 3) := by decide +kernel
theorem dX7_placeOfPart_16 : decode cX7_placeOfPart 16 = .ok (.isub, 1) := by decide +kernel
theorem dX7_placeOfPart_17 : decode cX7_placeOfPart 17 = .ok (.istore_n 2, 1) := by decide +kernel
theorem dX7_placeOfPart_18 : decode cX7_placeOfPart 18 = .ok (.iload_n 2, 1) := by decide +kernel
theorem dX7_placeOfPart_19 : decode cX7_placeOfPart 19 = .ok (.ifCond .ge 5, 3) := by decide +kernel
theorem dX7_placeOfPart_22 : decode cX7_placeOfPart 22 = .ok (.iload_n 3, 1) := by decide +kernel
theorem dX7_placeOfPart_23 : decode cX7_placeOfPart 23 = .ok (.ireturn, 1) := by decide +kernel
theorem dX7_placeOfPart_24 : decode cX7_placeOfPart 24 = .ok (.iinc 3 1, 3) := by decide +kernel
theorem dX7_placeOfPart_27 : decode cX7_placeOfPart 27 = .ok (.goto (-23), 3) := by decide +kernel
theorem dX7_placeOfPart_30 : decode cX7_placeOfPart 30 = .ok (.bipush 10, 2) := by decide +kernel
theorem dX7_placeOfPart_32 : decode cX7_placeOfPart 32 = .ok (.ireturn, 1) := by decide +kernel
set_option maxRecDepth 20000 in
theorem ggX7_drifted_X8_moved : GoodIn wsX7_drifted wsX8_moved := goodIn_r _ [5, 6, 7, 8, 9, 10, 11, 12] (by decide +kernel) (by decide +kernel)
set_option maxRecDepth 20000 in
theorem gX7_drifted_X8_moved_n72 : GoodIn wsX7_drifted (wsX8_moved) := ggX7_drifted_X8_moved
theorem dX7_drifted_0 : decode cX7_drifted 0 = .ok (.iload_n 2, 1) := by decide +kernel
theorem dX7_drifted_1 : decode cX7_drifted 1 = .ok (.aload_n 0, 1) := by decide +kernel
theorem dX7_drifted_2 : decode cX7_drifted 2 = .ok (.getfield 28, 3) := by decide +kernel
theorem dX7_drifted_5 : decode cX7_drifted 5 = .ok (.if_icmp .ge 9, 3) := by decide +kernel
theorem dX7_drifted_8 : decode cX7_drifted 8 = .ok (.iload_n 1, 1) := by decide +kernel
theorem dX7_drifted_9 : decode cX7_drifted 9 = .ok (.iconst 1, 1) := by decide +kernel
theorem dX7_drifted_10 : decode cX7_drifted 10 = .ok (.invokestatic 72, 3) := by decide +kernel
theorem dX7_drifted_13 : decode cX7_drifted 13 = .ok (.ireturn, 1) := by decide +kernel
theorem dX7_drifted_14 : decode cX7_drifted 14 = .ok (.iload_n 2, 1) := by decide +kernel
theorem dX7_drifted_15 : decode cX7_drifted 15 = .ok (.aload_n 0, 1) := by decide +kernel
theorem dX7_drifted_16 : decode cX7_drifted 16 = .ok (.getfield 28, 3) := by decide +kernel
theorem dX7_drifted_19 : decode cX7_drifted 19 = .ok (.aload_n 0, 1) := by decide +kernel
theorem dX7_drifted_20 : decode cX7_drifted 20 = .ok (.getfield 31, 3) := by decide +kernel
theorem dX7_drifted_23 : decode cX7_drifted 23 = .ok (.iadd, 1) := by decide +kernel
theorem dX7_drifted_24 : decode cX7_drifted 24 = .ok (.if_icmp .ge 11, 3) := by decide +kernel
theorem dX7_drifted_27 : decode cX7_drifted 27 = .ok (.iload_n 1, 1) := by decide +kernel
theorem dX7_drifted_28 : decode cX7_drifted 28 = .ok (.iconst 2, 1) := by decide +kernel
theorem dX7_drifted_29 : decode cX7_drifted 29 = .ok (.invokestatic 72, 3) := by decide +kernel
theorem dX7_drifted_32 : decode cX7_drifted 32 = .ok (.goto 4, 3) := by decide +kernel
theorem dX7_drifted_35 : decode cX7_drifted 35 = .ok (.iload_n 1, 1) := by decide +kernel
theorem dX7_drifted_36 : decode cX7_drifted 36 = .ok (.ireturn, 1) := by decide +kernel
set_option maxRecDepth 20000 in
theorem ggX8_init_X6_init : GoodIn wsX8_init wsX6_init := goodIn_r _ [32, 33, 2, 3, 34, 35, 81, 82, 83, 84, 85, 86] (by decide +kernel) (by decide +kernel)
set_option maxRecDepth 20000 in
theorem gX8_init_X6_init : GoodIn wsX8_init (wsX6_init) := ggX8_init_X6_init
set_option maxRecDepth 20000 in
theorem ggX8_init_X7_init : GoodIn wsX8_init wsX7_init := goodIn_r _ [38, 39, 2, 3, 34, 40, 41, 42, 97, 98, 99, 100, 101, 102, 103, 104, 105] (by decide +kernel) (by decide +kernel)
set_option maxRecDepth 20000 in
theorem gX8_init_X7_init : GoodIn wsX8_init (wsX7_init) := ggX8_init_X7_init
set_option maxRecDepth 20000 in
theorem ggX8_init_X4_init : GoodIn wsX8_init wsX4_init := goodIn_r _ [45, 46, 2, 3, 47, 48, 34, 49, 50, 106, 107, 108, 109, 110, 111] (by decide +kernel) (by decide +kernel)
set_option maxRecDepth 20000 in
theorem gX8_init_X4_init : GoodIn wsX8_init (wsX4_init) := ggX8_init_X4_init
set_option maxRecDepth 20000 in
theorem ggX8_init_X5_init : GoodIn wsX8_init wsX5_init := goodIn_r _ [53, 54, 2, 3, 55, 56, 57, 58, 59, 60, 13, 14, 61, 44, 45, 46, 47, 48, 34, 49, 50, 112, 106, 107, 108, 109, 110, 111] (by decide +kernel) (by decide +kernel)
set_option maxRecDepth 20000 in
theorem gX8_init_X5_init : GoodIn wsX8_init (wsX5_init) := ggX8_init_X5_init
set_option maxRecDepth 20000 in
theorem ggX8_init_X0_init : GoodIn wsX8_init wsX0_init := goodIn_r _ [64, 65, 2, 3, 66, 18, 19, 67, 68, 69, 70, 71, 72, 73, 74, 52, 53, 54, 55, 56, 57, 58, 59, 60, 13, 14, 61, 44, 45, 46, 47, 48, 34, 49, 50, 75, 76, 77, 112, 113, 114, 115, 116, 117, 119, 120, 106, 107, 108, 109, 110, 111] (by decide +kernel) (by decide +kernel)
set_option maxRecDepth 20000 in
theorem gX8_init_X0_init : GoodIn wsX8_init (wsX0_init) := ggX8_init_X0_init
set_option maxRecDepth 20000 in
theorem ggX8_init_X2_init : GoodIn wsX8_init wsX2_init := goodIn_r _ [79, 80, 2, 3] (by decide +kernel) (by decide +kernel)
set_option maxRecDepth 20000 in
theorem gX8_init_X2_init_n54 : GoodIn wsX8_init (wsX2_init) := ggX8_init_X2_init
