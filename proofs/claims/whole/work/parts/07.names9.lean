theorem dX9_init_0 : decode cX9_init 0 = .ok (.aload_n 0, 1) := by decide +kernel
theorem dX9_init_1 : decode cX9_init 1 = .ok (.invokespecial 1, 3) := by decide +kernel
theorem dX9_init_4 : decode cX9_init 4 = .ok (.aload_n 0, 1) := by decide +kernel
theorem dX9_init_5 : decode cX9_init 5 = .ok (.bipush 11, 2) := by decide +kernel
theorem dX9_init_7 : decode cX9_init 7 = .ok (.newarray .int, 2) := by decide +kernel
theorem dX9_init_9 : decode cX9_init 9 = .ok (.putfield 7, 3) := by decide +kernel
theorem dX9_init_12 : decode cX9_init 12 = .ok (.aload_n 0, 1) := by decide +kernel
theorem dX9_init_13 : decode cX9_init 13 = .ok (.bipush 7, 2) := by decide +kernel
theorem dX9_init_15 : decode cX9_init 15 = .ok (.newarray .int, 2) := by decide +kernel
theorem dX9_init_17 : decode cX9_init 17 = .ok (.putfield 13, 3) := by decide +kernel
theorem dX9_init_20 : decode cX9_init 20 = .ok (.aload_n 0, 1) := by decide +kernel
theorem dX9_init_21 : decode cX9_init 21 = .ok (.bipush 11, 2) := by decide +kernel
theorem dX9_init_23 : decode cX9_init 23 = .ok (.newarray .int, 2) := by decide +kernel
theorem dX9_init_25 : decode cX9_init 25 = .ok (.putfield 16, 3) := by decide +kernel
theorem dX9_init_28 : decode cX9_init 28 = .ok (.aload_n 0, 1) := by decide +kernel
theorem dX9_init_29 : decode cX9_init 29 = .ok (.bipush 33, 2) := by decide +kernel
theorem dX9_init_31 : decode cX9_init 31 = .ok (.newarray .long, 2) := by decide +kernel
theorem dX9_init_33 : decode cX9_init 33 = .ok (.putfield 19, 3) := by decide +kernel
theorem dX9_init_36 : decode cX9_init 36 = .ok (.aload_n 0, 1) := by decide +kernel
theorem dX9_init_37 : decode cX9_init 37 = .ok (.bipush 9, 2) := by decide +kernel
theorem dX9_init_39 : decode cX9_init 39 = .ok (.newarray .int, 2) := by decide +kernel
theorem dX9_init_41 : decode cX9_init 41 = .ok (.putfield 23, 3) := by decide +kernel
theorem dX9_init_44 : decode cX9_init 44 = .ok (.aload_n 0, 1) := by decide +kernel
theorem dX9_init_45 : decode cX9_init 45 = .ok (.bipush 40, 2) := by decide +kernel
theorem dX9_init_47 : decode cX9_init 47 = .ok (.newarray .int, 2) := by decide +kernel
theorem dX9_init_49 : decode cX9_init 49 = .ok (.putfield 26, 3) := by decide +kernel
theorem dX9_init_52 : decode cX9_init 52 = .ok (.aload_n 0, 1) := by decide +kernel
theorem dX9_init_53 : decode cX9_init 53 = .ok (.bipush 10, 2) := by decide +kernel
theorem dX9_init_55 : decode cX9_init 55 = .ok (.newarray .long, 2) := by decide +kernel
theorem dX9_init_57 : decode cX9_init 57 = .ok (.putfield 29, 3) := by decide +kernel
theorem dX9_init_60 : decode cX9_init 60 = .ok (.aload_n 0, 1) := by decide +kernel
theorem dX9_init_61 : decode cX9_init 61 = .ok (.bipush 99, 2) := by decide +kernel
theorem dX9_init_63 : decode cX9_init 63 = .ok (.newarray .long, 2) := by decide +kernel
theorem dX9_init_65 : decode cX9_init 65 = .ok (.putfield 32, 3) := by decide +kernel
theorem dX9_init_68 : decode cX9_init 68 = .ok (.aload_n 0, 1) := by decide +kernel
theorem dX9_init_69 : decode cX9_init 69 = .ok (.bipush 81, 2) := by decide +kernel
theorem dX9_init_71 : decode cX9_init 71 = .ok (.newarray .int, 2) := by decide +kernel
theorem dX9_init_73 : decode cX9_init 73 = .ok (.putfield 35, 3) := by decide +kernel
theorem dX9_init_76 : decode cX9_init 76 = .ok (.aload_n 0, 1) := by decide +kernel
theorem dX9_init_77 : decode cX9_init 77 = .ok (.iconst 2, 1) := by decide +kernel
theorem dX9_init_78 : decode cX9_init 78 = .ok (.newarray .boolean, 2) := by decide +kernel
theorem dX9_init_80 : decode cX9_init 80 = .ok (.putfield 38, 3) := by decide +kernel
theorem dX9_init_83 : decode cX9_init 83 = .ok (.aload_n 0, 1) := by decide +kernel
theorem dX9_init_84 : decode cX9_init 84 = .ok (.bipush 22, 2) := by decide +kernel
theorem dX9_init_86 : decode cX9_init 86 = .ok (.newarray .long, 2) := by decide +kernel
theorem dX9_init_88 : decode cX9_init 88 = .ok (.putfield 42, 3) := by decide +kernel
theorem dX9_init_91 : decode cX9_init 91 = .ok (.aload_n 0, 1) := by decide +kernel
theorem dX9_init_92 : decode cX9_init 92 = .ok (.bipush 18, 2) := by decide +kernel
theorem dX9_init_94 : decode cX9_init 94 = .ok (.newarray .int, 2) := by decide +kernel
theorem dX9_init_96 : decode cX9_init 96 = .ok (.putfield 45, 3) := by decide +kernel
theorem dX9_init_99 : decode cX9_init 99 = .ok (.aload_n 0, 1) := by decide +kernel
theorem dX9_init_100 : decode cX9_init 100 = .ok (.iconst 1, 1) := by decide +kernel
theorem dX9_init_101 : decode cX9_init 101 = .ok (.putfield 48, 3) := by decide +kernel
theorem dX9_init_104 : decode cX9_init 104 = .ok (.return_, 1) := by decide +kernel
theorem dX9_in_0 : decode cX9_in 0 = .ok (.lload_n 0, 1) := by decide +kernel
theorem dX9_in_1 : decode cX9_in 1 = .ok (.lload_n 2, 1) := by decide +kernel
theorem dX9_in_2 : decode cX9_in 2 = .ok (.lcmp, 1) := by decide +kernel
theorem dX9_in_3 : decode cX9_in 3 = .ok (.ifCond .lt 14, 3) := by decide +kernel
theorem dX9_in_6 : decode cX9_in 6 = .ok (.lload_n 0, 1) := by decide +kernel
theorem dX9_in_7 : decode cX9_in 7 = .ok (.lload 4, 2) := by decide +kernel
theorem dX9_in_9 : decode cX9_in 9 = .ok (.lcmp, 1) := by decide +kernel
theorem dX9_in_10 : decode cX9_in 10 = .ok (.ifCond .gt 7, 3) := by decide +kernel
theorem dX9_in_13 : decode cX9_in 13 = .ok (.iconst 1, 1) := by decide +kernel
theorem dX9_in_14 : decode cX9_in 14 = .ok (.goto 4, 3) := by decide +kernel
theorem dX9_in_17 : decode cX9_in 17 = .ok (.iconst 0, 1) := by decide +kernel
theorem dX9_in_18 : decode cX9_in 18 = .ok (.ireturn, 1) := by decide +kernel
set_option maxRecDepth 20000 in
theorem ggX9_write_X9_in : GoodIn wsX9_write wsX9_in := goodIn_r _ [7] (by decide +kernel) (by decide +kernel)
set_option maxRecDepth 20000 in
theorem gX9_write_X9_in : GoodIn wsX9_write (va_wsS RX9 54 yX9_in wsX9_in) := goodIn_app (goodIn_of _ (by decide +kernel)) ggX9_write_X9_in
theorem dX9_write_0 : decode cX9_write 0 = .ok (.iload_n 1, 1) := by decide +kernel
theorem dX9_write_1 : decode cX9_write 1 = .ok (.i2l, 1) := by decide +kernel
theorem dX9_write_2 : decode cX9_write 2 = .ok (.lconst 0, 1) := by decide +kernel
theorem dX9_write_3 : decode cX9_write 3 = .ok (.ldc2_w 52, 3) := by decide +kernel
theorem dX9_write_6 : decode cX9_write 6 = .ok (.invokestatic 54, 3) := by decide +kernel
theorem dX9_write_9 : decode cX9_write 9 = .ok (.ifCond .ne 6, 3) := by decide +kernel
theorem dX9_write_12 : decode cX9_write 12 = .ok (.bipush (-2), 2) := by decide +kernel
theorem dX9_write_14 : decode cX9_write 14 = .ok (.ireturn, 1) := by decide +kernel
theorem dX9_write_15 : decode cX9_write 15 = .ok (.aload_n 0, 1) := by decide +kernel
theorem dX9_write_16 : decode cX9_write 16 = .ok (.getfield 58, 3) := by decide +kernel
theorem dX9_write_19 : decode cX9_write 19 = .ok (.bipush 40, 2) := by decide +kernel
theorem dX9_write_21 : decode cX9_write 21 = .ok (.if_icmp .ne 6, 3) := by decide +kernel
theorem dX9_write_24 : decode cX9_write 24 = .ok (.bipush (-4), 2) := by decide +kernel
theorem dX9_write_26 : decode cX9_write 26 = .ok (.ireturn, 1) := by decide +kernel
theorem dX9_write_27 : decode cX9_write 27 = .ok (.aload_n 0, 1) := by decide +kernel
theorem dX9_write_28 : decode cX9_write 28 = .ok (.getfield 26, 3) := by decide +kernel
theorem dX9_write_31 : decode cX9_write 31 = .ok (.aload_n 0, 1) := by decide +kernel
theorem dX9_write_32 : decode cX9_write 32 = .ok (.getfield 58, 3) := by decide +kernel
theorem dX9_write_35 : decode cX9_write 35 = .ok (.iload_n 1, 1) := by decide +kernel
theorem dX9_write_36 : decode cX9_write 36 = .ok (.iastore, 1) := by decide +kernel
theorem dX9_write_37 : decode cX9_write 37 = .ok (.aload_n 0, 1) := by decide +kernel
theorem dX9_write_38 : decode cX9_write 38 = .ok (.dup, 1) := by decide +kernel
theorem dX9_write_39 : decode cX9_write 39 = .ok (.getfield 58, 3) := by decide +kernel
theorem dX9_write_42 : decode cX9_write 42 = .ok (.iconst 1, 1) := by decide +kernel
theorem dX9_write_43 : decode cX9_write 43 = .ok (.iadd, 1) := by decide +kernel
theorem dX9_write_44 : decode cX9_write 44 = .ok (.putfield 58, 3) := by decide +kernel
theorem dX9_write_47 : decode cX9_write 47 = .ok (.aload_n 0, 1) := by decide +kernel
theorem dX9_write_48 : decode cX9_write 48 = .ok (.getfield 58, 3) := by decide +kernel
theorem dX9_write_51 : decode cX9_write 51 = .ok (.ireturn, 1) := by decide +kernel
theorem dX9_wipe_0 : decode cX9_wipe 0 = .ok (.aload_n 0, 1) := by decide +kernel
theorem dX9_wipe_1 : decode cX9_wipe 1 = .ok (.getfield 58, 3) := by decide +kernel
theorem dX9_wipe_4 : decode cX9_wipe 4 = .ok (.istore_n 1, 1) := by decide +kernel
theorem dX9_wipe_5 : decode cX9_wipe 5 = .ok (.aload_n 0, 1) := by decide +kernel
theorem dX9_wipe_6 : decode cX9_wipe 6 = .ok (.iconst 0, 1) := by decide +kernel
theorem dX9_wipe_7 : decode cX9_wipe 7 = .ok (.putfield 58, 3) := by decide +kernel
theorem dX9_wipe_10 : decode cX9_wipe 10 = .ok (.iload_n 1, 1) := by decide +kernel
theorem dX9_wipe_11 : decode cX9_wipe 11 = .ok (.ireturn, 1) := by decide +kernel
set_option maxRecDepth 20000 in
theorem ggX9_figure_X9_in : GoodIn wsX9_figure wsX9_in := goodIn_r _ [8] (by decide +kernel) (by decide +kernel)
set_option maxRecDepth 20000 in
theorem gX9_figure_X9_in : GoodIn wsX9_figure (va_wsS RX9 54 yX9_in wsX9_in) := goodIn_app (goodIn_of _ (by decide +kernel)) ggX9_figure_X9_in
theorem dX9_figure_0 : decode cX9_figure 0 = .ok (.aload_n 0, 1) := by decide +kernel
theorem dX9_figure_1 : decode cX9_figure 1 = .ok (.getfield 61, 3) := by decide +kernel
theorem dX9_figure_4 : decode cX9_figure 4 = .ok (.bipush (-9), 2) := by decide +kernel
theorem dX9_figure_6 : decode cX9_figure 6 = .ok (.if_icmp .ne 29, 3) := by decide +kernel
theorem dX9_figure_9 : decode cX9_figure 9 = .ok (.aload_n 0, 1) := by decide +kernel
theorem dX9_figure_10 : decode cX9_figure 10 = .ok (.getfield 64, 3) := by decide +kernel
theorem dX9_figure_13 : decode cX9_figure 13 = .ok (.aload_n 0, 1) := by decide +kernel
theorem dX9_figure_14 : decode cX9_figure 14 = .ok (.getfield 58, 3) := by decide +kernel
theorem dX9_figure_17 : decode cX9_figure 17 = .ok (.if_icmp .ge 18, 3) := by decide +kernel
theorem dX9_figure_20 : decode cX9_figure 20 = .ok (.aload_n 0, 1) := by decide +kernel
theorem dX9_figure_21 : decode cX9_figure 21 = .ok (.getfield 26, 3) := by decide +kernel
theorem dX9_figure_24 : decode cX9_figure 24 = .ok (.aload_n 0, 1) := by decide +kernel
theorem dX9_figure_25 : decode cX9_figure 25 = .ok (.getfield 64, 3) := by decide +kernel
theorem dX9_figure_28 : decode cX9_figure 28 = .ok (.iaload, 1) := by decide +kernel
theorem dX9_figure_29 : decode cX9_figure 29 = .ok (.bipush 48, 2) := by decide +kernel
theorem dX9_figure_31 : decode cX9_figure 31 = .ok (.isub, 1) := by decide +kernel
theorem dX9_figure_32 : decode cX9_figure 32 = .ok (.goto 5, 3) := by decide +kernel
theorem dX9_figure_35 : decode cX9_figure 35 = .ok (.bipush (-9), 2) := by decide +kernel
theorem dX9_figure_37 : decode cX9_figure 37 = .ok (.istore_n 3, 1) := by decide +kernel
theorem dX9_figure_38 : decode cX9_figure 38 = .ok (.iload_n 3, 1) := by decide +kernel
theorem dX9_figure_39 : decode cX9_figure 39 = .ok (.i2l, 1) := by decide +kernel
theorem dX9_figure_40 : decode cX9_figure 40 = .ok (.iload_n 1, 1) := by decide +kernel
theorem dX9_figure_41 : decode cX9_figure 41 = .ok (.i2l, 1) := by decide +kernel
theorem dX9_figure_42 : decode cX9_figure 42 = .ok (.iload_n 2, 1) := by decide +kernel
theorem dX9_figure_43 : decode cX9_figure 43 = .ok (.i2l, 1) := by decide +kernel
theorem dX9_figure_44 : decode cX9_figure 44 = .ok (.invokestatic 54, 3) := by decide +kernel
theorem dX9_figure_47 : decode cX9_figure 47 = .ok (.ifCond .ne 29, 3) := by decide +kernel
theorem dX9_figure_50 : decode cX9_figure 50 = .ok (.aload_n 0, 1) := by decide +kernel
theorem dX9_figure_51 : decode cX9_figure 51 = .ok (.aload_n 0, 1) := by decide +kernel
theorem dX9_figure_52 : decode cX9_figure 52 = .ok (.getfield 61, 3) := by decide +kernel
theorem dX9_figure_55 : decode cX9_figure 55 = .ok (.bipush (-9), 2) := by decide +kernel
theorem dX9_figure_57 : decode cX9_figure 57 = .ok (.if_icmp .ne 10, 3) := by decide +kernel
theorem dX9_figure_60 : decode cX9_figure 60 = .ok (.aload_n 0, 1) := by decide +kernel
theorem dX9_figure_61 : decode cX9_figure 61 = .ok (.getfield 64, 3) := by decide +kernel
theorem dX9_figure_64 : decode cX9_figure 64 = .ok (.goto 7, 3) := by decide +kernel
theorem dX9_figure_67 : decode cX9_figure 67 = .ok (.aload_n 0, 1) := by decide +kernel
theorem dX9_figure_68 : decode cX9_figure 68 = .ok (.getfield 61, 3) := by decide +kernel
theorem dX9_figure_71 : decode cX9_figure 71 = .ok (.putfield 61, 3) := by decide +kernel
theorem dX9_figure_74 : decode cX9_figure 74 = .ok (.iload_n 1, 1) := by decide +kernel
theorem dX9_figure_75 : decode cX9_figure 75 = .ok (.ireturn, 1) := by decide +kernel
theorem dX9_figure_76 : decode cX9_figure 76 = .ok (.aload_n 0, 1) := by decide +kernel
theorem dX9_figure_77 : decode cX9_figure 77 = .ok (.dup, 1) := by decide +kernel
theorem dX9_figure_78 : decode cX9_figure 78 = .ok (.getfield 64, 3) := by decide +kernel
theorem dX9_figure_81 : decode cX9_figure 81 = .ok (.iconst 1, 1) := by decide +kernel
theorem dX9_figure_82 : decode cX9_figure 82 = .ok (.iadd, 1) := by decide +kernel
theorem dX9_figure_83 : decode cX9_figure 83 = .ok (.putfield 64, 3) := by decide +kernel
theorem dX9_figure_86 : decode cX9_figure 86 = .ok (.iload_n 3, 1) := by decide +kernel
theorem dX9_figure_87 : decode cX9_figure 87 = .ok (.ireturn, 1) := by decide +kernel
set_option maxRecDepth 20000 in
theorem ggX9_freshCell_X9_in : GoodIn wsX9_freshCell wsX9_in := goodIn_r _ [10] (by decide +kernel) (by decide +kernel)
set_option maxRecDepth 20000 in
theorem gX9_freshCell_X9_in : GoodIn wsX9_freshCell (va_wsS RX9 54 yX9_in wsX9_in) := goodIn_app (goodIn_of _ (by decide +kernel)) ggX9_freshCell_X9_in
theorem dX9_freshCell_0 : decode cX9_freshCell 0 = .ok (.aload_n 0, 1) := by decide +kernel
theorem dX9_freshCell_1 : decode cX9_freshCell 1 = .ok (.getfield 61, 3) := by decide +kernel
theorem dX9_freshCell_4 : decode cX9_freshCell 4 = .ok (.bipush (-9), 2) := by decide +kernel
theorem dX9_freshCell_6 : decode cX9_freshCell 6 = .ok (.if_icmp .ne 29, 3) := by decide +kernel
theorem dX9_freshCell_9 : decode cX9_freshCell 9 = .ok (.aload_n 0, 1) := by decide +kernel
theorem dX9_freshCell_10 : decode cX9_freshCell 10 = .ok (.getfield 64, 3) := by decide +kernel
theorem dX9_freshCell_13 : decode cX9_freshCell 13 = .ok (.aload_n 0, 1) := by decide +kernel
theorem dX9_freshCell_14 : decode cX9_freshCell 14 = .ok (.getfield 58, 3) := by decide +kernel
theorem dX9_freshCell_17 : decode cX9_freshCell 17 = .ok (.if_icmp .ge 18, 3) := by decide +kernel
theorem dX9_freshCell_20 : decode cX9_freshCell 20 = .ok (.aload_n 0, 1) := by decide +kernel
theorem dX9_freshCell_21 : decode cX9_freshCell 21 = .ok (.getfield 26, 3) := by decide +kernel
theorem dX9_freshCell_24 : decode cX9_freshCell 24 = .ok (.aload_n 0, 1) := by decide +kernel
theorem dX9_freshCell_25 : decode cX9_freshCell 25 = .ok (.getfield 64, 3) := by decide +kernel
theorem dX9_freshCell_28 : decode cX9_freshCell 28 = .ok (.iaload, 1) := by decide +kernel
theorem dX9_freshCell_29 : decode cX9_freshCell 29 = .ok (.bipush 48, 2) := by decide +kernel
theorem dX9_freshCell_31 : decode cX9_freshCell 31 = .ok (.isub, 1) := by decide +kernel
theorem dX9_freshCell_32 : decode cX9_freshCell 32 = .ok (.goto 5, 3) := by decide +kernel
theorem dX9_freshCell_35 : decode cX9_freshCell 35 = .ok (.bipush (-9), 2) := by decide +kernel
theorem dX9_freshCell_37 : decode cX9_freshCell 37 = .ok (.istore_n 1, 1) := by decide +kernel
theorem dX9_freshCell_38 : decode cX9_freshCell 38 = .ok (.iload_n 1, 1) := by decide +kernel
theorem dX9_freshCell_39 : decode cX9_freshCell 39 = .ok (.i2l, 1) := by decide +kernel
theorem dX9_freshCell_40 : decode cX9_freshCell 40 = .ok (.lconst 0, 1) := by decide +kernel
theorem dX9_freshCell_41 : decode cX9_freshCell 41 = .ok (.ldc2_w 67, 3) := by decide +kernel
theorem dX9_freshCell_44 : decode cX9_freshCell 44 = .ok (.invokestatic 54, 3) := by decide +kernel
theorem dX9_freshCell_47 : decode cX9_freshCell 47 = .ok (.ifCond .eq 12, 3) := by decide +kernel
theorem dX9_freshCell_50 : decode cX9_freshCell 50 = .ok (.aload_n 0, 1) := by decide +kernel
theorem dX9_freshCell_51 : decode cX9_freshCell 51 = .ok (.getfield 16, 3) := by decide +kernel
theorem dX9_freshCell_54 : decode cX9_freshCell 54 = .ok (.iload_n 1, 1) := by decide +kernel
theorem dX9_freshCell_55 : decode cX9_freshCell 55 = .ok (.iaload, 1) := by decide +kernel
theorem dX9_freshCell_56 : decode cX9_freshCell 56 = .ok (.ifCond .le 29, 3) := by decide +kernel
theorem dX9_freshCell_59 : decode cX9_freshCell 59 = .ok (.aload_n 0, 1) := by decide +kernel
theorem dX9_freshCell_60 : decode cX9_freshCell 60 = .ok (.aload_n 0, 1) := by decide +kernel
theorem dX9_freshCell_61 : decode cX9_freshCell 61 = .ok (.getfield 61, 3) := by decide +kernel
theorem dX9_freshCell_64 : decode cX9_freshCell 64 = .ok (.bipush (-9), 2) := by decide +kernel
theorem dX9_freshCell_66 : decode cX9_freshCell 66 = .ok (.if_icmp .ne 10, 3) := by decide +kernel
theorem dX9_freshCell_69 : decode cX9_freshCell 69 = .ok (.aload_n 0, 1) := by decide +kernel
theorem dX9_freshCell_70 : decode cX9_freshCell 70 = .ok (.getfield 64, 3) := by decide +kernel
theorem dX9_freshCell_73 : decode cX9_freshCell 73 = .ok (.goto 7, 3) := by decide +kernel
theorem dX9_freshCell_76 : decode cX9_freshCell 76 = .ok (.aload_n 0, 1) := by decide +kernel
theorem dX9_freshCell_77 : decode cX9_freshCell 77 = .ok (.getfield 61, 3) := by decide +kernel
theorem dX9_freshCell_80 : decode cX9_freshCell 80 = .ok (.putfield 61, 3) := by decide +kernel
theorem dX9_freshCell_83 : decode cX9_freshCell 83 = .ok (.iconst 0, 1) := by decide +kernel
theorem dX9_freshCell_84 : decode cX9_freshCell 84 = .ok (.ireturn, 1) := by decide +kernel
theorem dX9_freshCell_85 : decode cX9_freshCell 85 = .ok (.aload_n 0, 1) := by decide +kernel
theorem dX9_freshCell_86 : decode cX9_freshCell 86 = .ok (.dup, 1) := by decide +kernel
theorem dX9_freshCell_87 : decode cX9_freshCell 87 = .ok (.getfield 64, 3) := by decide +kernel
theorem dX9_freshCell_90 : decode cX9_freshCell 90 = .ok (.iconst 1, 1) := by decide +kernel
theorem dX9_freshCell_91 : decode cX9_freshCell 91 = .ok (.iadd, 1) := by decide +kernel
theorem dX9_freshCell_92 : decode cX9_freshCell 92 = .ok (.putfield 64, 3) := by decide +kernel
theorem dX9_freshCell_95 : decode cX9_freshCell 95 = .ok (.iload_n 1, 1) := by decide +kernel
theorem dX9_freshCell_96 : decode cX9_freshCell 96 = .ok (.ireturn, 1) := by decide +kernel
theorem dX9_isCellLeft_0 : decode cX9_isCellLeft 0 = .ok (.iconst 0, 1) := by decide +kernel
theorem dX9_isCellLeft_1 : decode cX9_isCellLeft 1 = .ok (.istore_n 1, 1) := by decide +kernel
theorem dX9_isCellLeft_2 : decode cX9_isCellLeft 2 = .ok (.iconst 0, 1) := by decide +kernel
theorem dX9_isCellLeft_3 : decode cX9_isCellLeft 3 = .ok (.istore_n 2, 1) := by decide +kernel
theorem dX9_isCellLeft_4 : decode cX9_isCellLeft 4 = .ok (.iload_n 2, 1) := by decide +kernel
theorem dX9_isCellLeft_5 : decode cX9_isCellLeft 5 = .ok (.bipush 10, 2) := by decide +kernel
theorem dX9_isCellLeft_7 : decode cX9_isCellLeft 7 = .ok (.if_icmp .ge 28, 3) := by decide +kernel
theorem dX9_isCellLeft_10 : decode cX9_isCellLeft 10 = .ok (.iload_n 1, 1) := by decide +kernel
theorem dX9_isCellLeft_11 : decode cX9_isCellLeft 11 = .ok (.ifCond .ne 12, 3) := by decide +kernel
theorem dX9_isCellLeft_14 : decode cX9_isCellLeft 14 = .ok (.aload_n 0, 1) := by decide +kernel
theorem dX9_isCellLeft_15 : decode cX9_isCellLeft 15 = .ok (.getfield 16, 3) := by decide +kernel
theorem dX9_isCellLeft_18 : decode cX9_isCellLeft 18 = .ok (.iload_n 2, 1) := by decide +kernel
theorem dX9_isCellLeft_19 : decode cX9_isCellLeft 19 = .ok (.iaload, 1) := by decide +kernel
theorem dX9_isCellLeft_20 : decode cX9_isCellLeft 20 = .ok (.ifCond .ne 7, 3) := by decide +kernel
theorem dX9_isCellLeft_23 : decode cX9_isCellLeft 23 = .ok (.iconst 1, 1) := by decide +kernel
theorem dX9_isCellLeft_24 : decode cX9_isCellLeft 24 = .ok (.goto 4, 3) := by decide +kernel
theorem dX9_isCellLeft_27 : decode cX9_isCellLeft 27 = .ok (.iconst 0, 1) := by decide +kernel
theorem dX9_isCellLeft_28 : decode cX9_isCellLeft 28 = .ok (.istore_n 1, 1) := by decide +kernel
theorem dX9_isCellLeft_29 : decode cX9_isCellLeft 29 = .ok (.iinc 2 1, 3) := by decide +kernel
theorem dX9_isCellLeft_32 : decode cX9_isCellLeft 32 = .ok (.goto (-28), 3) := by decide +kernel
theorem dX9_isCellLeft_35 : decode cX9_isCellLeft 35 = .ok (.iload_n 1, 1) := by decide +kernel
theorem dX9_isCellLeft_36 : decode cX9_isCellLeft 36 = .ok (.ireturn, 1) := by decide +kernel
set_option maxRecDepth 20000 in
theorem ggX9_readText_X9_figure : GoodIn wsX9_readText wsX9_figure := goodIn_r _ [12, 2, 1, 5, 6, 13, 14, 11, 15, 30, 31, 32, 33, 34, 35, 36, 37, 38, 39, 40, 41, 42, 43, 44, 45, 46, 47, 48, 49, 50, 51, 52, 53, 54, 55, 56, 57, 58] (by decide +kernel) (by decide +kernel)
set_option maxRecDepth 20000 in
theorem gX9_readText_X9_figure : GoodIn wsX9_readText (wsV RX9 72 RX9 yX9_figure wsX9_figure) := goodIn_app (goodIn_of _ (by decide +kernel)) ggX9_readText_X9_figure
set_option maxRecDepth 20000 in
theorem ggX9_readText_X9_readPart : GoodIn wsX9_readText wsX9_readPart := goodIn_r _ [19, 1, 4, 2, 3, 20, 21, 22, 23, 11, 24, 25, 26, 27, 28, 5, 6, 29, 13, 14, 15, 8, 9, 10, 12, 30, 31, 32, 33, 34, 35, 36, 37, 38, 39, 40, 41, 42, 43, 44, 45, 46, 47, 48, 49, 50, 51, 52, 53, 54, 55, 56, 57, 58] (by decide +kernel) (by decide +kernel)
set_option maxRecDepth 20000 in
theorem gX9_readText_X9_readPart : GoodIn wsX9_readText (wsV RX9 76 RX9 yX9_readPart wsX9_readPart) := goodIn_app (goodIn_of _ (by decide +kernel)) ggX9_readText_X9_readPart
theorem dX9_readText_0 : decode cX9_readText 0 = .ok (.aload_n 0, 1) := by decide +kernel
theorem dX9_readText_1 : decode cX9_readText 1 = .ok (.iconst 0, 1) := by decide +kernel
theorem dX9_readText_2 : decode cX9_readText 2 = .ok (.putfield 64, 3) := by decide +kernel
theorem dX9_readText_5 : decode cX9_readText 5 = .ok (.aload_n 0, 1) := by decide +kernel
theorem dX9_readText_6 : decode cX9_readText 6 = .ok (.bipush (-9), 2) := by decide +kernel
theorem dX9_readText_8 : decode cX9_readText 8 = .ok (.putfield 61, 3) := by decide +kernel
theorem dX9_readText_11 : decode cX9_readText 11 = .ok (.aload_n 0, 1) := by decide +kernel
theorem dX9_readText_12 : decode cX9_readText 12 = .ok (.bipush (-9), 2) := by decide +kernel
theorem dX9_readText_14 : decode cX9_readText 14 = .ok (.putfield 69, 3) := by decide +kernel
theorem dX9_readText_17 : decode cX9_readText 17 = .ok (.iconst 0, 1) := by decide +kernel
theorem dX9_readText_18 : decode cX9_readText 18 = .ok (.istore_n 1, 1) := by decide +kernel
theorem dX9_readText_19 : decode cX9_readText 19 = .ok (.iload_n 1, 1) := by decide +kernel
theorem dX9_readText_20 : decode cX9_readText 20 = .ok (.bipush 11, 2) := by decide +kernel
theorem dX9_readText_22 : decode cX9_readText 22 = .ok (.if_icmp .ge 16, 3) := by decide +kernel
theorem dX9_readText_25 : decode cX9_readText 25 = .ok (.aload_n 0, 1) := by decide +kernel
theorem dX9_readText_26 : decode cX9_readText 26 = .ok (.getfield 16, 3) := by decide +kernel
theorem dX9_readText_29 : decode cX9_readText 29 = .ok (.iload_n 1, 1) := by decide +kernel
theorem dX9_readText_30 : decode cX9_readText 30 = .ok (.iconst 0, 1) := by decide +kernel
theorem dX9_readText_31 : decode cX9_readText 31 = .ok (.iastore, 1) := by decide +kernel
theorem dX9_readText_32 : decode cX9_readText 32 = .ok (.iinc 1 1, 3) := by decide +kernel
theorem dX9_readText_35 : decode cX9_readText 35 = .ok (.goto (-16), 3) := by decide +kernel
theorem dX9_readText_38 : decode cX9_readText 38 = .ok (.aload_n 0, 1) := by decide +kernel
theorem dX9_readText_39 : decode cX9_readText 39 = .ok (.getfield 58, 3) := by decide +kernel
theorem dX9_readText_42 : decode cX9_readText 42 = .ok (.ifCond .eq 14, 3) := by decide +kernel
theorem dX9_readText_45 : decode cX9_readText 45 = .ok (.aload_n 0, 1) := by decide +kernel
theorem dX9_readText_46 : decode cX9_readText 46 = .ok (.getfield 26, 3) := by decide +kernel
theorem dX9_readText_49 : decode cX9_readText 49 = .ok (.iconst 0, 1) := by decide +kernel
theorem dX9_readText_50 : decode cX9_readText 50 = .ok (.iaload, 1) := by decide +kernel
theorem dX9_readText_51 : decode cX9_readText 51 = .ok (.bipush 83, 2) := by decide +kernel
theorem dX9_readText_53 : decode cX9_readText 53 = .ok (.if_icmp .eq 5, 3) := by decide +kernel
theorem dX9_readText_56 : decode cX9_readText 56 = .ok (.iconst 0, 1) := by decide +kernel
theorem dX9_readText_57 : decode cX9_readText 57 = .ok (.ireturn, 1) := by decide +kernel
theorem dX9_readText_58 : decode cX9_readText 58 = .ok (.aload_n 0, 1) := by decide +kernel
theorem dX9_readText_59 : decode cX9_readText 59 = .ok (.iconst 1, 1) := by decide +kernel
theorem dX9_readText_60 : decode cX9_readText 60 = .ok (.putfield 64, 3) := by decide +kernel
theorem dX9_readText_63 : decode cX9_readText 63 = .ok (.aload_n 0, 1) := by decide +kernel
theorem dX9_readText_64 : decode cX9_readText 64 = .ok (.getfield 13, 3) := by decide +kernel
theorem dX9_readText_67 : decode cX9_readText 67 = .ok (.iconst 1, 1) := by decide +kernel
theorem dX9_readText_68 : decode cX9_readText 68 = .ok (.aload_n 0, 1) := by decide +kernel
theorem dX9_readText_69 : decode cX9_readText 69 = .ok (.iconst 0, 1) := by decide +kernel
theorem dX9_readText_70 : decode cX9_readText 70 = .ok (.bipush 9, 2) := by decide +kernel
theorem dX9_readText_72 : decode cX9_readText 72 = .ok (.invokevirtual 72, 3) := by decide +kernel
theorem dX9_readText_75 : decode cX9_readText 75 = .ok (.iastore, 1) := by decide +kernel
theorem dX9_readText_76 : decode cX9_readText 76 = .ok (.aload_n 0, 1) := by decide +kernel
theorem dX9_readText_77 : decode cX9_readText 77 = .ok (.getfield 13, 3) := by decide +kernel
theorem dX9_readText_80 : decode cX9_readText 80 = .ok (.iconst 2, 1) := by decide +kernel
theorem dX9_readText_81 : decode cX9_readText 81 = .ok (.aload_n 0, 1) := by decide +kernel
theorem dX9_readText_82 : decode cX9_readText 82 = .ok (.iconst 0, 1) := by decide +kernel
theorem dX9_readText_83 : decode cX9_readText 83 = .ok (.aload_n 0, 1) := by decide +kernel
theorem dX9_readText_84 : decode cX9_readText 84 = .ok (.getfield 13, 3) := by decide +kernel
theorem dX9_readText_87 : decode cX9_readText 87 = .ok (.iconst 1, 1) := by decide +kernel
theorem dX9_readText_88 : decode cX9_readText 88 = .ok (.iaload, 1) := by decide +kernel
theorem dX9_readText_89 : decode cX9_readText 89 = .ok (.ifCond .ne 8, 3) := by decide +kernel
theorem dX9_readText_92 : decode cX9_readText 92 = .ok (.bipush 9, 2) := by decide +kernel
theorem dX9_readText_94 : decode cX9_readText 94 = .ok (.goto 12, 3) := by decide +kernel
theorem dX9_readText_97 : decode cX9_readText 97 = .ok (.bipush 10, 2) := by decide +kernel
theorem dX9_readText_99 : decode cX9_readText 99 = .ok (.aload_n 0, 1) := by decide +kernel
theorem dX9_readText_100 : decode cX9_readText 100 = .ok (.getfield 13, 3) := by decide +kernel
theorem dX9_readText_103 : decode cX9_readText 103 = .ok (.iconst 1, 1) := by decide +kernel
theorem dX9_readText_104 : decode cX9_readText 104 = .ok (.iaload, 1) := by decide +kernel
theorem dX9_readText_105 : decode cX9_readText 105 = .ok (.isub, 1) := by decide +kernel
theorem dX9_readText_106 : decode cX9_readText 106 = .ok (.invokevirtual 72, 3) := by decide +kernel
theorem dX9_readText_109 : decode cX9_readText 109 = .ok (.iastore, 1) := by decide +kernel
theorem dX9_readText_110 : decode cX9_readText 110 = .ok (.aload_n 0, 1) := by decide +kernel
theorem dX9_readText_111 : decode cX9_readText 111 = .ok (.getfield 13, 3) := by decide +kernel
theorem dX9_readText_114 : decode cX9_readText 114 = .ok (.iconst 3, 1) := by decide +kernel
theorem dX9_readText_115 : decode cX9_readText 115 = .ok (.aload_n 0, 1) := by decide +kernel
theorem dX9_readText_116 : decode cX9_readText 116 = .ok (.iconst 0, 1) := by decide +kernel
theorem dX9_readText_117 : decode cX9_readText 117 = .ok (.bipush 9, 2) := by decide +kernel
theorem dX9_readText_119 : decode cX9_readText 119 = .ok (.invokevirtual 72, 3) := by decide +kernel
theorem dX9_readText_122 : decode cX9_readText 122 = .ok (.iastore, 1) := by decide +kernel
theorem dX9_readText_123 : decode cX9_readText 123 = .ok (.aload_n 0, 1) := by decide +kernel
theorem dX9_readText_124 : decode cX9_readText 124 = .ok (.getfield 13, 3) := by decide +kernel
theorem dX9_readText_127 : decode cX9_readText 127 = .ok (.iconst 4, 1) := by decide +kernel
theorem dX9_readText_128 : decode cX9_readText 128 = .ok (.aload_n 0, 1) := by decide +kernel
theorem dX9_readText_129 : decode cX9_readText 129 = .ok (.iconst 0, 1) := by decide +kernel
theorem dX9_readText_130 : decode cX9_readText 130 = .ok (.bipush 9, 2) := by decide +kernel
theorem dX9_readText_132 : decode cX9_readText 132 = .ok (.invokevirtual 72, 3) := by decide +kernel
theorem dX9_readText_135 : decode cX9_readText 135 = .ok (.iastore, 1) := by decide +kernel
theorem dX9_readText_136 : decode cX9_readText 136 = .ok (.aload_n 0, 1) := by decide +kernel
theorem dX9_readText_137 : decode cX9_readText 137 = .ok (.getfield 13, 3) := by decide +kernel
theorem dX9_readText_140 : decode cX9_readText 140 = .ok (.iconst 5, 1) := by decide +kernel
theorem dX9_readText_141 : decode cX9_readText 141 = .ok (.aload_n 0, 1) := by decide +kernel
theorem dX9_readText_142 : decode cX9_readText 142 = .ok (.iconst 0, 1) := by decide +kernel
theorem dX9_readText_143 : decode cX9_readText 143 = .ok (.bipush 9, 2) := by decide +kernel
theorem dX9_readText_145 : decode cX9_readText 145 = .ok (.invokevirtual 72, 3) := by decide +kernel
theorem dX9_readText_148 : decode cX9_readText 148 = .ok (.iastore, 1) := by decide +kernel
theorem dX9_readText_149 : decode cX9_readText 149 = .ok (.aload_n 0, 1) := by decide +kernel
theorem dX9_readText_150 : decode cX9_readText 150 = .ok (.getfield 13, 3) := by decide +kernel
theorem dX9_readText_153 : decode cX9_readText 153 = .ok (.bipush 6, 2) := by decide +kernel
theorem dX9_readText_155 : decode cX9_readText 155 = .ok (.aload_n 0, 1) := by decide +kernel
theorem dX9_readText_156 : decode cX9_readText 156 = .ok (.iconst 1, 1) := by decide +kernel
theorem dX9_readText_157 : decode cX9_readText 157 = .ok (.bipush 6, 2) := by decide +kernel
theorem dX9_readText_159 : decode cX9_readText 159 = .ok (.invokevirtual 72, 3) := by decide +kernel
theorem dX9_readText_162 : decode cX9_readText 162 = .ok (.iastore, 1) := by decide +kernel
theorem dX9_readText_163 : decode cX9_readText 163 = .ok (.aload_n 0, 1) := by decide +kernel
theorem dX9_readText_164 : decode cX9_readText 164 = .ok (.getfield 61, 3) := by decide +kernel
theorem dX9_readText_167 : decode cX9_readText 167 = .ok (.bipush (-9), 2) := by decide +kernel
theorem dX9_readText_169 : decode cX9_readText 169 = .ok (.if_icmp .ne 30, 3) := by decide +kernel
theorem dX9_readText_172 : decode cX9_readText 172 = .ok (.aload_n 0, 1) := by decide +kernel
theorem dX9_readText_173 : decode cX9_readText 173 = .ok (.getfield 64, 3) := by decide +kernel
theorem dX9_readText_176 : decode cX9_readText 176 = .ok (.aload_n 0, 1) := by decide +kernel
theorem dX9_readText_177 : decode cX9_readText 177 = .ok (.getfield 58, 3) := by decide +kernel
theorem dX9_readText_180 : decode cX9_readText 180 = .ok (.if_icmp .ge 19, 3) := by decide +kernel
theorem dX9_readText_183 : decode cX9_readText 183 = .ok (.aload_n 0, 1) := by decide +kernel
theorem dX9_readText_184 : decode cX9_readText 184 = .ok (.aload_n 0, 1) := by decide +kernel
theorem dX9_readText_185 : decode cX9_readText 185 = .ok (.getfield 26, 3) := by decide +kernel
theorem dX9_readText_188 : decode cX9_readText 188 = .ok (.aload_n 0, 1) := by decide +kernel
theorem dX9_readText_189 : decode cX9_readText 189 = .ok (.getfield 64, 3) := by decide +kernel
theorem dX9_readText_192 : decode cX9_readText 192 = .ok (.iaload, 1) := by decide +kernel
theorem dX9_readText_193 : decode cX9_readText 193 = .ok (.invokevirtual 76, 3) := by decide +kernel
theorem dX9_readText_196 : decode cX9_readText 196 = .ok (.goto (-33), 3) := by decide +kernel
theorem dX9_readText_199 : decode cX9_readText 199 = .ok (.aload_n 0, 1) := by decide +kernel
theorem dX9_readText_200 : decode cX9_readText 200 = .ok (.getfield 61, 3) := by decide +kernel
theorem dX9_readText_203 : decode cX9_readText 203 = .ok (.ireturn, 1) := by decide +kernel
set_option maxRecDepth 20000 in
theorem ggX9_readPart_X9_isCellLeft : GoodIn wsX9_readPart wsX9_isCellLeft := goodIn_r _ [10, 2, 25, 26, 27, 28, 29, 30, 31, 32, 33, 34, 35, 36, 37, 38, 39, 40, 41, 42, 43, 44, 45, 46, 47, 48, 49, 50, 51, 52, 53] (by decide +kernel) (by decide +kernel)
set_option maxRecDepth 20000 in
theorem gX9_readPart_X9_isCellLeft : GoodIn wsX9_readPart (wsV RX9 80 RX9 yX9_isCellLeft wsX9_isCellLeft) := goodIn_app (goodIn_of _ (by decide +kernel)) ggX9_readPart_X9_isCellLeft
set_option maxRecDepth 20000 in
theorem ggX9_readPart_X9_freshCell : GoodIn wsX9_readPart wsX9_freshCell := goodIn_r _ [14, 3, 1, 15, 16, 17, 2, 18, 19, 9, 20, 25, 26, 27, 28, 29, 30, 31, 32, 33, 34, 35, 36, 37, 38, 39, 40, 41, 42, 43, 44, 45, 46, 47, 48, 49, 50, 51, 52, 53] (by decide +kernel) (by decide +kernel)
set_option maxRecDepth 20000 in
theorem gX9_readPart_X9_freshCell : GoodIn wsX9_readPart (wsV RX9 84 RX9 yX9_freshCell wsX9_freshCell) := goodIn_app (goodIn_of _ (by decide +kernel)) ggX9_readPart_X9_freshCell
set_option maxRecDepth 20000 in
theorem ggX9_readPart_X9_figure : GoodIn wsX9_readPart wsX9_figure := goodIn_r _ [24, 3, 1, 15, 16, 18, 19, 9, 20, 25, 26, 27, 28, 29, 30, 31, 32, 33, 34, 35, 36, 37, 38, 39, 40, 41, 42, 43, 44, 45, 46, 47, 48, 49, 50, 51, 52, 53] (by decide +kernel) (by decide +kernel)
set_option maxRecDepth 20000 in
theorem gX9_readPart_X9_figure : GoodIn wsX9_readPart (wsV RX9 72 RX9 yX9_figure wsX9_figure) := goodIn_app (goodIn_of _ (by decide +kernel)) ggX9_readPart_X9_figure
theorem dX9_readPart_0 : decode cX9_readPart 0 = .ok (.iload_n 1, 1) := by decide +kernel
theorem dX9_readPart_1 : decode cX9_readPart 1 = .ok (.bipush 70, 2) := by decide +kernel
theorem dX9_readPart_3 : decode cX9_readPart 3 = .ok (.if_icmp .ne 61, 3) := by decide +kernel
theorem dX9_readPart_6 : decode cX9_readPart 6 = .ok (.aload_n 0, 1) := by decide +kernel
theorem dX9_readPart_7 : decode cX9_readPart 7 = .ok (.invokevirtual 80, 3) := by decide +kernel
theorem dX9_readPart_10 : decode cX9_readPart 10 = .ok (.ifCond .eq 54, 3) := by decide +kernel
theorem dX9_readPart_13 : decode cX9_readPart 13 = .ok (.aload_n 0, 1) := by decide +kernel
theorem dX9_readPart_14 : decode cX9_readPart 14 = .ok (.dup, 1) := by decide +kernel
theorem dX9_readPart_15 : decode cX9_readPart 15 = .ok (.getfield 64, 3) := by decide +kernel
theorem dX9_readPart_18 : decode cX9_readPart 18 = .ok (.iconst 1, 1) := by decide +kernel
theorem dX9_readPart_19 : decode cX9_readPart 19 = .ok (.iadd, 1) := by decide +kernel
theorem dX9_readPart_20 : decode cX9_readPart 20 = .ok (.putfield 64, 3) := by decide +kernel
theorem dX9_readPart_23 : decode cX9_readPart 23 = .ok (.aload_n 0, 1) := by decide +kernel
theorem dX9_readPart_24 : decode cX9_readPart 24 = .ok (.invokevirtual 84, 3) := by decide +kernel
theorem dX9_readPart_27 : decode cX9_readPart 27 = .ok (.istore_n 2, 1) := by decide +kernel
theorem dX9_readPart_28 : decode cX9_readPart 28 = .ok (.aload_n 0, 1) := by decide +kernel
theorem dX9_readPart_29 : decode cX9_readPart 29 = .ok (.iconst 1, 1) := by decide +kernel
theorem dX9_readPart_30 : decode cX9_readPart 30 = .ok (.bipush 9, 2) := by decide +kernel
theorem dX9_readPart_32 : decode cX9_readPart 32 = .ok (.invokevirtual 72, 3) := by decide +kernel
theorem dX9_readPart_35 : decode cX9_readPart 35 = .ok (.istore_n 3, 1) := by decide +kernel
theorem dX9_readPart_36 : decode cX9_readPart 36 = .ok (.aload_n 0, 1) := by decide +kernel
theorem dX9_readPart_37 : decode cX9_readPart 37 = .ok (.getfield 16, 3) := by decide +kernel
theorem dX9_readPart_40 : decode cX9_readPart 40 = .ok (.iload_n 2, 1) := by decide +kernel
theorem dX9_readPart_41 : decode cX9_readPart 41 = .ok (.aload_n 0, 1) := by decide +kernel
theorem dX9_readPart_42 : decode cX9_readPart 42 = .ok (.getfield 61, 3) := by decide +kernel
theorem dX9_readPart_45 : decode cX9_readPart 45 = .ok (.bipush (-9), 2) := by decide +kernel
theorem dX9_readPart_47 : decode cX9_readPart 47 = .ok (.if_icmp .ne 7, 3) := by decide +kernel
theorem dX9_readPart_50 : decode cX9_readPart 50 = .ok (.iload_n 3, 1) := by decide +kernel
theorem dX9_readPart_51 : decode cX9_readPart 51 = .ok (.goto 9, 3) := by decide +kernel
theorem dX9_readPart_54 : decode cX9_readPart 54 = .ok (.aload_n 0, 1) := by decide +kernel
theorem dX9_readPart_55 : decode cX9_readPart 55 = .ok (.getfield 16, 3) := by decide +kernel
theorem dX9_readPart_58 : decode cX9_readPart 58 = .ok (.iload_n 2, 1) := by decide +kernel
theorem dX9_readPart_59 : decode cX9_readPart 59 = .ok (.iaload, 1) := by decide +kernel
theorem dX9_readPart_60 : decode cX9_readPart 60 = .ok (.iastore, 1) := by decide +kernel
theorem dX9_readPart_61 : decode cX9_readPart 61 = .ok (.goto 135, 3) := by decide +kernel
theorem dX9_readPart_64 : decode cX9_readPart 64 = .ok (.iload_n 1, 1) := by decide +kernel
theorem dX9_readPart_65 : decode cX9_readPart 65 = .ok (.bipush 65, 2) := by decide +kernel
theorem dX9_readPart_67 : decode cX9_readPart 67 = .ok (.if_icmp .ne 55, 3) := by decide +kernel
theorem dX9_readPart_70 : decode cX9_readPart 70 = .ok (.aload_n 0, 1) := by decide +kernel
theorem dX9_readPart_71 : decode cX9_readPart 71 = .ok (.getfield 16, 3) := by decide +kernel
theorem dX9_readPart_74 : decode cX9_readPart 74 = .ok (.bipush 10, 2) := by decide +kernel
theorem dX9_readPart_76 : decode cX9_readPart 76 = .ok (.iaload, 1) := by decide +kernel
theorem dX9_readPart_77 : decode cX9_readPart 77 = .ok (.ifCond .ne 45, 3) := by decide +kernel
theorem dX9_readPart_80 : decode cX9_readPart 80 = .ok (.aload_n 0, 1) := by decide +kernel
theorem dX9_readPart_81 : decode cX9_readPart 81 = .ok (.dup, 1) := by decide +kernel
theorem dX9_readPart_82 : decode cX9_readPart 82 = .ok (.getfield 64, 3) := by decide +kernel
theorem dX9_readPart_85 : decode cX9_readPart 85 = .ok (.iconst 1, 1) := by decide +kernel
theorem dX9_readPart_86 : decode cX9_readPart 86 = .ok (.iadd, 1) := by decide +kernel
theorem dX9_readPart_87 : decode cX9_readPart 87 = .ok (.putfield 64, 3) := by decide +kernel
theorem dX9_readPart_90 : decode cX9_readPart 90 = .ok (.aload_n 0, 1) := by decide +kernel
theorem dX9_readPart_91 : decode cX9_readPart 91 = .ok (.iconst 1, 1) := by decide +kernel
theorem dX9_readPart_92 : decode cX9_readPart 92 = .ok (.bipush 9, 2) := by decide +kernel
theorem dX9_readPart_94 : decode cX9_readPart 94 = .ok (.invokevirtual 72, 3) := by decide +kernel
theorem dX9_readPart_97 : decode cX9_readPart 97 = .ok (.istore_n 2, 1) := by decide +kernel
theorem dX9_readPart_98 : decode cX9_readPart 98 = .ok (.aload_n 0, 1) := by decide +kernel
theorem dX9_readPart_99 : decode cX9_readPart 99 = .ok (.getfield 16, 3) := by decide +kernel
theorem dX9_readPart_102 : decode cX9_readPart 102 = .ok (.bipush 10, 2) := by decide +kernel
theorem dX9_readPart_104 : decode cX9_readPart 104 = .ok (.aload_n 0, 1) := by decide +kernel
theorem dX9_readPart_105 : decode cX9_readPart 105 = .ok (.getfield 61, 3) := by decide +kernel
theorem dX9_readPart_108 : decode cX9_readPart 108 = .ok (.bipush (-9), 2) := by decide +kernel
theorem dX9_readPart_110 : decode cX9_readPart 110 = .ok (.if_icmp .ne 7, 3) := by decide +kernel
theorem dX9_readPart_113 : decode cX9_readPart 113 = .ok (.iload_n 2, 1) := by decide +kernel
theorem dX9_readPart_114 : decode cX9_readPart 114 = .ok (.goto 4, 3) := by decide +kernel
theorem dX9_readPart_117 : decode cX9_readPart 117 = .ok (.iconst 0, 1) := by decide +kernel
theorem dX9_readPart_118 : decode cX9_readPart 118 = .ok (.iastore, 1) := by decide +kernel
theorem dX9_readPart_119 : decode cX9_readPart 119 = .ok (.goto 77, 3) := by decide +kernel
theorem dX9_readPart_122 : decode cX9_readPart 122 = .ok (.iload_n 1, 1) := by decide +kernel
theorem dX9_readPart_123 : decode cX9_readPart 123 = .ok (.bipush 84, 2) := by decide +kernel
theorem dX9_readPart_125 : decode cX9_readPart 125 = .ok (.if_icmp .ne 63, 3) := by decide +kernel
theorem dX9_readPart_128 : decode cX9_readPart 128 = .ok (.aload_n 0, 1) := by decide +kernel
theorem dX9_readPart_129 : decode cX9_readPart 129 = .ok (.getfield 69, 3) := by decide +kernel
theorem dX9_readPart_132 : decode cX9_readPart 132 = .ok (.bipush (-9), 2) := by decide +kernel
theorem dX9_readPart_134 : decode cX9_readPart 134 = .ok (.if_icmp .ne 54, 3) := by decide +kernel
theorem dX9_readPart_137 : decode cX9_readPart 137 = .ok (.aload_n 0, 1) := by decide +kernel
theorem dX9_readPart_138 : decode cX9_readPart 138 = .ok (.dup, 1) := by decide +kernel
theorem dX9_readPart_139 : decode cX9_readPart 139 = .ok (.getfield 64, 3) := by decide +kernel
theorem dX9_readPart_142 : decode cX9_readPart 142 = .ok (.iconst 1, 1) := by decide +kernel
theorem dX9_readPart_143 : decode cX9_readPart 143 = .ok (.iadd, 1) := by decide +kernel
theorem dX9_readPart_144 : decode cX9_readPart 144 = .ok (.putfield 64, 3) := by decide +kernel
theorem dX9_readPart_147 : decode cX9_readPart 147 = .ok (.aload_n 0, 1) := by decide +kernel
theorem dX9_readPart_148 : decode cX9_readPart 148 = .ok (.iconst 0, 1) := by decide +kernel
theorem dX9_readPart_149 : decode cX9_readPart 149 = .ok (.bipush 9, 2) := by decide +kernel
theorem dX9_readPart_151 : decode cX9_readPart 151 = .ok (.invokevirtual 72, 3) := by decide +kernel
theorem dX9_readPart_154 : decode cX9_readPart 154 = .ok (.istore_n 2, 1) := by decide +kernel
theorem dX9_readPart_155 : decode cX9_readPart 155 = .ok (.aload_n 0, 1) := by decide +kernel
theorem dX9_readPart_156 : decode cX9_readPart 156 = .ok (.aload_n 0, 1) := by decide +kernel
theorem dX9_readPart_157 : decode cX9_readPart 157 = .ok (.iconst 0, 1) := by decide +kernel
theorem dX9_readPart_158 : decode cX9_readPart 158 = .ok (.bipush 6, 2) := by decide +kernel
theorem dX9_readPart_160 : decode cX9_readPart 160 = .ok (.invokevirtual 72, 3) := by decide +kernel
theorem dX9_readPart_163 : decode cX9_readPart 163 = .ok (.putfield 88, 3) := by decide +kernel
theorem dX9_readPart_166 : decode cX9_readPart 166 = .ok (.aload_n 0, 1) := by decide +kernel
theorem dX9_readPart_167 : decode cX9_readPart 167 = .ok (.aload_n 0, 1) := by decide +kernel
theorem dX9_readPart_168 : decode cX9_readPart 168 = .ok (.getfield 61, 3) := by decide +kernel
theorem dX9_readPart_171 : decode cX9_readPart 171 = .ok (.bipush (-9), 2) := by decide +kernel
theorem dX9_readPart_173 : decode cX9_readPart 173 = .ok (.if_icmp .ne 7, 3) := by decide +kernel
theorem dX9_readPart_176 : decode cX9_readPart 176 = .ok (.iload_n 2, 1) := by decide +kernel
theorem dX9_readPart_177 : decode cX9_readPart 177 = .ok (.goto 5, 3) := by decide +kernel
theorem dX9_readPart_180 : decode cX9_readPart 180 = .ok (.bipush (-9), 2) := by decide +kernel
theorem dX9_readPart_182 : decode cX9_readPart 182 = .ok (.putfield 69, 3) := by decide +kernel
theorem dX9_readPart_185 : decode cX9_readPart 185 = .ok (.goto 11, 3) := by decide +kernel
theorem dX9_readPart_188 : decode cX9_readPart 188 = .ok (.aload_n 0, 1) := by decide +kernel
theorem dX9_readPart_189 : decode cX9_readPart 189 = .ok (.aload_n 0, 1) := by decide +kernel
theorem dX9_readPart_190 : decode cX9_readPart 190 = .ok (.getfield 64, 3) := by decide +kernel
theorem dX9_readPart_193 : decode cX9_readPart 193 = .ok (.putfield 61, 3) := by decide +kernel
theorem dX9_readPart_196 : decode cX9_readPart 196 = .ok (.return_, 1) := by decide +kernel
set_option maxRecDepth 20000 in
theorem ggX9_fault_X9_readText : GoodIn wsX9_fault wsX9_readText := goodIn_r _ [5, 6, 7, 8, 9, 10, 11, 12, 13, 14, 15, 4, 16, 17, 18, 19, 20, 21, 22, 23, 24, 25, 26, 27, 28, 29, 30, 31, 32, 33, 34, 35, 36, 37, 38, 39, 40, 41, 42, 43, 44, 45, 46, 47, 48, 49, 50, 51, 52, 53, 54, 55, 56, 57, 58, 59, 60, 61, 62] (by decide +kernel) (by decide +kernel)
set_option maxRecDepth 20000 in
theorem gX9_fault_X9_readText : GoodIn wsX9_fault (wsV RX9 91 RX9 yX9_readText wsX9_readText) := goodIn_app (goodIn_of _ (by decide +kernel)) ggX9_fault_X9_readText
theorem dX9_fault_0 : decode cX9_fault 0 = .ok (.aload_n 0, 1) := by decide +kernel
theorem dX9_fault_1 : decode cX9_fault 1 = .ok (.invokevirtual 91, 3) := by decide +kernel
theorem dX9_fault_4 : decode cX9_fault 4 = .ok (.ireturn, 1) := by decide +kernel
theorem dX9_allParts_0 : decode cX9_allParts 0 = .ok (.iconst 0, 1) := by decide +kernel
theorem dX9_allParts_1 : decode cX9_allParts 1 = .ok (.istore_n 1, 1) := by decide +kernel
theorem dX9_allParts_2 : decode cX9_allParts 2 = .ok (.iconst 0, 1) := by decide +kernel
theorem dX9_allParts_3 : decode cX9_allParts 3 = .ok (.istore_n 2, 1) := by decide +kernel
theorem dX9_allParts_4 : decode cX9_allParts 4 = .ok (.iload_n 2, 1) := by decide +kernel
theorem dX9_allParts_5 : decode cX9_allParts 5 = .ok (.bipush 11, 2) := by decide +kernel
theorem dX9_allParts_7 : decode cX9_allParts 7 = .ok (.if_icmp .ge 18, 3) := by decide +kernel
theorem dX9_allParts_10 : decode cX9_allParts 10 = .ok (.iload_n 1, 1) := by decide +kernel
theorem dX9_allParts_11 : decode cX9_allParts 11 = .ok (.aload_n 0, 1) := by decide +kernel
theorem dX9_allParts_12 : decode cX9_allParts 12 = .ok (.getfield 7, 3) := by decide +kernel
theorem dX9_allParts_15 : decode cX9_allParts 15 = .ok (.iload_n 2, 1) := by decide +kernel
theorem dX9_allParts_16 : decode cX9_allParts 16 = .ok (.iaload, 1) := by decide +kernel
theorem dX9_allParts_17 : decode cX9_allParts 17 = .ok (.iadd, 1) := by decide +kernel
theorem dX9_allParts_18 : decode cX9_allParts 18 = .ok (.istore_n 1, 1) := by decide +kernel
theorem dX9_allParts_19 : decode cX9_allParts 19 = .ok (.iinc 2 1, 3) := by decide +kernel
theorem dX9_allParts_22 : decode cX9_allParts 22 = .ok (.goto (-18), 3) := by decide +kernel
theorem dX9_allParts_25 : decode cX9_allParts 25 = .ok (.iload_n 1, 1) := by decide +kernel
theorem dX9_allParts_26 : decode cX9_allParts 26 = .ok (.ireturn, 1) := by decide +kernel
set_option maxRecDepth 20000 in
theorem ggX9_search_X9_readText : GoodIn wsX9_search wsX9_readText := goodIn_r _ [23, 24, 25, 8, 14, 26, 27, 1, 28, 29, 30, 22, 31, 32, 33, 34, 35, 36, 37, 38, 11, 39, 40, 41, 42, 43, 44, 45, 46, 47, 52, 53, 54, 55, 56, 57, 58, 59, 60, 61, 62, 63, 64, 65, 66, 67, 68, 69, 70, 71, 72, 73, 74, 75, 76, 77, 78, 79, 80] (by decide +kernel) (by decide +kernel)
set_option maxRecDepth 20000 in
theorem gX9_search_X9_readText : GoodIn wsX9_search (wsV RX9 91 RX9 yX9_readText wsX9_readText) := goodIn_app (goodIn_of _ (by decide +kernel)) ggX9_search_X9_readText
set_option maxRecDepth 20000 in
theorem ggX9_search_X9_allParts : GoodIn wsX9_search wsX9_allParts := goodIn_r _ [51, 13, 52, 53, 54, 55, 56, 57, 58, 59, 60, 61, 62, 63, 64, 65, 66, 67, 68, 69, 70, 71, 72, 73, 74, 75, 76, 77, 78, 79, 80] (by decide +kernel) (by decide +kernel)
set_option maxRecDepth 20000 in
theorem gX9_search_X9_allParts : GoodIn wsX9_search (wsV RX9 122 RX9 yX9_allParts wsX9_allParts) := goodIn_app (goodIn_of _ (by decide +kernel)) ggX9_search_X9_allParts
theorem dX9_search_0 : decode cX9_search 0 = .ok (.aload_n 0, 1) := by decide +kernel
theorem dX9_search_1 : decode cX9_search 1 = .ok (.invokevirtual 91, 3) := by decide +kernel
theorem dX9_search_4 : decode cX9_search 4 = .ok (.bipush (-9), 2) := by decide +kernel
theorem dX9_search_6 : decode cX9_search 6 = .ok (.if_icmp .eq 6, 3) := by decide +kernel
theorem dX9_search_9 : decode cX9_search 9 = .ok (.bipush (-3), 2) := by decide +kernel
theorem dX9_search_11 : decode cX9_search 11 = .ok (.ireturn, 1) := by decide +kernel
theorem dX9_search_12 : decode cX9_search 12 = .ok (.aload_n 0, 1) := by decide +kernel
theorem dX9_search_13 : decode cX9_search 13 = .ok (.aload_n 0, 1) := by decide +kernel
theorem dX9_search_14 : decode cX9_search 14 = .ok (.getfield 13, 3) := by decide +kernel
theorem dX9_search_17 : decode cX9_search 17 = .ok (.iconst 1, 1) := by decide +kernel
theorem dX9_search_18 : decode cX9_search 18 = .ok (.iaload, 1) := by decide +kernel
theorem dX9_search_19 : decode cX9_search 19 = .ok (.putfield 94, 3) := by decide +kernel
theorem dX9_search_22 : decode cX9_search 22 = .ok (.aload_n 0, 1) := by decide +kernel
theorem dX9_search_23 : decode cX9_search 23 = .ok (.aload_n 0, 1) := by decide +kernel
theorem dX9_search_24 : decode cX9_search 24 = .ok (.getfield 13, 3) := by decide +kernel
theorem dX9_search_27 : decode cX9_search 27 = .ok (.iconst 2, 1) := by decide +kernel
theorem dX9_search_28 : decode cX9_search 28 = .ok (.iaload, 1) := by decide +kernel
theorem dX9_search_29 : decode cX9_search 29 = .ok (.putfield 97, 3) := by decide +kernel
theorem dX9_search_32 : decode cX9_search 32 = .ok (.aload_n 0, 1) := by decide +kernel
theorem dX9_search_33 : decode cX9_search 33 = .ok (.aload_n 0, 1) := by decide +kernel
theorem dX9_search_34 : decode cX9_search 34 = .ok (.getfield 13, 3) := by decide +kernel
theorem dX9_search_37 : decode cX9_search 37 = .ok (.iconst 3, 1) := by decide +kernel
theorem dX9_search_38 : decode cX9_search 38 = .ok (.iaload, 1) := by decide +kernel
theorem dX9_search_39 : decode cX9_search 39 = .ok (.putfield 100, 3) := by decide +kernel
theorem dX9_search_42 : decode cX9_search 42 = .ok (.aload_n 0, 1) := by decide +kernel
theorem dX9_search_43 : decode cX9_search 43 = .ok (.aload_n 0, 1) := by decide +kernel
theorem dX9_search_44 : decode cX9_search 44 = .ok (.getfield 13, 3) := by decide +kernel
theorem dX9_search_47 : decode cX9_search 47 = .ok (.iconst 4, 1) := by decide +kernel
theorem dX9_search_48 : decode cX9_search 48 = .ok (.iaload, 1) := by decide +kernel
theorem dX9_search_49 : decode cX9_search 49 = .ok (.putfield 103, 3) := by decide +kernel
theorem dX9_search_52 : decode cX9_search 52 = .ok (.aload_n 0, 1) := by decide +kernel
theorem dX9_search_53 : decode cX9_search 53 = .ok (.aload_n 0, 1) := by decide +kernel
theorem dX9_search_54 : decode cX9_search 54 = .ok (.getfield 13, 3) := by decide +kernel
theorem dX9_search_57 : decode cX9_search 57 = .ok (.iconst 5, 1) := by decide +kernel
theorem dX9_search_58 : decode cX9_search 58 = .ok (.iaload, 1) := by decide +kernel
theorem dX9_search_59 : decode cX9_search 59 = .ok (.putfield 106, 3) := by decide +kernel
theorem dX9_search_62 : decode cX9_search 62 = .ok (.aload_n 0, 1) := by decide +kernel
theorem dX9_search_63 : decode cX9_search 63 = .ok (.aload_n 0, 1) := by decide +kernel
theorem dX9_search_64 : decode cX9_search 64 = .ok (.getfield 13, 3) := by decide +kernel
theorem dX9_search_67 : decode cX9_search 67 = .ok (.bipush 6, 2) := by decide +kernel
theorem dX9_search_69 : decode cX9_search 69 = .ok (.iaload, 1) := by decide +kernel
theorem dX9_search_70 : decode cX9_search 70 = .ok (.putfield 48, 3) := by decide +kernel
theorem dX9_search_73 : decode cX9_search 73 = .ok (.aload_n 0, 1) := by decide +kernel
theorem dX9_search_74 : decode cX9_search 74 = .ok (.aload_n 0, 1) := by decide +kernel
theorem dX9_search_75 : decode cX9_search 75 = .ok (.getfield 69, 3) := by decide +kernel
theorem dX9_search_78 : decode cX9_search 78 = .ok (.putfield 109, 3) := by decide +kernel
theorem dX9_search_81 : decode cX9_search 81 = .ok (.aload_n 0, 1) := by decide +kernel
theorem dX9_search_82 : decode cX9_search 82 = .ok (.aload_n 0, 1) := by decide +kernel
theorem dX9_search_83 : decode cX9_search 83 = .ok (.getfield 69, 3) := by decide +kernel
theorem dX9_search_86 : decode cX9_search 86 = .ok (.bipush (-9), 2) := by decide +kernel
theorem dX9_search_88 : decode cX9_search 88 = .ok (.if_icmp .eq 7, 3) := by decide +kernel
theorem dX9_search_91 : decode cX9_search 91 = .ok (.iconst 1, 1) := by decide +kernel
theorem dX9_search_92 : decode cX9_search 92 = .ok (.goto 4, 3) := by decide +kernel
theorem dX9_search_95 : decode cX9_search 95 = .ok (.iconst 0, 1) := by decide +kernel
theorem dX9_search_96 : decode cX9_search 96 = .ok (.putfield 112, 3) := by decide +kernel
theorem dX9_search_99 : decode cX9_search 99 = .ok (.aload_n 0, 1) := by decide +kernel
theorem dX9_search_100 : decode cX9_search 100 = .ok (.aload_n 0, 1) := by decide +kernel
theorem dX9_search_101 : decode cX9_search 101 = .ok (.getfield 88, 3) := by decide +kernel
theorem dX9_search_104 : decode cX9_search 104 = .ok (.putfield 116, 3) := by decide +kernel
theorem dX9_search_107 : decode cX9_search 107 = .ok (.iconst 0, 1) := by decide +kernel
theorem dX9_search_108 : decode cX9_search 108 = .ok (.istore_n 1, 1) := by decide +kernel
theorem dX9_search_109 : decode cX9_search 109 = .ok (.iload_n 1, 1) := by decide +kernel
theorem dX9_search_110 : decode cX9_search 110 = .ok (.bipush 11, 2) := by decide +kernel
theorem dX9_search_112 : decode cX9_search 112 = .ok (.if_icmp .ge 34, 3) := by decide +kernel
theorem dX9_search_115 : decode cX9_search 115 = .ok (.aload_n 0, 1) := by decide +kernel
theorem dX9_search_116 : decode cX9_search 116 = .ok (.getfield 7, 3) := by decide +kernel
theorem dX9_search_119 : decode cX9_search 119 = .ok (.iload_n 1, 1) := by decide +kernel
theorem dX9_search_120 : decode cX9_search 120 = .ok (.aload_n 0, 1) := by decide +kernel
theorem dX9_search_121 : decode cX9_search 121 = .ok (.getfield 16, 3) := by decide +kernel
theorem dX9_search_124 : decode cX9_search 124 = .ok (.iload_n 1, 1) := by decide +kernel
theorem dX9_search_125 : decode cX9_search 125 = .ok (.iaload, 1) := by decide +kernel
theorem dX9_search_126 : decode cX9_search 126 = .ok (.iastore, 1) := by decide +kernel
theorem dX9_search_127 : decode cX9_search 127 = .ok (.aload_n 0, 1) := by decide +kernel
theorem dX9_search_128 : decode cX9_search 128 = .ok (.getfield 19, 3) := by decide +kernel
theorem dX9_search_131 : decode cX9_search 131 = .ok (.iload_n 1, 1) := by decide +kernel
theorem dX9_search_132 : decode cX9_search 132 = .ok (.aload_n 0, 1) := by decide +kernel
theorem dX9_search_133 : decode cX9_search 133 = .ok (.getfield 7, 3) := by decide +kernel
theorem dX9_search_136 : decode cX9_search 136 = .ok (.iload_n 1, 1) := by decide +kernel
theorem dX9_search_137 : decode cX9_search 137 = .ok (.iaload, 1) := by decide +kernel
theorem dX9_search_138 : decode cX9_search 138 = .ok (.i2l, 1) := by decide +kernel
theorem dX9_search_139 : decode cX9_search 139 = .ok (.lastore, 1) := by decide +kernel
theorem dX9_search_140 : decode cX9_search 140 = .ok (.iinc 1 1, 3) := by decide +kernel
theorem dX9_search_143 : decode cX9_search 143 = .ok (.goto (-34), 3) := by decide +kernel
theorem dX9_search_146 : decode cX9_search 146 = .ok (.iconst 0, 1) := by decide +kernel
theorem dX9_search_147 : decode cX9_search 147 = .ok (.istore_n 1, 1) := by decide +kernel
theorem dX9_search_148 : decode cX9_search 148 = .ok (.iload_n 1, 1) := by decide +kernel
theorem dX9_search_149 : decode cX9_search 149 = .ok (.bipush 9, 2) := by decide +kernel
theorem dX9_search_151 : decode cX9_search 151 = .ok (.if_icmp .ge 16, 3) := by decide +kernel
theorem dX9_search_154 : decode cX9_search 154 = .ok (.aload_n 0, 1) := by decide +kernel
theorem dX9_search_155 : decode cX9_search 155 = .ok (.getfield 23, 3) := by decide +kernel
theorem dX9_search_158 : decode cX9_search 158 = .ok (.iload_n 1, 1) := by decide +kernel
theorem dX9_search_159 : decode cX9_search 159 = .ok (.iconst 0, 1) := by decide +kernel
theorem dX9_search_160 : decode cX9_search 160 = .ok (.iastore, 1) := by decide +kernel
theorem dX9_search_161 : decode cX9_search 161 = .ok (.iinc 1 1, 3) := by decide +kernel
theorem dX9_search_164 : decode cX9_search 164 = .ok (.goto (-16), 3) := by decide +kernel
theorem dX9_search_167 : decode cX9_search 167 = .ok (.aload_n 0, 1) := by decide +kernel
theorem dX9_search_168 : decode cX9_search 168 = .ok (.getfield 23, 3) := by decide +kernel
theorem dX9_search_171 : decode cX9_search 171 = .ok (.iconst 0, 1) := by decide +kernel
theorem dX9_search_172 : decode cX9_search 172 = .ok (.aload_n 0, 1) := by decide +kernel
theorem dX9_search_173 : decode cX9_search 173 = .ok (.getfield 106, 3) := by decide +kernel
theorem dX9_search_176 : decode cX9_search 176 = .ok (.iastore, 1) := by decide +kernel
theorem dX9_search_177 : decode cX9_search 177 = .ok (.aload_n 0, 1) := by decide +kernel
theorem dX9_search_178 : decode cX9_search 178 = .ok (.iconst 0, 1) := by decide +kernel
theorem dX9_search_179 : decode cX9_search 179 = .ok (.putfield 119, 3) := by decide +kernel
theorem dX9_search_182 : decode cX9_search 182 = .ok (.aload_n 0, 1) := by decide +kernel
theorem dX9_search_183 : decode cX9_search 183 = .ok (.getfield 38, 3) := by decide +kernel
theorem dX9_search_186 : decode cX9_search 186 = .ok (.iconst 0, 1) := by decide +kernel
theorem dX9_search_187 : decode cX9_search 187 = .ok (.iconst 0, 1) := by decide +kernel
theorem dX9_search_188 : decode cX9_search 188 = .ok (.bastore, 1) := by decide +kernel
theorem dX9_search_189 : decode cX9_search 189 = .ok (.aload_n 0, 1) := by decide +kernel
theorem dX9_search_190 : decode cX9_search 190 = .ok (.getfield 38, 3) := by decide +kernel
theorem dX9_search_193 : decode cX9_search 193 = .ok (.iconst 1, 1) := by decide +kernel
theorem dX9_search_194 : decode cX9_search 194 = .ok (.iconst 0, 1) := by decide +kernel
theorem dX9_search_195 : decode cX9_search 195 = .ok (.bastore, 1) := by decide +kernel
theorem dX9_search_196 : decode cX9_search 196 = .ok (.aload_n 0, 1) := by decide +kernel
theorem dX9_search_197 : decode cX9_search 197 = .ok (.invokevirtual 122, 3) := by decide +kernel
theorem dX9_search_200 : decode cX9_search 200 = .ok (.ireturn, 1) := by decide +kernel
theorem dX9_lay_0 : decode cX9_lay 0 = .ok (.iconst 0, 1) := by decide +kernel
theorem dX9_lay_1 : decode cX9_lay 1 = .ok (.istore_n 3, 1) := by decide +kernel
theorem dX9_lay_2 : decode cX9_lay 2 = .ok (.iload_n 3, 1) := by decide +kernel
theorem dX9_lay_3 : decode cX9_lay 3 = .ok (.bipush 11, 2) := by decide +kernel
theorem dX9_lay_5 : decode cX9_lay 5 = .ok (.if_icmp .ge 31, 3) := by decide +kernel
theorem dX9_lay_8 : decode cX9_lay 8 = .ok (.aload_n 0, 1) := by decide +kernel
theorem dX9_lay_9 : decode cX9_lay 9 = .ok (.getfield 19, 3) := by decide +kernel
theorem dX9_lay_12 : decode cX9_lay 12 = .ok (.bipush 11, 2) := by decide +kernel
theorem dX9_lay_14 : decode cX9_lay 14 = .ok (.iload_n 2, 1) := by decide +kernel
theorem dX9_lay_15 : decode cX9_lay 15 = .ok (.imul, 1) := by decide +kernel
theorem dX9_lay_16 : decode cX9_lay 16 = .ok (.iload_n 3, 1) := by decide +kernel
theorem dX9_lay_17 : decode cX9_lay 17 = .ok (.iadd, 1) := by decide +kernel
theorem dX9_lay_18 : decode cX9_lay 18 = .ok (.aload_n 0, 1) := by decide +kernel
theorem dX9_lay_19 : decode cX9_lay 19 = .ok (.getfield 19, 3) := by decide +kernel
theorem dX9_lay_22 : decode cX9_lay 22 = .ok (.bipush 11, 2) := by decide +kernel
theorem dX9_lay_24 : decode cX9_lay 24 = .ok (.iload_n 1, 1) := by decide +kernel
theorem dX9_lay_25 : decode cX9_lay 25 = .ok (.imul, 1) := by decide +kernel
theorem dX9_lay_26 : decode cX9_lay 26 = .ok (.iload_n 3, 1) := by decide +kernel
theorem dX9_lay_27 : decode cX9_lay 27 = .ok (.iadd, 1) := by decide +kernel
theorem dX9_lay_28 : decode cX9_lay 28 = .ok (.laload, 1) := by decide +kernel
theorem dX9_lay_29 : decode cX9_lay 29 = .ok (.lastore, 1) := by decide +kernel
theorem dX9_lay_30 : decode cX9_lay 30 = .ok (.iinc 3 1, 3) := by decide +kernel
theorem dX9_lay_33 : decode cX9_lay 33 = .ok (.goto (-31), 3) := by decide +kernel
theorem dX9_lay_36 : decode cX9_lay 36 = .ok (.return_, 1) := by decide +kernel
theorem dX9_sumOf_0 : decode cX9_sumOf 0 = .ok (.lconst 0, 1) := by decide +kernel
theorem dX9_sumOf_1 : decode cX9_sumOf 1 = .ok (.lstore_n 2, 1) := by decide +kernel
theorem dX9_sumOf_2 : decode cX9_sumOf 2 = .ok (.iconst 0, 1) := by decide +kernel
theorem dX9_sumOf_3 : decode cX9_sumOf 3 = .ok (.istore 4, 2) := by decide +kernel
theorem dX9_sumOf_5 : decode cX9_sumOf 5 = .ok (.iload 4, 2) := by decide +kernel
theorem dX9_sumOf_7 : decode cX9_sumOf 7 = .ok (.bipush 11, 2) := by decide +kernel
theorem dX9_sumOf_9 : decode cX9_sumOf 9 = .ok (.if_icmp .ge 24, 3) := by decide +kernel
theorem dX9_sumOf_12 : decode cX9_sumOf 12 = .ok (.lload_n 2, 1) := by decide +kernel
theorem dX9_sumOf_13 : decode cX9_sumOf 13 = .ok (.aload_n 0, 1) := by decide +kernel
theorem dX9_sumOf_14 : decode cX9_sumOf 14 = .ok (.getfield 19, 3) := by decide +kernel
theorem dX9_sumOf_17 : decode cX9_sumOf 17 = .ok (.bipush 11, 2) := by decide +kernel
theorem dX9_sumOf_19 : decode cX9_sumOf 19 = .ok (.iload_n 1, 1) := by decide +kernel
theorem dX9_sumOf_20 : decode cX9_sumOf 20 = .ok (.imul, 1) := by decide +kernel
theorem dX9_sumOf_21 : decode cX9_sumOf 21 = .ok (.iload 4, 2) := by decide +kernel
theorem dX9_sumOf_23 : decode cX9_sumOf 23 = .ok (.iadd, 1) := by decide +kernel
theorem dX9_sumOf_24 : decode cX9_sumOf 24 = .ok (.laload, 1) := by decide +kernel
theorem dX9_sumOf_25 : decode cX9_sumOf 25 = .ok (.ladd, 1) := by decide +kernel
theorem dX9_sumOf_26 : decode cX9_sumOf 26 = .ok (.lstore_n 2, 1) := by decide +kernel
theorem dX9_sumOf_27 : decode cX9_sumOf 27 = .ok (.iinc 4 1, 3) := by decide +kernel
theorem dX9_sumOf_30 : decode cX9_sumOf 30 = .ok (.goto (-25), 3) := by decide +kernel
theorem dX9_sumOf_33 : decode cX9_sumOf 33 = .ok (.lload_n 2, 1) := by decide +kernel
theorem dX9_sumOf_34 : decode cX9_sumOf 34 = .ok (.lreturn, 1) := by decide +kernel
theorem dX9_to_0 : decode cX9_to 0 = .ok (.iload_n 1, 1) := by decide +kernel
theorem dX9_to_1 : decode cX9_to 1 = .ok (.iconst 1, 1) := by decide +kernel
theorem dX9_to_2 : decode cX9_to 2 = .ok (.if_icmp .ne 9, 3) := by decide +kernel
theorem dX9_to_5 : decode cX9_to 5 = .ok (.iload_n 0, 1) := by decide +kernel
theorem dX9_to_6 : decode cX9_to 6 = .ok (.iconst 1, 1) := by decide +kernel
theorem dX9_to_7 : decode cX9_to 7 = .ok (.iadd, 1) := by decide +kernel
theorem dX9_to_8 : decode cX9_to 8 = .ok (.goto 15, 3) := by decide +kernel
theorem dX9_to_11 : decode cX9_to 11 = .ok (.iload_n 1, 1) := by decide +kernel
theorem dX9_to_12 : decode cX9_to 12 = .ok (.iconst 2, 1) := by decide +kernel
theorem dX9_to_13 : decode cX9_to 13 = .ok (.if_icmp .ne 9, 3) := by decide +kernel
theorem dX9_to_16 : decode cX9_to 16 = .ok (.iload_n 0, 1) := by decide +kernel
theorem dX9_to_17 : decode cX9_to 17 = .ok (.iconst 1, 1) := by decide +kernel
theorem dX9_to_18 : decode cX9_to 18 = .ok (.isub, 1) := by decide +kernel
theorem dX9_to_19 : decode cX9_to 19 = .ok (.goto 4, 3) := by decide +kernel
theorem dX9_to_22 : decode cX9_to 22 = .ok (.iload_n 0, 1) := by decide +kernel
theorem dX9_to_23 : decode cX9_to 23 = .ok (.istore_n 2, 1) := by decide +kernel
theorem dX9_to_24 : decode cX9_to 24 = .ok (.iload_n 2, 1) := by decide +kernel
theorem dX9_to_25 : decode cX9_to 25 = .ok (.ifCond .ge 7, 3) := by decide +kernel
theorem dX9_to_28 : decode cX9_to 28 = .ok (.iconst 0, 1) := by decide +kernel
theorem dX9_to_29 : decode cX9_to 29 = .ok (.goto 15, 3) := by decide +kernel
theorem dX9_to_32 : decode cX9_to 32 = .ok (.iload_n 2, 1) := by decide +kernel
theorem dX9_to_33 : decode cX9_to 33 = .ok (.bipush 9, 2) := by decide +kernel
theorem dX9_to_35 : decode cX9_to 35 = .ok (.if_icmp .le 8, 3) := by decide +kernel
theorem dX9_to_38 : decode cX9_to 38 = .ok (.bipush 9, 2) := by decide +kernel
theorem dX9_to_40 : decode cX9_to 40 = .ok (.goto 4, 3) := by decide +kernel
theorem dX9_to_43 : decode cX9_to 43 = .ok (.iload_n 2, 1) := by decide +kernel
theorem dX9_to_44 : decode cX9_to 44 = .ok (.ireturn, 1) := by decide +kernel
theorem dX9_lookAt_0 : decode cX9_lookAt 0 = .ok (.lconst 0, 1) := by decide +kernel
theorem dX9_lookAt_1 : decode cX9_lookAt 1 = .ok (.lstore_n 3, 1) := by decide +kernel
theorem dX9_lookAt_2 : decode cX9_lookAt 2 = .ok (.iconst 0, 1) := by decide +kernel
theorem dX9_lookAt_3 : decode cX9_lookAt 3 = .ok (.istore 5, 2) := by decide +kernel
theorem dX9_lookAt_5 : decode cX9_lookAt 5 = .ok (.iload 5, 2) := by decide +kernel
theorem dX9_lookAt_7 : decode cX9_lookAt 7 = .ok (.bipush 11, 2) := by decide +kernel
theorem dX9_lookAt_9 : decode cX9_lookAt 9 = .ok (.if_icmp .ge 79, 3) := by decide +kernel
theorem dX9_lookAt_12 : decode cX9_lookAt 12 = .ok (.iload 5, 2) := by decide +kernel
theorem dX9_lookAt_14 : decode cX9_lookAt 14 = .ok (.iload_n 2, 1) := by decide +kernel
theorem dX9_lookAt_15 : decode cX9_lookAt 15 = .ok (.if_icmp .eq 7, 3) := by decide +kernel
theorem dX9_lookAt_18 : decode cX9_lookAt 18 = .ok (.iconst 0, 1) := by decide +kernel
theorem dX9_lookAt_19 : decode cX9_lookAt 19 = .ok (.goto 21, 3) := by decide +kernel
theorem dX9_lookAt_22 : decode cX9_lookAt 22 = .ok (.iload 5, 2) := by decide +kernel
theorem dX9_lookAt_24 : decode cX9_lookAt 24 = .ok (.bipush 10, 2) := by decide +kernel
theorem dX9_lookAt_26 : decode cX9_lookAt 26 = .ok (.if_icmp .ne 10, 3) := by decide +kernel
theorem dX9_lookAt_29 : decode cX9_lookAt 29 = .ok (.aload_n 0, 1) := by decide +kernel
theorem dX9_lookAt_30 : decode cX9_lookAt 30 = .ok (.getfield 103, 3) := by decide +kernel
theorem dX9_lookAt_33 : decode cX9_lookAt 33 = .ok (.goto 7, 3) := by decide +kernel
theorem dX9_lookAt_36 : decode cX9_lookAt 36 = .ok (.aload_n 0, 1) := by decide +kernel
theorem dX9_lookAt_37 : decode cX9_lookAt 37 = .ok (.getfield 100, 3) := by decide +kernel
theorem dX9_lookAt_40 : decode cX9_lookAt 40 = .ok (.istore 6, 2) := by decide +kernel
theorem dX9_lookAt_42 : decode cX9_lookAt 42 = .ok (.lload_n 3, 1) := by decide +kernel
theorem dX9_lookAt_43 : decode cX9_lookAt 43 = .ok (.aload_n 0, 1) := by decide +kernel
theorem dX9_lookAt_44 : decode cX9_lookAt 44 = .ok (.getfield 19, 3) := by decide +kernel
theorem dX9_lookAt_47 : decode cX9_lookAt 47 = .ok (.bipush 11, 2) := by decide +kernel
theorem dX9_lookAt_49 : decode cX9_lookAt 49 = .ok (.iload_n 1, 1) := by decide +kernel
theorem dX9_lookAt_50 : decode cX9_lookAt 50 = .ok (.imul, 1) := by decide +kernel
theorem dX9_lookAt_51 : decode cX9_lookAt 51 = .ok (.iload 5, 2) := by decide +kernel
theorem dX9_lookAt_53 : decode cX9_lookAt 53 = .ok (.iadd, 1) := by decide +kernel
theorem dX9_lookAt_54 : decode cX9_lookAt 54 = .ok (.laload, 1) := by decide +kernel
theorem dX9_lookAt_55 : decode cX9_lookAt 55 = .ok (.iload 6, 2) := by decide +kernel
theorem dX9_lookAt_57 : decode cX9_lookAt 57 = .ok (.i2l, 1) := by decide +kernel
theorem dX9_lookAt_58 : decode cX9_lookAt 58 = .ok (.lmul, 1) := by decide +kernel
theorem dX9_lookAt_59 : decode cX9_lookAt 59 = .ok (.ladd, 1) := by decide +kernel
theorem dX9_lookAt_60 : decode cX9_lookAt 60 = .ok (.lstore_n 3, 1) := by decide +kernel
theorem dX9_lookAt_61 : decode cX9_lookAt 61 = .ok (.aload_n 0, 1) := by decide +kernel
theorem dX9_lookAt_62 : decode cX9_lookAt 62 = .ok (.getfield 19, 3) := by decide +kernel
theorem dX9_lookAt_65 : decode cX9_lookAt 65 = .ok (.bipush 11, 2) := by decide +kernel
theorem dX9_lookAt_67 : decode cX9_lookAt 67 = .ok (.iload_n 1, 1) := by decide +kernel
theorem dX9_lookAt_68 : decode cX9_lookAt 68 = .ok (.imul, 1) := by decide +kernel
theorem dX9_lookAt_69 : decode cX9_lookAt 69 = .ok (.iload 5, 2) := by decide +kernel
theorem dX9_lookAt_71 : decode cX9_lookAt 71 = .ok (.iadd, 1) := by decide +kernel
theorem dX9_lookAt_72 : decode cX9_lookAt 72 = .ok (.dup2, 1) := by decide +kernel
theorem dX9_lookAt_73 : decode cX9_lookAt 73 = .ok (.laload, 1) := by decide +kernel
theorem dX9_lookAt_74 : decode cX9_lookAt 74 = .ok (.bipush 10, 2) := by decide +kernel
theorem dX9_lookAt_76 : decode cX9_lookAt 76 = .ok (.iload 6, 2) := by decide +kernel
theorem dX9_lookAt_78 : decode cX9_lookAt 78 = .ok (.isub, 1) := by decide +kernel
theorem dX9_lookAt_79 : decode cX9_lookAt 79 = .ok (.i2l, 1) := by decide +kernel
theorem dX9_lookAt_80 : decode cX9_lookAt 80 = .ok (.lmul, 1) := by decide +kernel
theorem dX9_lookAt_81 : decode cX9_lookAt 81 = .ok (.lastore, 1) := by decide +kernel
theorem dX9_lookAt_82 : decode cX9_lookAt 82 = .ok (.iinc 5 1, 3) := by decide +kernel
theorem dX9_lookAt_85 : decode cX9_lookAt 85 = .ok (.goto (-80), 3) := by decide +kernel
theorem dX9_lookAt_88 : decode cX9_lookAt 88 = .ok (.lload_n 3, 1) := by decide +kernel
theorem dX9_lookAt_89 : decode cX9_lookAt 89 = .ok (.lreturn, 1) := by decide +kernel
set_option maxRecDepth 20000 in
theorem ggX9_drift_X9_to : GoodIn wsX9_drift wsX9_to := goodIn_r _ [10] (by decide +kernel) (by decide +kernel)
set_option maxRecDepth 20000 in
theorem gX9_drift_X9_to : GoodIn wsX9_drift (va_wsS RX9 125 yX9_to wsX9_to) := goodIn_app (goodIn_of _ (by decide +kernel)) ggX9_drift_X9_to
theorem dX9_drift_0 : decode cX9_drift 0 = .ok (.bipush 11, 2) := by decide +kernel
theorem dX9_drift_2 : decode cX9_drift 2 = .ok (.iload_n 1, 1) := by decide +kernel
theorem dX9_drift_3 : decode cX9_drift 3 = .ok (.imul, 1) := by decide +kernel
theorem dX9_drift_4 : decode cX9_drift 4 = .ok (.istore_n 3, 1) := by decide +kernel
theorem dX9_drift_5 : decode cX9_drift 5 = .ok (.iconst 0, 1) := by decide +kernel
theorem dX9_drift_6 : decode cX9_drift 6 = .ok (.istore 4, 2) := by decide +kernel
theorem dX9_drift_8 : decode cX9_drift 8 = .ok (.iload 4, 2) := by decide +kernel
theorem dX9_drift_10 : decode cX9_drift 10 = .ok (.bipush 10, 2) := by decide +kernel
theorem dX9_drift_12 : decode cX9_drift 12 = .ok (.if_icmp .ge 17, 3) := by decide +kernel
theorem dX9_drift_15 : decode cX9_drift 15 = .ok (.aload_n 0, 1) := by decide +kernel
theorem dX9_drift_16 : decode cX9_drift 16 = .ok (.getfield 29, 3) := by decide +kernel
theorem dX9_drift_19 : decode cX9_drift 19 = .ok (.iload 4, 2) := by decide +kernel
theorem dX9_drift_21 : decode cX9_drift 21 = .ok (.lconst 0, 1) := by decide +kernel
theorem dX9_drift_22 : decode cX9_drift 22 = .ok (.lastore, 1) := by decide +kernel
theorem dX9_drift_23 : decode cX9_drift 23 = .ok (.iinc 4 1, 3) := by decide +kernel
theorem dX9_drift_26 : decode cX9_drift 26 = .ok (.goto (-18), 3) := by decide +kernel
theorem dX9_drift_29 : decode cX9_drift 29 = .ok (.iconst 0, 1) := by decide +kernel
theorem dX9_drift_30 : decode cX9_drift 30 = .ok (.istore 4, 2) := by decide +kernel
theorem dX9_drift_32 : decode cX9_drift 32 = .ok (.iload 4, 2) := by decide +kernel
theorem dX9_drift_34 : decode cX9_drift 34 = .ok (.bipush 10, 2) := by decide +kernel
theorem dX9_drift_36 : decode cX9_drift 36 = .ok (.if_icmp .ge 100, 3) := by decide +kernel
theorem dX9_drift_39 : decode cX9_drift 39 = .ok (.aload_n 0, 1) := by decide +kernel
theorem dX9_drift_40 : decode cX9_drift 40 = .ok (.getfield 29, 3) := by decide +kernel
theorem dX9_drift_43 : decode cX9_drift 43 = .ok (.iload 4, 2) := by decide +kernel
theorem dX9_drift_45 : decode cX9_drift 45 = .ok (.iconst 1, 1) := by decide +kernel
theorem dX9_drift_46 : decode cX9_drift 46 = .ok (.invokestatic 125, 3) := by decide +kernel
theorem dX9_drift_49 : decode cX9_drift 49 = .ok (.dup2, 1) := by decide +kernel
theorem dX9_drift_50 : decode cX9_drift 50 = .ok (.laload, 1) := by decide +kernel
theorem dX9_drift_51 : decode cX9_drift 51 = .ok (.aload_n 0, 1) := by decide +kernel
theorem dX9_drift_52 : decode cX9_drift 52 = .ok (.getfield 19, 3) := by decide +kernel
theorem dX9_drift_55 : decode cX9_drift 55 = .ok (.iload_n 3, 1) := by decide +kernel
theorem dX9_drift_56 : decode cX9_drift 56 = .ok (.iload 4, 2) := by decide +kernel
theorem dX9_drift_58 : decode cX9_drift 58 = .ok (.iadd, 1) := by decide +kernel
theorem dX9_drift_59 : decode cX9_drift 59 = .ok (.laload, 1) := by decide +kernel
theorem dX9_drift_60 : decode cX9_drift 60 = .ok (.aload_n 0, 1) := by decide +kernel
theorem dX9_drift_61 : decode cX9_drift 61 = .ok (.getfield 94, 3) := by decide +kernel
theorem dX9_drift_64 : decode cX9_drift 64 = .ok (.i2l, 1) := by decide +kernel
theorem dX9_drift_65 : decode cX9_drift 65 = .ok (.lmul, 1) := by decide +kernel
theorem dX9_drift_66 : decode cX9_drift 66 = .ok (.ladd, 1) := by decide +kernel
theorem dX9_drift_67 : decode cX9_drift 67 = .ok (.lastore, 1) := by decide +kernel
theorem dX9_drift_68 : decode cX9_drift 68 = .ok (.aload_n 0, 1) := by decide +kernel
theorem dX9_drift_69 : decode cX9_drift 69 = .ok (.getfield 29, 3) := by decide +kernel
theorem dX9_drift_72 : decode cX9_drift 72 = .ok (.iload 4, 2) := by decide +kernel
theorem dX9_drift_74 : decode cX9_drift 74 = .ok (.iconst 2, 1) := by decide +kernel
theorem dX9_drift_75 : decode cX9_drift 75 = .ok (.invokestatic 125, 3) := by decide +kernel
theorem dX9_drift_78 : decode cX9_drift 78 = .ok (.dup2, 1) := by decide +kernel
theorem dX9_drift_79 : decode cX9_drift 79 = .ok (.laload, 1) := by decide +kernel
theorem dX9_drift_80 : decode cX9_drift 80 = .ok (.aload_n 0, 1) := by decide +kernel
theorem dX9_drift_81 : decode cX9_drift 81 = .ok (.getfield 19, 3) := by decide +kernel
theorem dX9_drift_84 : decode cX9_drift 84 = .ok (.iload_n 3, 1) := by decide +kernel
theorem dX9_drift_85 : decode cX9_drift 85 = .ok (.iload 4, 2) := by decide +kernel
theorem dX9_drift_87 : decode cX9_drift 87 = .ok (.iadd, 1) := by decide +kernel
theorem dX9_drift_88 : decode cX9_drift 88 = .ok (.laload, 1) := by decide +kernel
theorem dX9_drift_89 : decode cX9_drift 89 = .ok (.aload_n 0, 1) := by decide +kernel
theorem dX9_drift_90 : decode cX9_drift 90 = .ok (.getfield 97, 3) := by decide +kernel
theorem dX9_drift_93 : decode cX9_drift 93 = .ok (.i2l, 1) := by decide +kernel
theorem dX9_drift_94 : decode cX9_drift 94 = .ok (.lmul, 1) := by decide +kernel
theorem dX9_drift_95 : decode cX9_drift 95 = .ok (.ladd, 1) := by decide +kernel
theorem dX9_drift_96 : decode cX9_drift 96 = .ok (.lastore, 1) := by decide +kernel
theorem dX9_drift_97 : decode cX9_drift 97 = .ok (.aload_n 0, 1) := by decide +kernel
theorem dX9_drift_98 : decode cX9_drift 98 = .ok (.getfield 29, 3) := by decide +kernel
theorem dX9_drift_101 : decode cX9_drift 101 = .ok (.iload 4, 2) := by decide +kernel
theorem dX9_drift_103 : decode cX9_drift 103 = .ok (.dup2, 1) := by decide +kernel
theorem dX9_drift_104 : decode cX9_drift 104 = .ok (.laload, 1) := by decide +kernel
theorem dX9_drift_105 : decode cX9_drift 105 = .ok (.aload_n 0, 1) := by decide +kernel
theorem dX9_drift_106 : decode cX9_drift 106 = .ok (.getfield 19, 3) := by decide +kernel
theorem dX9_drift_109 : decode cX9_drift 109 = .ok (.iload_n 3, 1) := by decide +kernel
theorem dX9_drift_110 : decode cX9_drift 110 = .ok (.iload 4, 2) := by decide +kernel
theorem dX9_drift_112 : decode cX9_drift 112 = .ok (.iadd, 1) := by decide +kernel
theorem dX9_drift_113 : decode cX9_drift 113 = .ok (.laload, 1) := by decide +kernel
theorem dX9_drift_114 : decode cX9_drift 114 = .ok (.bipush 10, 2) := by decide +kernel
theorem dX9_drift_116 : decode cX9_drift 116 = .ok (.aload_n 0, 1) := by decide +kernel
theorem dX9_drift_117 : decode cX9_drift 117 = .ok (.getfield 94, 3) := by decide +kernel
theorem dX9_drift_120 : decode cX9_drift 120 = .ok (.isub, 1) := by decide +kernel
theorem dX9_drift_121 : decode cX9_drift 121 = .ok (.aload_n 0, 1) := by decide +kernel
theorem dX9_drift_122 : decode cX9_drift 122 = .ok (.getfield 97, 3) := by decide +kernel
theorem dX9_drift_125 : decode cX9_drift 125 = .ok (.isub, 1) := by decide +kernel
theorem dX9_drift_126 : decode cX9_drift 126 = .ok (.i2l, 1) := by decide +kernel
theorem dX9_drift_127 : decode cX9_drift 127 = .ok (.lmul, 1) := by decide +kernel
theorem dX9_drift_128 : decode cX9_drift 128 = .ok (.ladd, 1) := by decide +kernel
theorem dX9_drift_129 : decode cX9_drift 129 = .ok (.lastore, 1) := by decide +kernel
theorem dX9_drift_130 : decode cX9_drift 130 = .ok (.iinc 4 1, 3) := by decide +kernel
theorem dX9_drift_133 : decode cX9_drift 133 = .ok (.goto (-101), 3) := by decide +kernel
theorem dX9_drift_136 : decode cX9_drift 136 = .ok (.iconst 0, 1) := by decide +kernel
theorem dX9_drift_137 : decode cX9_drift 137 = .ok (.istore 4, 2) := by decide +kernel
theorem dX9_drift_139 : decode cX9_drift 139 = .ok (.iload 4, 2) := by decide +kernel
theorem dX9_drift_141 : decode cX9_drift 141 = .ok (.bipush 10, 2) := by decide +kernel
theorem dX9_drift_143 : decode cX9_drift 143 = .ok (.if_icmp .ge 39, 3) := by decide +kernel
theorem dX9_drift_146 : decode cX9_drift 146 = .ok (.aload_n 0, 1) := by decide +kernel
theorem dX9_drift_147 : decode cX9_drift 147 = .ok (.getfield 19, 3) := by decide +kernel
theorem dX9_drift_150 : decode cX9_drift 150 = .ok (.iload_n 3, 1) := by decide +kernel
theorem dX9_drift_151 : decode cX9_drift 151 = .ok (.iload 4, 2) := by decide +kernel
theorem dX9_drift_153 : decode cX9_drift 153 = .ok (.iadd, 1) := by decide +kernel
theorem dX9_drift_154 : decode cX9_drift 154 = .ok (.iload_n 2, 1) := by decide +kernel
theorem dX9_drift_155 : decode cX9_drift 155 = .ok (.iconst 1, 1) := by decide +kernel
theorem dX9_drift_156 : decode cX9_drift 156 = .ok (.iadd, 1) := by decide +kernel
theorem dX9_drift_157 : decode cX9_drift 157 = .ok (.aload_n 0, 1) := by decide +kernel
theorem dX9_drift_158 : decode cX9_drift 158 = .ok (.getfield 48, 3) := by decide +kernel
theorem dX9_drift_161 : decode cX9_drift 161 = .ok (.if_icmp .ne 7, 3) := by decide +kernel
theorem dX9_drift_164 : decode cX9_drift 164 = .ok (.lconst 0, 1) := by decide +kernel
theorem dX9_drift_165 : decode cX9_drift 165 = .ok (.goto 10, 3) := by decide +kernel
theorem dX9_drift_168 : decode cX9_drift 168 = .ok (.aload_n 0, 1) := by decide +kernel
theorem dX9_drift_169 : decode cX9_drift 169 = .ok (.getfield 29, 3) := by decide +kernel
theorem dX9_drift_172 : decode cX9_drift 172 = .ok (.iload 4, 2) := by decide +kernel
theorem dX9_drift_174 : decode cX9_drift 174 = .ok (.laload, 1) := by decide +kernel
theorem dX9_drift_175 : decode cX9_drift 175 = .ok (.lastore, 1) := by decide +kernel
theorem dX9_drift_176 : decode cX9_drift 176 = .ok (.iinc 4 1, 3) := by decide +kernel
theorem dX9_drift_179 : decode cX9_drift 179 = .ok (.goto (-40), 3) := by decide +kernel
theorem dX9_drift_182 : decode cX9_drift 182 = .ok (.aload_n 0, 1) := by decide +kernel
theorem dX9_drift_183 : decode cX9_drift 183 = .ok (.getfield 19, 3) := by decide +kernel
theorem dX9_drift_186 : decode cX9_drift 186 = .ok (.iload_n 3, 1) := by decide +kernel
theorem dX9_drift_187 : decode cX9_drift 187 = .ok (.bipush 10, 2) := by decide +kernel
theorem dX9_drift_189 : decode cX9_drift 189 = .ok (.iadd, 1) := by decide +kernel
theorem dX9_drift_190 : decode cX9_drift 190 = .ok (.dup2, 1) := by decide +kernel
theorem dX9_drift_191 : decode cX9_drift 191 = .ok (.laload, 1) := by decide +kernel
theorem dX9_drift_192 : decode cX9_drift 192 = .ok (.ldc2_w 128, 3) := by decide +kernel
theorem dX9_drift_195 : decode cX9_drift 195 = .ok (.lmul, 1) := by decide +kernel
theorem dX9_drift_196 : decode cX9_drift 196 = .ok (.lastore, 1) := by decide +kernel
theorem dX9_drift_197 : decode cX9_drift 197 = .ok (.return_, 1) := by decide +kernel
theorem dX9_keepAct_0 : decode cX9_keepAct 0 = .ok (.iconst 0, 1) := by decide +kernel
theorem dX9_keepAct_1 : decode cX9_keepAct 1 = .ok (.istore_n 1, 1) := by decide +kernel
theorem dX9_keepAct_2 : decode cX9_keepAct 2 = .ok (.iload_n 1, 1) := by decide +kernel
theorem dX9_keepAct_3 : decode cX9_keepAct 3 = .ok (.bipush 11, 2) := by decide +kernel
theorem dX9_keepAct_5 : decode cX9_keepAct 5 = .ok (.if_icmp .ge 29, 3) := by decide +kernel
theorem dX9_keepAct_8 : decode cX9_keepAct 8 = .ok (.aload_n 0, 1) := by decide +kernel
theorem dX9_keepAct_9 : decode cX9_keepAct 9 = .ok (.getfield 32, 3) := by decide +kernel
theorem dX9_keepAct_12 : decode cX9_keepAct 12 = .ok (.bipush 11, 2) := by decide +kernel
theorem dX9_keepAct_14 : decode cX9_keepAct 14 = .ok (.aload_n 0, 1) := by decide +kernel
theorem dX9_keepAct_15 : decode cX9_keepAct 15 = .ok (.getfield 119, 3) := by decide +kernel
theorem dX9_keepAct_18 : decode cX9_keepAct 18 = .ok (.imul, 1) := by decide +kernel
theorem dX9_keepAct_19 : decode cX9_keepAct 19 = .ok (.iload_n 1, 1) := by decide +kernel
theorem dX9_keepAct_20 : decode cX9_keepAct 20 = .ok (.iadd, 1) := by decide +kernel
theorem dX9_keepAct_21 : decode cX9_keepAct 21 = .ok (.aload_n 0, 1) := by decide +kernel
theorem dX9_keepAct_22 : decode cX9_keepAct 22 = .ok (.getfield 19, 3) := by decide +kernel
theorem dX9_keepAct_25 : decode cX9_keepAct 25 = .ok (.iload_n 1, 1) := by decide +kernel
theorem dX9_keepAct_26 : decode cX9_keepAct 26 = .ok (.laload, 1) := by decide +kernel
theorem dX9_keepAct_27 : decode cX9_keepAct 27 = .ok (.lastore, 1) := by decide +kernel
theorem dX9_keepAct_28 : decode cX9_keepAct 28 = .ok (.iinc 1 1, 3) := by decide +kernel
theorem dX9_keepAct_31 : decode cX9_keepAct 31 = .ok (.goto (-29), 3) := by decide +kernel
theorem dX9_keepAct_34 : decode cX9_keepAct 34 = .ok (.iconst 0, 1) := by decide +kernel
theorem dX9_keepAct_35 : decode cX9_keepAct 35 = .ok (.istore_n 1, 1) := by decide +kernel
theorem dX9_keepAct_36 : decode cX9_keepAct 36 = .ok (.iload_n 1, 1) := by decide +kernel
theorem dX9_keepAct_37 : decode cX9_keepAct 37 = .ok (.bipush 9, 2) := by decide +kernel
theorem dX9_keepAct_39 : decode cX9_keepAct 39 = .ok (.if_icmp .ge 29, 3) := by decide +kernel
theorem dX9_keepAct_42 : decode cX9_keepAct 42 = .ok (.aload_n 0, 1) := by decide +kernel
theorem dX9_keepAct_43 : decode cX9_keepAct 43 = .ok (.getfield 35, 3) := by decide +kernel
theorem dX9_keepAct_46 : decode cX9_keepAct 46 = .ok (.bipush 9, 2) := by decide +kernel
theorem dX9_keepAct_48 : decode cX9_keepAct 48 = .ok (.aload_n 0, 1) := by decide +kernel
theorem dX9_keepAct_49 : decode cX9_keepAct 49 = .ok (.getfield 119, 3) := by decide +kernel
theorem dX9_keepAct_52 : decode cX9_keepAct 52 = .ok (.imul, 1) := by decide +kernel
theorem dX9_keepAct_53 : decode cX9_keepAct 53 = .ok (.iload_n 1, 1) := by decide +kernel
theorem dX9_keepAct_54 : decode cX9_keepAct 54 = .ok (.iadd, 1) := by decide +kernel
theorem dX9_keepAct_55 : decode cX9_keepAct 55 = .ok (.aload_n 0, 1) := by decide +kernel
theorem dX9_keepAct_56 : decode cX9_keepAct 56 = .ok (.getfield 23, 3) := by decide +kernel
theorem dX9_keepAct_59 : decode cX9_keepAct 59 = .ok (.iload_n 1, 1) := by decide +kernel
theorem dX9_keepAct_60 : decode cX9_keepAct 60 = .ok (.iaload, 1) := by decide +kernel
theorem dX9_keepAct_61 : decode cX9_keepAct 61 = .ok (.iastore, 1) := by decide +kernel
theorem dX9_keepAct_62 : decode cX9_keepAct 62 = .ok (.iinc 1 1, 3) := by decide +kernel
theorem dX9_keepAct_65 : decode cX9_keepAct 65 = .ok (.goto (-29), 3) := by decide +kernel
theorem dX9_keepAct_68 : decode cX9_keepAct 68 = .ok (.aload_n 0, 1) := by decide +kernel
theorem dX9_keepAct_69 : decode cX9_keepAct 69 = .ok (.dup, 1) := by decide +kernel
theorem dX9_keepAct_70 : decode cX9_keepAct 70 = .ok (.getfield 119, 3) := by decide +kernel
theorem dX9_keepAct_73 : decode cX9_keepAct 73 = .ok (.iconst 1, 1) := by decide +kernel
theorem dX9_keepAct_74 : decode cX9_keepAct 74 = .ok (.iadd, 1) := by decide +kernel
theorem dX9_keepAct_75 : decode cX9_keepAct 75 = .ok (.putfield 119, 3) := by decide +kernel
theorem dX9_keepAct_78 : decode cX9_keepAct 78 = .ok (.return_, 1) := by decide +kernel
set_option maxRecDepth 20000 in
theorem ggX9_look_X9_in : GoodIn wsX9_look wsX9_in := goodIn_r _ [7] (by decide +kernel) (by decide +kernel)
set_option maxRecDepth 20000 in
theorem gX9_look_X9_in : GoodIn wsX9_look (va_wsS RX9 54 yX9_in wsX9_in) := goodIn_app (goodIn_of _ (by decide +kernel)) ggX9_look_X9_in
set_option maxRecDepth 20000 in
theorem ggX9_look_X9_keepAct : GoodIn wsX9_look wsX9_keepAct := goodIn_r _ [11, 12, 13, 14, 15, 2, 33, 34, 35, 36, 37, 38, 39, 40, 41, 42, 43, 44, 45, 46, 47, 48, 49, 50, 51, 52, 53, 54, 55, 56, 57, 58, 59, 60, 61] (by decide +kernel) (by decide +kernel)
set_option maxRecDepth 20000 in
theorem gX9_look_X9_keepAct : GoodIn wsX9_look (wsV RX9 132 RX9 yX9_keepAct wsX9_keepAct) := goodIn_app (goodIn_of _ (by decide +kernel)) ggX9_look_X9_keepAct
set_option maxRecDepth 20000 in
theorem ggX9_look_X9_to : GoodIn wsX9_look wsX9_to := goodIn_r _ [18] (by decide +kernel) (by decide +kernel)
set_option maxRecDepth 20000 in
theorem gX9_look_X9_to : GoodIn wsX9_look (va_wsS RX9 125 yX9_to wsX9_to) := goodIn_app (goodIn_of _ (by decide +kernel)) ggX9_look_X9_to
set_option maxRecDepth 20000 in
theorem ggX9_look_X9_lookAt : GoodIn wsX9_look wsX9_lookAt := goodIn_r _ [22, 23, 24, 14, 33, 34, 35, 36, 37, 38, 39, 40, 41, 42, 43, 44, 45, 46, 47, 48, 49, 50, 51, 52, 53, 54, 55, 56, 57, 58, 59, 60, 61] (by decide +kernel) (by decide +kernel)
set_option maxRecDepth 20000 in
theorem gX9_look_X9_lookAt : GoodIn wsX9_look (wsV RX9 135 RX9 yX9_lookAt wsX9_lookAt) := goodIn_app (goodIn_of _ (by decide +kernel)) ggX9_look_X9_lookAt
set_option maxRecDepth 20000 in
theorem ggX9_look_X9_drift : GoodIn wsX9_look wsX9_drift := goodIn_r _ [28, 29, 14, 30, 31, 3, 32, 16, 17, 6, 18, 33, 34, 35, 36, 37, 38, 39, 40, 41, 42, 43, 44, 45, 46, 47, 48, 49, 50, 51, 52, 53, 54, 55, 56, 57, 58, 59, 60, 61] (by decide +kernel) (by decide +kernel)
set_option maxRecDepth 20000 in
theorem gX9_look_X9_drift : GoodIn wsX9_look (wsV RX9 139 RX9 yX9_drift wsX9_drift) := goodIn_app (goodIn_of _ (by decide +kernel)) ggX9_look_X9_drift
theorem dX9_look_0 : decode cX9_look 0 = .ok (.iload_n 1, 1) := by decide +kernel
theorem dX9_look_1 : decode cX9_look 1 = .ok (.i2l, 1) := by decide +kernel
theorem dX9_look_2 : decode cX9_look 2 = .ok (.lconst 0, 1) := by decide +kernel
theorem dX9_look_3 : decode cX9_look 3 = .ok (.ldc2_w 130, 3) := by decide +kernel
theorem dX9_look_6 : decode cX9_look 6 = .ok (.invokestatic 54, 3) := by decide +kernel
theorem dX9_look_9 : decode cX9_look 9 = .ok (.ifCond .ne 6, 3) := by decide +kernel
theorem dX9_look_12 : decode cX9_look 12 = .ok (.bipush (-2), 2) := by decide +kernel
theorem dX9_look_14 : decode cX9_look 14 = .ok (.ireturn, 1) := by decide +kernel
theorem dX9_look_15 : decode cX9_look 15 = .ok (.aload_n 0, 1) := by decide +kernel
theorem dX9_look_16 : decode cX9_look 16 = .ok (.getfield 23, 3) := by decide +kernel
theorem dX9_look_19 : decode cX9_look 19 = .ok (.iconst 1, 1) := by decide +kernel
theorem dX9_look_20 : decode cX9_look 20 = .ok (.iaload, 1) := by decide +kernel
theorem dX9_look_21 : decode cX9_look 21 = .ok (.aload_n 0, 1) := by decide +kernel
theorem dX9_look_22 : decode cX9_look 22 = .ok (.getfield 48, 3) := by decide +kernel
theorem dX9_look_25 : decode cX9_look 25 = .ok (.if_icmp .ne 6, 3) := by decide +kernel
theorem dX9_look_28 : decode cX9_look 28 = .ok (.bipush (-3), 2) := by decide +kernel
theorem dX9_look_30 : decode cX9_look 30 = .ok (.ireturn, 1) := by decide +kernel
theorem dX9_look_31 : decode cX9_look 31 = .ok (.aload_n 0, 1) := by decide +kernel
theorem dX9_look_32 : decode cX9_look 32 = .ok (.invokevirtual 132, 3) := by decide +kernel
theorem dX9_look_35 : decode cX9_look 35 = .ok (.aload_n 0, 1) := by decide +kernel
theorem dX9_look_36 : decode cX9_look 36 = .ok (.getfield 23, 3) := by decide +kernel
theorem dX9_look_39 : decode cX9_look 39 = .ok (.iconst 0, 1) := by decide +kernel
theorem dX9_look_40 : decode cX9_look 40 = .ok (.aload_n 0, 1) := by decide +kernel
theorem dX9_look_41 : decode cX9_look 41 = .ok (.getfield 23, 3) := by decide +kernel
theorem dX9_look_44 : decode cX9_look 44 = .ok (.iconst 0, 1) := by decide +kernel
theorem dX9_look_45 : decode cX9_look 45 = .ok (.iaload, 1) := by decide +kernel
theorem dX9_look_46 : decode cX9_look 46 = .ok (.iload_n 1, 1) := by decide +kernel
theorem dX9_look_47 : decode cX9_look 47 = .ok (.invokestatic 125, 3) := by decide +kernel
theorem dX9_look_50 : decode cX9_look 50 = .ok (.iastore, 1) := by decide +kernel
theorem dX9_look_51 : decode cX9_look 51 = .ok (.aload_n 0, 1) := by decide +kernel
theorem dX9_look_52 : decode cX9_look 52 = .ok (.iconst 0, 1) := by decide +kernel
theorem dX9_look_53 : decode cX9_look 53 = .ok (.aload_n 0, 1) := by decide +kernel
theorem dX9_look_54 : decode cX9_look 54 = .ok (.getfield 23, 3) := by decide +kernel
theorem dX9_look_57 : decode cX9_look 57 = .ok (.iconst 0, 1) := by decide +kernel
theorem dX9_look_58 : decode cX9_look 58 = .ok (.iaload, 1) := by decide +kernel
theorem dX9_look_59 : decode cX9_look 59 = .ok (.invokevirtual 135, 3) := by decide +kernel
theorem dX9_look_62 : decode cX9_look 62 = .ok (.pop2, 1) := by decide +kernel
theorem dX9_look_63 : decode cX9_look 63 = .ok (.aload_n 0, 1) := by decide +kernel
theorem dX9_look_64 : decode cX9_look 64 = .ok (.iconst 0, 1) := by decide +kernel
theorem dX9_look_65 : decode cX9_look 65 = .ok (.aload_n 0, 1) := by decide +kernel
theorem dX9_look_66 : decode cX9_look 66 = .ok (.getfield 23, 3) := by decide +kernel
theorem dX9_look_69 : decode cX9_look 69 = .ok (.iconst 1, 1) := by decide +kernel
theorem dX9_look_70 : decode cX9_look 70 = .ok (.iaload, 1) := by decide +kernel
theorem dX9_look_71 : decode cX9_look 71 = .ok (.invokevirtual 139, 3) := by decide +kernel
theorem dX9_look_74 : decode cX9_look 74 = .ok (.aload_n 0, 1) := by decide +kernel
theorem dX9_look_75 : decode cX9_look 75 = .ok (.getfield 23, 3) := by decide +kernel
theorem dX9_look_78 : decode cX9_look 78 = .ok (.iconst 1, 1) := by decide +kernel
theorem dX9_look_79 : decode cX9_look 79 = .ok (.dup2, 1) := by decide +kernel
theorem dX9_look_80 : decode cX9_look 80 = .ok (.iaload, 1) := by decide +kernel
theorem dX9_look_81 : decode cX9_look 81 = .ok (.iconst 1, 1) := by decide +kernel
theorem dX9_look_82 : decode cX9_look 82 = .ok (.iadd, 1) := by decide +kernel
theorem dX9_look_83 : decode cX9_look 83 = .ok (.iastore, 1) := by decide +kernel
theorem dX9_look_84 : decode cX9_look 84 = .ok (.aload_n 0, 1) := by decide +kernel
theorem dX9_look_85 : decode cX9_look 85 = .ok (.getfield 23, 3) := by decide +kernel
theorem dX9_look_88 : decode cX9_look 88 = .ok (.iconst 0, 1) := by decide +kernel
theorem dX9_look_89 : decode cX9_look 89 = .ok (.iaload, 1) := by decide +kernel
theorem dX9_look_90 : decode cX9_look 90 = .ok (.ireturn, 1) := by decide +kernel
set_option maxRecDepth 20000 in
theorem ggX9_lookAboard_X9_keepAct : GoodIn wsX9_lookAboard wsX9_keepAct := goodIn_r _ [7, 8, 9, 10, 11, 1, 29, 30, 31, 32, 33, 34, 35, 36, 37, 38, 39, 40, 41, 42, 43, 44, 45, 46, 47, 48, 49, 50, 51, 52, 53, 54, 55, 56, 57] (by decide +kernel) (by decide +kernel)
set_option maxRecDepth 20000 in
theorem gX9_lookAboard_X9_keepAct : GoodIn wsX9_lookAboard (wsV RX9 132 RX9 yX9_keepAct wsX9_keepAct) := goodIn_app (goodIn_of _ (by decide +kernel)) ggX9_lookAboard_X9_keepAct
set_option maxRecDepth 20000 in
theorem ggX9_lookAboard_X9_lookAt : GoodIn wsX9_lookAboard wsX9_lookAt := goodIn_r _ [15, 16, 17, 10, 29, 30, 31, 32, 33, 34, 35, 36, 37, 38, 39, 40, 41, 42, 43, 44, 45, 46, 47, 48, 49, 50, 51, 52, 53, 54, 55, 56, 57] (by decide +kernel) (by decide +kernel)
set_option maxRecDepth 20000 in
theorem gX9_lookAboard_X9_lookAt : GoodIn wsX9_lookAboard (wsV RX9 135 RX9 yX9_lookAt wsX9_lookAt) := goodIn_app (goodIn_of _ (by decide +kernel)) ggX9_lookAboard_X9_lookAt
set_option maxRecDepth 20000 in
theorem ggX9_lookAboard_X9_drift : GoodIn wsX9_lookAboard wsX9_drift := goodIn_r _ [21, 22, 10, 23, 24, 2, 25, 26, 27, 6, 28, 29, 30, 31, 32, 33, 34, 35, 36, 37, 38, 39, 40, 41, 42, 43, 44, 45, 46, 47, 48, 49, 50, 51, 52, 53, 54, 55, 56, 57] (by decide +kernel) (by decide +kernel)
set_option maxRecDepth 20000 in
theorem gX9_lookAboard_X9_drift : GoodIn wsX9_lookAboard (wsV RX9 139 RX9 yX9_drift wsX9_drift) := goodIn_app (goodIn_of _ (by decide +kernel)) ggX9_lookAboard_X9_drift
theorem dX9_lookAboard_0 : decode cX9_lookAboard 0 = .ok (.aload_n 0, 1) := by decide +kernel
theorem dX9_lookAboard_1 : decode cX9_lookAboard 1 = .ok (.getfield 23, 3) := by decide +kernel
theorem dX9_lookAboard_4 : decode cX9_lookAboard 4 = .ok (.iconst 1, 1) := by decide +kernel
theorem dX9_lookAboard_5 : decode cX9_lookAboard 5 = .ok (.iaload, 1) := by decide +kernel
theorem dX9_lookAboard_6 : decode cX9_lookAboard 6 = .ok (.aload_n 0, 1) := by decide +kernel
theorem dX9_lookAboard_7 : decode cX9_lookAboard 7 = .ok (.getfield 48, 3) := by decide +kernel
theorem dX9_lookAboard_10 : decode cX9_lookAboard 10 = .ok (.if_icmp .ne 6, 3) := by decide +kernel
theorem dX9_lookAboard_13 : decode cX9_lookAboard 13 = .ok (.bipush (-3), 2) := by decide +kernel
theorem dX9_lookAboard_15 : decode cX9_lookAboard 15 = .ok (.ireturn, 1) := by decide +kernel
theorem dX9_lookAboard_16 : decode cX9_lookAboard 16 = .ok (.aload_n 0, 1) := by decide +kernel
theorem dX9_lookAboard_17 : decode cX9_lookAboard 17 = .ok (.invokevirtual 132, 3) := by decide +kernel
theorem dX9_lookAboard_20 : decode cX9_lookAboard 20 = .ok (.aload_n 0, 1) := by decide +kernel
theorem dX9_lookAboard_21 : decode cX9_lookAboard 21 = .ok (.iconst 0, 1) := by decide +kernel
theorem dX9_lookAboard_22 : decode cX9_lookAboard 22 = .ok (.bipush 10, 2) := by decide +kernel
theorem dX9_lookAboard_24 : decode cX9_lookAboard 24 = .ok (.invokevirtual 135, 3) := by decide +kernel
theorem dX9_lookAboard_27 : decode cX9_lookAboard 27 = .ok (.pop2, 1) := by decide +kernel
theorem dX9_lookAboard_28 : decode cX9_lookAboard 28 = .ok (.aload_n 0, 1) := by decide +kernel
theorem dX9_lookAboard_29 : decode cX9_lookAboard 29 = .ok (.iconst 0, 1) := by decide +kernel
theorem dX9_lookAboard_30 : decode cX9_lookAboard 30 = .ok (.aload_n 0, 1) := by decide +kernel
theorem dX9_lookAboard_31 : decode cX9_lookAboard 31 = .ok (.getfield 23, 3) := by decide +kernel
theorem dX9_lookAboard_34 : decode cX9_lookAboard 34 = .ok (.iconst 1, 1) := by decide +kernel
theorem dX9_lookAboard_35 : decode cX9_lookAboard 35 = .ok (.iaload, 1) := by decide +kernel
theorem dX9_lookAboard_36 : decode cX9_lookAboard 36 = .ok (.invokevirtual 139, 3) := by decide +kernel
theorem dX9_lookAboard_39 : decode cX9_lookAboard 39 = .ok (.aload_n 0, 1) := by decide +kernel
theorem dX9_lookAboard_40 : decode cX9_lookAboard 40 = .ok (.getfield 23, 3) := by decide +kernel
theorem dX9_lookAboard_43 : decode cX9_lookAboard 43 = .ok (.iconst 1, 1) := by decide +kernel
theorem dX9_lookAboard_44 : decode cX9_lookAboard 44 = .ok (.dup2, 1) := by decide +kernel
theorem dX9_lookAboard_45 : decode cX9_lookAboard 45 = .ok (.iaload, 1) := by decide +kernel
theorem dX9_lookAboard_46 : decode cX9_lookAboard 46 = .ok (.iconst 1, 1) := by decide +kernel
theorem dX9_lookAboard_47 : decode cX9_lookAboard 47 = .ok (.iadd, 1) := by decide +kernel
theorem dX9_lookAboard_48 : decode cX9_lookAboard 48 = .ok (.iastore, 1) := by decide +kernel
theorem dX9_lookAboard_49 : decode cX9_lookAboard 49 = .ok (.aload_n 0, 1) := by decide +kernel
theorem dX9_lookAboard_50 : decode cX9_lookAboard 50 = .ok (.getfield 23, 3) := by decide +kernel
theorem dX9_lookAboard_53 : decode cX9_lookAboard 53 = .ok (.iconst 1, 1) := by decide +kernel
theorem dX9_lookAboard_54 : decode cX9_lookAboard 54 = .ok (.iaload, 1) := by decide +kernel
theorem dX9_lookAboard_55 : decode cX9_lookAboard 55 = .ok (.ireturn, 1) := by decide +kernel
set_option maxRecDepth 20000 in
theorem ggX9_isWitness_X9_in : GoodIn wsX9_isWitness wsX9_in := goodIn_r _ [5] (by decide +kernel) (by decide +kernel)
set_option maxRecDepth 20000 in
theorem gX9_isWitness_X9_in : GoodIn wsX9_isWitness (va_wsS RX9 54 yX9_in wsX9_in) := goodIn_app (goodIn_of _ (by decide +kernel)) ggX9_isWitness_X9_in
theorem dX9_isWitness_0 : decode cX9_isWitness 0 = .ok (.iload_n 0, 1) := by decide +kernel
theorem dX9_isWitness_1 : decode cX9_isWitness 1 = .ok (.i2l, 1) := by decide +kernel
theorem dX9_isWitness_2 : decode cX9_isWitness 2 = .ok (.lconst 0, 1) := by decide +kernel
theorem dX9_isWitness_3 : decode cX9_isWitness 3 = .ok (.ldc2_w 67, 3) := by decide +kernel
theorem dX9_isWitness_6 : decode cX9_isWitness 6 = .ok (.invokestatic 54, 3) := by decide +kernel
theorem dX9_isWitness_9 : decode cX9_isWitness 9 = .ok (.ifCond .eq 32, 3) := by decide +kernel
theorem dX9_isWitness_12 : decode cX9_isWitness 12 = .ok (.iload_n 1, 1) := by decide +kernel
theorem dX9_isWitness_13 : decode cX9_isWitness 13 = .ok (.i2l, 1) := by decide +kernel
theorem dX9_isWitness_14 : decode cX9_isWitness 14 = .ok (.iload_n 0, 1) := by decide +kernel
theorem dX9_isWitness_15 : decode cX9_isWitness 15 = .ok (.i2l, 1) := by decide +kernel
theorem dX9_isWitness_16 : decode cX9_isWitness 16 = .ok (.ldc2_w 67, 3) := by decide +kernel
theorem dX9_isWitness_19 : decode cX9_isWitness 19 = .ok (.invokestatic 54, 3) := by decide +kernel
theorem dX9_isWitness_22 : decode cX9_isWitness 22 = .ok (.ifCond .eq 19, 3) := by decide +kernel
theorem dX9_isWitness_25 : decode cX9_isWitness 25 = .ok (.iload_n 2, 1) := by decide +kernel
theorem dX9_isWitness_26 : decode cX9_isWitness 26 = .ok (.i2l, 1) := by decide +kernel
theorem dX9_isWitness_27 : decode cX9_isWitness 27 = .ok (.lconst 1, 1) := by decide +kernel
theorem dX9_isWitness_28 : decode cX9_isWitness 28 = .ok (.ldc2_w 67, 3) := by decide +kernel
theorem dX9_isWitness_31 : decode cX9_isWitness 31 = .ok (.invokestatic 54, 3) := by decide +kernel
theorem dX9_isWitness_34 : decode cX9_isWitness 34 = .ok (.ifCond .eq 7, 3) := by decide +kernel
theorem dX9_isWitness_37 : decode cX9_isWitness 37 = .ok (.iconst 1, 1) := by decide +kernel
theorem dX9_isWitness_38 : decode cX9_isWitness 38 = .ok (.goto 4, 3) := by decide +kernel
theorem dX9_isWitness_41 : decode cX9_isWitness 41 = .ok (.iconst 0, 1) := by decide +kernel
theorem dX9_isWitness_42 : decode cX9_isWitness 42 = .ok (.ireturn, 1) := by decide +kernel
set_option maxRecDepth 20000 in
theorem ggX9_hear_X9_isWitness : GoodIn wsX9_hear wsX9_isWitness := goodIn_r _ [7, 8, 9, 10, 6, 11] (by decide +kernel) (by decide +kernel)
set_option maxRecDepth 20000 in
theorem gX9_hear_X9_isWitness : GoodIn wsX9_hear (va_wsS RX9 143 yX9_isWitness wsX9_isWitness) := goodIn_app (goodIn_of _ (by decide +kernel)) ggX9_hear_X9_isWitness
set_option maxRecDepth 20000 in
theorem ggX9_hear_X9_keepAct : GoodIn wsX9_hear wsX9_keepAct := goodIn_r _ [15, 16, 17, 2, 18, 1, 19, 20, 21, 22, 23, 24, 25, 26, 27, 28, 29, 30, 31, 32, 33, 34, 35, 36, 37, 38, 39, 40, 41, 42, 43, 44, 45, 46, 47] (by decide +kernel) (by decide +kernel)
set_option maxRecDepth 20000 in
theorem gX9_hear_X9_keepAct : GoodIn wsX9_hear (wsV RX9 132 RX9 yX9_keepAct wsX9_keepAct) := goodIn_app (goodIn_of _ (by decide +kernel)) ggX9_hear_X9_keepAct
set_option maxRecDepth 20000 in
theorem ggX9_hear_X9_in : GoodIn wsX9_hear wsX9_in := goodIn_r _ [11] (by decide +kernel) (by decide +kernel)
set_option maxRecDepth 20000 in
theorem gX9_hear_X9_in : GoodIn wsX9_hear (va_wsS RX9 54 yX9_in wsX9_in) := goodIn_app (goodIn_of _ (by decide +kernel)) ggX9_hear_X9_in
theorem dX9_hear_0 : decode cX9_hear 0 = .ok (.iload_n 1, 1) := by decide +kernel
theorem dX9_hear_1 : decode cX9_hear 1 = .ok (.iload_n 2, 1) := by decide +kernel
theorem dX9_hear_2 : decode cX9_hear 2 = .ok (.iload_n 3, 1) := by decide +kernel
theorem dX9_hear_3 : decode cX9_hear 3 = .ok (.invokestatic 143, 3) := by decide +kernel
theorem dX9_hear_6 : decode cX9_hear 6 = .ok (.ifCond .ne 6, 3) := by decide +kernel
theorem dX9_hear_9 : decode cX9_hear 9 = .ok (.bipush (-2), 2) := by decide +kernel
theorem dX9_hear_11 : decode cX9_hear 11 = .ok (.ireturn, 1) := by decide +kernel
theorem dX9_hear_12 : decode cX9_hear 12 = .ok (.aload_n 0, 1) := by decide +kernel
theorem dX9_hear_13 : decode cX9_hear 13 = .ok (.getfield 23, 3) := by decide +kernel
theorem dX9_hear_16 : decode cX9_hear 16 = .ok (.iconst 1, 1) := by decide +kernel
theorem dX9_hear_17 : decode cX9_hear 17 = .ok (.iaload, 1) := by decide +kernel
theorem dX9_hear_18 : decode cX9_hear 18 = .ok (.ifCond .le 6, 3) := by decide +kernel
theorem dX9_hear_21 : decode cX9_hear 21 = .ok (.bipush (-3), 2) := by decide +kernel
theorem dX9_hear_23 : decode cX9_hear 23 = .ok (.ireturn, 1) := by decide +kernel
theorem dX9_hear_24 : decode cX9_hear 24 = .ok (.aload_n 0, 1) := by decide +kernel
theorem dX9_hear_25 : decode cX9_hear 25 = .ok (.getfield 23, 3) := by decide +kernel
theorem dX9_hear_28 : decode cX9_hear 28 = .ok (.iconst 2, 1) := by decide +kernel
theorem dX9_hear_29 : decode cX9_hear 29 = .ok (.iaload, 1) := by decide +kernel
theorem dX9_hear_30 : decode cX9_hear 30 = .ok (.iconst 2, 1) := by decide +kernel
theorem dX9_hear_31 : decode cX9_hear 31 = .ok (.if_icmp .ne 6, 3) := by decide +kernel
theorem dX9_hear_34 : decode cX9_hear 34 = .ok (.bipush (-4), 2) := by decide +kernel
theorem dX9_hear_36 : decode cX9_hear 36 = .ok (.ireturn, 1) := by decide +kernel
theorem dX9_hear_37 : decode cX9_hear 37 = .ok (.aload_n 0, 1) := by decide +kernel
theorem dX9_hear_38 : decode cX9_hear 38 = .ok (.invokevirtual 132, 3) := by decide +kernel
theorem dX9_hear_41 : decode cX9_hear 41 = .ok (.iconst 0, 1) := by decide +kernel
theorem dX9_hear_42 : decode cX9_hear 42 = .ok (.istore 4, 2) := by decide +kernel
theorem dX9_hear_44 : decode cX9_hear 44 = .ok (.iload 4, 2) := by decide +kernel
theorem dX9_hear_46 : decode cX9_hear 46 = .ok (.bipush 10, 2) := by decide +kernel
theorem dX9_hear_48 : decode cX9_hear 48 = .ok (.if_icmp .ge 42, 3) := by decide +kernel
theorem dX9_hear_51 : decode cX9_hear 51 = .ok (.aload_n 0, 1) := by decide +kernel
theorem dX9_hear_52 : decode cX9_hear 52 = .ok (.getfield 19, 3) := by decide +kernel
theorem dX9_hear_55 : decode cX9_hear 55 = .ok (.iload 4, 2) := by decide +kernel
theorem dX9_hear_57 : decode cX9_hear 57 = .ok (.dup2, 1) := by decide +kernel
theorem dX9_hear_58 : decode cX9_hear 58 = .ok (.laload, 1) := by decide +kernel
theorem dX9_hear_59 : decode cX9_hear 59 = .ok (.iload 4, 2) := by decide +kernel
theorem dX9_hear_61 : decode cX9_hear 61 = .ok (.i2l, 1) := by decide +kernel
theorem dX9_hear_62 : decode cX9_hear 62 = .ok (.iload_n 1, 1) := by decide +kernel
theorem dX9_hear_63 : decode cX9_hear 63 = .ok (.i2l, 1) := by decide +kernel
theorem dX9_hear_64 : decode cX9_hear 64 = .ok (.iload_n 2, 1) := by decide +kernel
theorem dX9_hear_65 : decode cX9_hear 65 = .ok (.i2l, 1) := by decide +kernel
theorem dX9_hear_66 : decode cX9_hear 66 = .ok (.invokestatic 54, 3) := by decide +kernel
theorem dX9_hear_69 : decode cX9_hear 69 = .ok (.ifCond .eq 8, 3) := by decide +kernel
theorem dX9_hear_72 : decode cX9_hear 72 = .ok (.iload_n 3, 1) := by decide +kernel
theorem dX9_hear_73 : decode cX9_hear 73 = .ok (.i2l, 1) := by decide +kernel
theorem dX9_hear_74 : decode cX9_hear 74 = .ok (.goto 8, 3) := by decide +kernel
theorem dX9_hear_77 : decode cX9_hear 77 = .ok (.bipush 10, 2) := by decide +kernel
theorem dX9_hear_79 : decode cX9_hear 79 = .ok (.iload_n 3, 1) := by decide +kernel
theorem dX9_hear_80 : decode cX9_hear 80 = .ok (.isub, 1) := by decide +kernel
theorem dX9_hear_81 : decode cX9_hear 81 = .ok (.i2l, 1) := by decide +kernel
theorem dX9_hear_82 : decode cX9_hear 82 = .ok (.lmul, 1) := by decide +kernel
theorem dX9_hear_83 : decode cX9_hear 83 = .ok (.lastore, 1) := by decide +kernel
theorem dX9_hear_84 : decode cX9_hear 84 = .ok (.iinc 4 1, 3) := by decide +kernel
theorem dX9_hear_87 : decode cX9_hear 87 = .ok (.goto (-43), 3) := by decide +kernel
theorem dX9_hear_90 : decode cX9_hear 90 = .ok (.aload_n 0, 1) := by decide +kernel
theorem dX9_hear_91 : decode cX9_hear 91 = .ok (.getfield 19, 3) := by decide +kernel
theorem dX9_hear_94 : decode cX9_hear 94 = .ok (.bipush 10, 2) := by decide +kernel
theorem dX9_hear_96 : decode cX9_hear 96 = .ok (.dup2, 1) := by decide +kernel
theorem dX9_hear_97 : decode cX9_hear 97 = .ok (.laload, 1) := by decide +kernel
theorem dX9_hear_98 : decode cX9_hear 98 = .ok (.ldc2_w 147, 3) := by decide +kernel
theorem dX9_hear_101 : decode cX9_hear 101 = .ok (.lmul, 1) := by decide +kernel
theorem dX9_hear_102 : decode cX9_hear 102 = .ok (.lastore, 1) := by decide +kernel
theorem dX9_hear_103 : decode cX9_hear 103 = .ok (.iconst 3, 1) := by decide +kernel
theorem dX9_hear_104 : decode cX9_hear 104 = .ok (.iconst 3, 1) := by decide +kernel
theorem dX9_hear_105 : decode cX9_hear 105 = .ok (.aload_n 0, 1) := by decide +kernel
theorem dX9_hear_106 : decode cX9_hear 106 = .ok (.getfield 23, 3) := by decide +kernel
theorem dX9_hear_109 : decode cX9_hear 109 = .ok (.iconst 2, 1) := by decide +kernel
theorem dX9_hear_110 : decode cX9_hear 110 = .ok (.iaload, 1) := by decide +kernel
theorem dX9_hear_111 : decode cX9_hear 111 = .ok (.imul, 1) := by decide +kernel
theorem dX9_hear_112 : decode cX9_hear 112 = .ok (.iadd, 1) := by decide +kernel
theorem dX9_hear_113 : decode cX9_hear 113 = .ok (.istore 4, 2) := by decide +kernel
theorem dX9_hear_115 : decode cX9_hear 115 = .ok (.aload_n 0, 1) := by decide +kernel
theorem dX9_hear_116 : decode cX9_hear 116 = .ok (.getfield 23, 3) := by decide +kernel
theorem dX9_hear_119 : decode cX9_hear 119 = .ok (.iload 4, 2) := by decide +kernel
theorem dX9_hear_121 : decode cX9_hear 121 = .ok (.iload_n 1, 1) := by decide +kernel
theorem dX9_hear_122 : decode cX9_hear 122 = .ok (.iastore, 1) := by decide +kernel
theorem dX9_hear_123 : decode cX9_hear 123 = .ok (.aload_n 0, 1) := by decide +kernel
theorem dX9_hear_124 : decode cX9_hear 124 = .ok (.getfield 23, 3) := by decide +kernel
theorem dX9_hear_127 : decode cX9_hear 127 = .ok (.iload 4, 2) := by decide +kernel
theorem dX9_hear_129 : decode cX9_hear 129 = .ok (.iconst 1, 1) := by decide +kernel
theorem dX9_hear_130 : decode cX9_hear 130 = .ok (.iadd, 1) := by decide +kernel
theorem dX9_hear_131 : decode cX9_hear 131 = .ok (.iload_n 2, 1) := by decide +kernel
theorem dX9_hear_132 : decode cX9_hear 132 = .ok (.iastore, 1) := by decide +kernel
theorem dX9_hear_133 : decode cX9_hear 133 = .ok (.aload_n 0, 1) := by decide +kernel
theorem dX9_hear_134 : decode cX9_hear 134 = .ok (.getfield 23, 3) := by decide +kernel
theorem dX9_hear_137 : decode cX9_hear 137 = .ok (.iload 4, 2) := by decide +kernel
theorem dX9_hear_139 : decode cX9_hear 139 = .ok (.iconst 2, 1) := by decide +kernel
theorem dX9_hear_140 : decode cX9_hear 140 = .ok (.iadd, 1) := by decide +kernel
theorem dX9_hear_141 : decode cX9_hear 141 = .ok (.iload_n 3, 1) := by decide +kernel
theorem dX9_hear_142 : decode cX9_hear 142 = .ok (.iastore, 1) := by decide +kernel
theorem dX9_hear_143 : decode cX9_hear 143 = .ok (.aload_n 0, 1) := by decide +kernel
theorem dX9_hear_144 : decode cX9_hear 144 = .ok (.getfield 23, 3) := by decide +kernel
theorem dX9_hear_147 : decode cX9_hear 147 = .ok (.iconst 2, 1) := by decide +kernel
theorem dX9_hear_148 : decode cX9_hear 148 = .ok (.dup2, 1) := by decide +kernel
theorem dX9_hear_149 : decode cX9_hear 149 = .ok (.iaload, 1) := by decide +kernel
theorem dX9_hear_150 : decode cX9_hear 150 = .ok (.iconst 1, 1) := by decide +kernel
theorem dX9_hear_151 : decode cX9_hear 151 = .ok (.iadd, 1) := by decide +kernel
theorem dX9_hear_152 : decode cX9_hear 152 = .ok (.iastore, 1) := by decide +kernel
theorem dX9_hear_153 : decode cX9_hear 153 = .ok (.aload_n 0, 1) := by decide +kernel
theorem dX9_hear_154 : decode cX9_hear 154 = .ok (.getfield 23, 3) := by decide +kernel
theorem dX9_hear_157 : decode cX9_hear 157 = .ok (.iconst 2, 1) := by decide +kernel
theorem dX9_hear_158 : decode cX9_hear 158 = .ok (.iaload, 1) := by decide +kernel
theorem dX9_hear_159 : decode cX9_hear 159 = .ok (.ireturn, 1) := by decide +kernel
theorem dX9_undo_0 : decode cX9_undo 0 = .ok (.aload_n 0, 1) := by decide +kernel
theorem dX9_undo_1 : decode cX9_undo 1 = .ok (.getfield 119, 3) := by decide +kernel
theorem dX9_undo_4 : decode cX9_undo 4 = .ok (.ifCond .ne 6, 3) := by decide +kernel
theorem dX9_undo_7 : decode cX9_undo 7 = .ok (.bipush (-3), 2) := by decide +kernel
theorem dX9_undo_9 : decode cX9_undo 9 = .ok (.ireturn, 1) := by decide +kernel
theorem dX9_undo_10 : decode cX9_undo 10 = .ok (.aload_n 0, 1) := by decide +kernel
theorem dX9_undo_11 : decode cX9_undo 11 = .ok (.dup, 1) := by decide +kernel
theorem dX9_undo_12 : decode cX9_undo 12 = .ok (.getfield 119, 3) := by decide +kernel
theorem dX9_undo_15 : decode cX9_undo 15 = .ok (.iconst 1, 1) := by decide +kernel
theorem dX9_undo_16 : decode cX9_undo 16 = .ok (.isub, 1) := by decide +kernel
theorem dX9_undo_17 : decode cX9_undo 17 = .ok (.putfield 119, 3) := by decide +kernel
theorem dX9_undo_20 : decode cX9_undo 20 = .ok (.iconst 0, 1) := by decide +kernel
theorem dX9_undo_21 : decode cX9_undo 21 = .ok (.istore_n 1, 1) := by decide +kernel
theorem dX9_undo_22 : decode cX9_undo 22 = .ok (.iload_n 1, 1) := by decide +kernel
theorem dX9_undo_23 : decode cX9_undo 23 = .ok (.bipush 11, 2) := by decide +kernel
theorem dX9_undo_25 : decode cX9_undo 25 = .ok (.if_icmp .ge 29, 3) := by decide +kernel
theorem dX9_undo_28 : decode cX9_undo 28 = .ok (.aload_n 0, 1) := by decide +kernel
theorem dX9_undo_29 : decode cX9_undo 29 = .ok (.getfield 19, 3) := by decide +kernel
theorem dX9_undo_32 : decode cX9_undo 32 = .ok (.iload_n 1, 1) := by decide +kernel
theorem dX9_undo_33 : decode cX9_undo 33 = .ok (.aload_n 0, 1) := by decide +kernel
theorem dX9_undo_34 : decode cX9_undo 34 = .ok (.getfield 32, 3) := by decide +kernel
theorem dX9_undo_37 : decode cX9_undo 37 = .ok (.bipush 11, 2) := by decide +kernel
theorem dX9_undo_39 : decode cX9_undo 39 = .ok (.aload_n 0, 1) := by decide +kernel
theorem dX9_undo_40 : decode cX9_undo 40 = .ok (.getfield 119, 3) := by decide +kernel
theorem dX9_undo_43 : decode cX9_undo 43 = .ok (.imul, 1) := by decide +kernel
theorem dX9_undo_44 : decode cX9_undo 44 = .ok (.iload_n 1, 1) := by decide +kernel
theorem dX9_undo_45 : decode cX9_undo 45 = .ok (.iadd, 1) := by decide +kernel
theorem dX9_undo_46 : decode cX9_undo 46 = .ok (.laload, 1) := by decide +kernel
theorem dX9_undo_47 : decode cX9_undo 47 = .ok (.lastore, 1) := by decide +kernel
theorem dX9_undo_48 : decode cX9_undo 48 = .ok (.iinc 1 1, 3) := by decide +kernel
theorem dX9_undo_51 : decode cX9_undo 51 = .ok (.goto (-29), 3) := by decide +kernel
theorem dX9_undo_54 : decode cX9_undo 54 = .ok (.iconst 0, 1) := by decide +kernel
theorem dX9_undo_55 : decode cX9_undo 55 = .ok (.istore_n 1, 1) := by decide +kernel
theorem dX9_undo_56 : decode cX9_undo 56 = .ok (.iload_n 1, 1) := by decide +kernel
theorem dX9_undo_57 : decode cX9_undo 57 = .ok (.bipush 9, 2) := by decide +kernel
theorem dX9_undo_59 : decode cX9_undo 59 = .ok (.if_icmp .ge 29, 3) := by decide +kernel
theorem dX9_undo_62 : decode cX9_undo 62 = .ok (.aload_n 0, 1) := by decide +kernel
theorem dX9_undo_63 : decode cX9_undo 63 = .ok (.getfield 23, 3) := by decide +kernel
theorem dX9_undo_66 : decode cX9_undo 66 = .ok (.iload_n 1, 1) := by decide +kernel
theorem dX9_undo_67 : decode cX9_undo 67 = .ok (.aload_n 0, 1) := by decide +kernel
theorem dX9_undo_68 : decode cX9_undo 68 = .ok (.getfield 35, 3) := by decide +kernel
theorem dX9_undo_71 : decode cX9_undo 71 = .ok (.bipush 9, 2) := by decide +kernel
theorem dX9_undo_73 : decode cX9_undo 73 = .ok (.aload_n 0, 1) := by decide +kernel
theorem dX9_undo_74 : decode cX9_undo 74 = .ok (.getfield 119, 3) := by decide +kernel
theorem dX9_undo_77 : decode cX9_undo 77 = .ok (.imul, 1) := by decide +kernel
theorem dX9_undo_78 : decode cX9_undo 78 = .ok (.iload_n 1, 1) := by decide +kernel
theorem dX9_undo_79 : decode cX9_undo 79 = .ok (.iadd, 1) := by decide +kernel
theorem dX9_undo_80 : decode cX9_undo 80 = .ok (.iaload, 1) := by decide +kernel
theorem dX9_undo_81 : decode cX9_undo 81 = .ok (.iastore, 1) := by decide +kernel
theorem dX9_undo_82 : decode cX9_undo 82 = .ok (.iinc 1 1, 3) := by decide +kernel
theorem dX9_undo_85 : decode cX9_undo 85 = .ok (.goto (-29), 3) := by decide +kernel
theorem dX9_undo_88 : decode cX9_undo 88 = .ok (.aload_n 0, 1) := by decide +kernel
theorem dX9_undo_89 : decode cX9_undo 89 = .ok (.getfield 119, 3) := by decide +kernel
theorem dX9_undo_92 : decode cX9_undo 92 = .ok (.ireturn, 1) := by decide +kernel
set_option maxRecDepth 20000 in
theorem ggX9_weight_X9_in : GoodIn wsX9_weight wsX9_in := goodIn_r _ [7] (by decide +kernel) (by decide +kernel)
set_option maxRecDepth 20000 in
theorem gX9_weight_X9_in : GoodIn wsX9_weight (va_wsS RX9 54 yX9_in wsX9_in) := goodIn_app (goodIn_of _ (by decide +kernel)) ggX9_weight_X9_in
theorem dX9_weight_0 : decode cX9_weight 0 = .ok (.iload_n 1, 1) := by decide +kernel
theorem dX9_weight_1 : decode cX9_weight 1 = .ok (.i2l, 1) := by decide +kernel
theorem dX9_weight_2 : decode cX9_weight 2 = .ok (.lconst 0, 1) := by decide +kernel
theorem dX9_weight_3 : decode cX9_weight 3 = .ok (.ldc2_w 128, 3) := by decide +kernel
theorem dX9_weight_6 : decode cX9_weight 6 = .ok (.invokestatic 54, 3) := by decide +kernel
theorem dX9_weight_9 : decode cX9_weight 9 = .ok (.ifCond .eq 12, 3) := by decide +kernel
theorem dX9_weight_12 : decode cX9_weight 12 = .ok (.aload_n 0, 1) := by decide +kernel
theorem dX9_weight_13 : decode cX9_weight 13 = .ok (.getfield 19, 3) := by decide +kernel
theorem dX9_weight_16 : decode cX9_weight 16 = .ok (.iload_n 1, 1) := by decide +kernel
theorem dX9_weight_17 : decode cX9_weight 17 = .ok (.laload, 1) := by decide +kernel
theorem dX9_weight_18 : decode cX9_weight 18 = .ok (.goto 6, 3) := by decide +kernel
theorem dX9_weight_21 : decode cX9_weight 21 = .ok (.ldc2_w 149, 3) := by decide +kernel
theorem dX9_weight_24 : decode cX9_weight 24 = .ok (.lreturn, 1) := by decide +kernel
theorem dX9_common_0 : decode cX9_common 0 = .ok (.lload_n 0, 1) := by decide +kernel
theorem dX9_common_1 : decode cX9_common 1 = .ok (.lconst 0, 1) := by decide +kernel
theorem dX9_common_2 : decode cX9_common 2 = .ok (.lcmp, 1) := by decide +kernel
theorem dX9_common_3 : decode cX9_common 3 = .ok (.ifCond .ge 8, 3) := by decide +kernel
theorem dX9_common_6 : decode cX9_common 6 = .ok (.lload_n 0, 1) := by decide +kernel
theorem dX9_common_7 : decode cX9_common 7 = .ok (.lneg, 1) := by decide +kernel
theorem dX9_common_8 : decode cX9_common 8 = .ok (.goto 4, 3) := by decide +kernel
theorem dX9_common_11 : decode cX9_common 11 = .ok (.lload_n 0, 1) := by decide +kernel
theorem dX9_common_12 : decode cX9_common 12 = .ok (.lstore 4, 2) := by decide +kernel
theorem dX9_common_14 : decode cX9_common 14 = .ok (.lload_n 2, 1) := by decide +kernel
theorem dX9_common_15 : decode cX9_common 15 = .ok (.lstore 6, 2) := by decide +kernel
theorem dX9_common_17 : decode cX9_common 17 = .ok (.lload 6, 2) := by decide +kernel
theorem dX9_common_19 : decode cX9_common 19 = .ok (.lconst 0, 1) := by decide +kernel
theorem dX9_common_20 : decode cX9_common 20 = .ok (.lcmp, 1) := by decide +kernel
theorem dX9_common_21 : decode cX9_common 21 = .ok (.ifCond .eq 21, 3) := by decide +kernel
theorem dX9_common_24 : decode cX9_common 24 = .ok (.lload 4, 2) := by decide +kernel
theorem dX9_common_26 : decode cX9_common 26 = .ok (.lload 6, 2) := by decide +kernel
theorem dX9_common_28 : decode cX9_common 28 = .ok (.lrem, 1) := by decide +kernel
theorem dX9_common_29 : decode cX9_common 29 = .ok (.lstore 8, 2) := by decide +kernel
theorem dX9_common_31 : decode cX9_common 31 = .ok (.lload 6, 2) := by decide +kernel
theorem dX9_common_33 : decode cX9_common 33 = .ok (.lstore 4, 2) := by decide +kernel
theorem dX9_common_35 : decode cX9_common 35 = .ok (.lload 8, 2) := by decide +kernel
theorem dX9_common_37 : decode cX9_common 37 = .ok (.lstore 6, 2) := by decide +kernel
theorem dX9_common_39 : decode cX9_common 39 = .ok (.goto (-22), 3) := by decide +kernel
theorem dX9_common_42 : decode cX9_common 42 = .ok (.lload 4, 2) := by decide +kernel
theorem dX9_common_44 : decode cX9_common 44 = .ok (.lreturn, 1) := by decide +kernel
set_option maxRecDepth 20000 in
theorem ggX9_likely_X9_in : GoodIn wsX9_likely wsX9_in := goodIn_r _ [8] (by decide +kernel) (by decide +kernel)
set_option maxRecDepth 20000 in
theorem gX9_likely_X9_in : GoodIn wsX9_likely (va_wsS RX9 54 yX9_in wsX9_in) := goodIn_app (goodIn_of _ (by decide +kernel)) ggX9_likely_X9_in
set_option maxRecDepth 20000 in
theorem ggX9_likely_X9_sumOf : GoodIn wsX9_likely wsX9_sumOf := goodIn_r _ [12, 4, 16, 17, 18, 19, 20, 21, 22, 23, 24, 25, 26, 27, 28, 29, 30, 31, 32, 33, 34, 35, 36, 37, 38, 39, 40, 41, 42, 43, 44] (by decide +kernel) (by decide +kernel)
set_option maxRecDepth 20000 in
theorem gX9_likely_X9_sumOf : GoodIn wsX9_likely (wsV RX9 151 RX9 yX9_sumOf wsX9_sumOf) := goodIn_app (goodIn_of _ (by decide +kernel)) ggX9_likely_X9_sumOf
set_option maxRecDepth 20000 in
theorem ggX9_likely_X9_common : GoodIn wsX9_likely wsX9_common := goodIn_r _ [15] (by decide +kernel) (by decide +kernel)
set_option maxRecDepth 20000 in
theorem gX9_likely_X9_common : GoodIn wsX9_likely (va_wsS RX9 157 yX9_common wsX9_common) := goodIn_app (goodIn_of _ (by decide +kernel)) ggX9_likely_X9_common
theorem dX9_likely_0 : decode cX9_likely 0 = .ok (.iload_n 1, 1) := by decide +kernel
theorem dX9_likely_1 : decode cX9_likely 1 = .ok (.i2l, 1) := by decide +kernel
theorem dX9_likely_2 : decode cX9_likely 2 = .ok (.lconst 0, 1) := by decide +kernel
theorem dX9_likely_3 : decode cX9_likely 3 = .ok (.ldc2_w 128, 3) := by decide +kernel
theorem dX9_likely_6 : decode cX9_likely 6 = .ok (.invokestatic 54, 3) := by decide +kernel
theorem dX9_likely_9 : decode cX9_likely 9 = .ok (.ifCond .ne 7, 3) := by decide +kernel
theorem dX9_likely_12 : decode cX9_likely 12 = .ok (.ldc2_w 149, 3) := by decide +kernel
theorem dX9_likely_15 : decode cX9_likely 15 = .ok (.lreturn, 1) := by decide +kernel
theorem dX9_likely_16 : decode cX9_likely 16 = .ok (.aload_n 0, 1) := by decide +kernel
theorem dX9_likely_17 : decode cX9_likely 17 = .ok (.iconst 0, 1) := by decide +kernel
theorem dX9_likely_18 : decode cX9_likely 18 = .ok (.invokevirtual 151, 3) := by decide +kernel
theorem dX9_likely_21 : decode cX9_likely 21 = .ok (.lstore_n 3, 1) := by decide +kernel
theorem dX9_likely_22 : decode cX9_likely 22 = .ok (.lload_n 3, 1) := by decide +kernel
theorem dX9_likely_23 : decode cX9_likely 23 = .ok (.lconst 0, 1) := by decide +kernel
theorem dX9_likely_24 : decode cX9_likely 24 = .ok (.lcmp, 1) := by decide +kernel
theorem dX9_likely_25 : decode cX9_likely 25 = .ok (.ifCond .ne 7, 3) := by decide +kernel
theorem dX9_likely_28 : decode cX9_likely 28 = .ok (.ldc2_w 155, 3) := by decide +kernel
theorem dX9_likely_31 : decode cX9_likely 31 = .ok (.lreturn, 1) := by decide +kernel
theorem dX9_likely_32 : decode cX9_likely 32 = .ok (.aload_n 0, 1) := by decide +kernel
theorem dX9_likely_33 : decode cX9_likely 33 = .ok (.getfield 19, 3) := by decide +kernel
theorem dX9_likely_36 : decode cX9_likely 36 = .ok (.iload_n 1, 1) := by decide +kernel
theorem dX9_likely_37 : decode cX9_likely 37 = .ok (.laload, 1) := by decide +kernel
theorem dX9_likely_38 : decode cX9_likely 38 = .ok (.lload_n 3, 1) := by decide +kernel
theorem dX9_likely_39 : decode cX9_likely 39 = .ok (.invokestatic 157, 3) := by decide +kernel
theorem dX9_likely_42 : decode cX9_likely 42 = .ok (.lstore 5, 2) := by decide +kernel
theorem dX9_likely_44 : decode cX9_likely 44 = .ok (.iload_n 2, 1) := by decide +kernel
theorem dX9_likely_45 : decode cX9_likely 45 = .ok (.ifCond .eq 15, 3) := by decide +kernel
theorem dX9_likely_48 : decode cX9_likely 48 = .ok (.aload_n 0, 1) := by decide +kernel
theorem dX9_likely_49 : decode cX9_likely 49 = .ok (.getfield 19, 3) := by decide +kernel
theorem dX9_likely_52 : decode cX9_likely 52 = .ok (.iload_n 1, 1) := by decide +kernel
theorem dX9_likely_53 : decode cX9_likely 53 = .ok (.laload, 1) := by decide +kernel
theorem dX9_likely_54 : decode cX9_likely 54 = .ok (.lload 5, 2) := by decide +kernel
theorem dX9_likely_56 : decode cX9_likely 56 = .ok (.ldiv, 1) := by decide +kernel
theorem dX9_likely_57 : decode cX9_likely 57 = .ok (.goto 7, 3) := by decide +kernel
theorem dX9_likely_60 : decode cX9_likely 60 = .ok (.lload_n 3, 1) := by decide +kernel
theorem dX9_likely_61 : decode cX9_likely 61 = .ok (.lload 5, 2) := by decide +kernel
theorem dX9_likely_63 : decode cX9_likely 63 = .ok (.ldiv, 1) := by decide +kernel
theorem dX9_likely_64 : decode cX9_likely 64 = .ok (.lreturn, 1) := by decide +kernel
theorem dX9_likeliest_0 : decode cX9_likeliest 0 = .ok (.iconst 0, 1) := by decide +kernel
theorem dX9_likeliest_1 : decode cX9_likeliest 1 = .ok (.istore_n 1, 1) := by decide +kernel
theorem dX9_likeliest_2 : decode cX9_likeliest 2 = .ok (.iconst 1, 1) := by decide +kernel
theorem dX9_likeliest_3 : decode cX9_likeliest 3 = .ok (.istore_n 2, 1) := by decide +kernel
theorem dX9_likeliest_4 : decode cX9_likeliest 4 = .ok (.iload_n 2, 1) := by decide +kernel
theorem dX9_likeliest_5 : decode cX9_likeliest 5 = .ok (.bipush 11, 2) := by decide +kernel
theorem dX9_likeliest_7 : decode cX9_likeliest 7 = .ok (.if_icmp .ge 31, 3) := by decide +kernel
theorem dX9_likeliest_10 : decode cX9_likeliest 10 = .ok (.aload_n 0, 1) := by decide +kernel
theorem dX9_likeliest_11 : decode cX9_likeliest 11 = .ok (.getfield 19, 3) := by decide +kernel
theorem dX9_likeliest_14 : decode cX9_likeliest 14 = .ok (.iload_n 2, 1) := by decide +kernel
theorem dX9_likeliest_15 : decode cX9_likeliest 15 = .ok (.laload, 1) := by decide +kernel
theorem dX9_likeliest_16 : decode cX9_likeliest 16 = .ok (.aload_n 0, 1) := by decide +kernel
theorem dX9_likeliest_17 : decode cX9_likeliest 17 = .ok (.getfield 19, 3) := by decide +kernel
theorem dX9_likeliest_20 : decode cX9_likeliest 20 = .ok (.iload_n 1, 1) := by decide +kernel
theorem dX9_likeliest_21 : decode cX9_likeliest 21 = .ok (.laload, 1) := by decide +kernel
theorem dX9_likeliest_22 : decode cX9_likeliest 22 = .ok (.lcmp, 1) := by decide +kernel
theorem dX9_likeliest_23 : decode cX9_likeliest 23 = .ok (.ifCond .le 7, 3) := by decide +kernel
theorem dX9_likeliest_26 : decode cX9_likeliest 26 = .ok (.iload_n 2, 1) := by decide +kernel
theorem dX9_likeliest_27 : decode cX9_likeliest 27 = .ok (.goto 4, 3) := by decide +kernel
theorem dX9_likeliest_30 : decode cX9_likeliest 30 = .ok (.iload_n 1, 1) := by decide +kernel
theorem dX9_likeliest_31 : decode cX9_likeliest 31 = .ok (.istore_n 1, 1) := by decide +kernel
theorem dX9_likeliest_32 : decode cX9_likeliest 32 = .ok (.iinc 2 1, 3) := by decide +kernel
theorem dX9_likeliest_35 : decode cX9_likeliest 35 = .ok (.goto (-31), 3) := by decide +kernel
theorem dX9_likeliest_38 : decode cX9_likeliest 38 = .ok (.aload_n 0, 1) := by decide +kernel
theorem dX9_likeliest_39 : decode cX9_likeliest 39 = .ok (.getfield 19, 3) := by decide +kernel
theorem dX9_likeliest_42 : decode cX9_likeliest 42 = .ok (.iload_n 1, 1) := by decide +kernel
theorem dX9_likeliest_43 : decode cX9_likeliest 43 = .ok (.laload, 1) := by decide +kernel
theorem dX9_likeliest_44 : decode cX9_likeliest 44 = .ok (.lconst 0, 1) := by decide +kernel
theorem dX9_likeliest_45 : decode cX9_likeliest 45 = .ok (.lcmp, 1) := by decide +kernel
theorem dX9_likeliest_46 : decode cX9_likeliest 46 = .ok (.ifCond .ne 8, 3) := by decide +kernel
theorem dX9_likeliest_49 : decode cX9_likeliest 49 = .ok (.bipush (-9), 2) := by decide +kernel
theorem dX9_likeliest_51 : decode cX9_likeliest 51 = .ok (.goto 4, 3) := by decide +kernel
theorem dX9_likeliest_54 : decode cX9_likeliest 54 = .ok (.iload_n 1, 1) := by decide +kernel
theorem dX9_likeliest_55 : decode cX9_likeliest 55 = .ok (.ireturn, 1) := by decide +kernel
theorem dX9_tenTo_0 : decode cX9_tenTo 0 = .ok (.iconst 1, 1) := by decide +kernel
theorem dX9_tenTo_1 : decode cX9_tenTo 1 = .ok (.istore_n 1, 1) := by decide +kernel
theorem dX9_tenTo_2 : decode cX9_tenTo 2 = .ok (.iconst 0, 1) := by decide +kernel
theorem dX9_tenTo_3 : decode cX9_tenTo 3 = .ok (.istore_n 2, 1) := by decide +kernel
theorem dX9_tenTo_4 : decode cX9_tenTo 4 = .ok (.iload_n 2, 1) := by decide +kernel
theorem dX9_tenTo_5 : decode cX9_tenTo 5 = .ok (.iload_n 0, 1) := by decide +kernel
theorem dX9_tenTo_6 : decode cX9_tenTo 6 = .ok (.if_icmp .ge 14, 3) := by decide +kernel
theorem dX9_tenTo_9 : decode cX9_tenTo 9 = .ok (.iload_n 1, 1) := by decide +kernel
theorem dX9_tenTo_10 : decode cX9_tenTo 10 = .ok (.bipush 10, 2) := by decide +kernel
theorem dX9_tenTo_12 : decode cX9_tenTo 12 = .ok (.imul, 1) := by decide +kernel
theorem dX9_tenTo_13 : decode cX9_tenTo 13 = .ok (.istore_n 1, 1) := by decide +kernel
theorem dX9_tenTo_14 : decode cX9_tenTo 14 = .ok (.iinc 2 1, 3) := by decide +kernel
theorem dX9_tenTo_17 : decode cX9_tenTo 17 = .ok (.goto (-13), 3) := by decide +kernel
theorem dX9_tenTo_20 : decode cX9_tenTo 20 = .ok (.iload_n 1, 1) := by decide +kernel
theorem dX9_tenTo_21 : decode cX9_tenTo 21 = .ok (.ireturn, 1) := by decide +kernel
set_option maxRecDepth 20000 in
theorem ggX9_isRow_X9_in : GoodIn wsX9_isRow wsX9_in := goodIn_r _ [5] (by decide +kernel) (by decide +kernel)
set_option maxRecDepth 20000 in
theorem gX9_isRow_X9_in : GoodIn wsX9_isRow (va_wsS RX9 54 yX9_in wsX9_in) := goodIn_app (goodIn_of _ (by decide +kernel)) ggX9_isRow_X9_in
set_option maxRecDepth 20000 in
theorem ggX9_isRow_X9_tenTo : GoodIn wsX9_isRow wsX9_tenTo := goodIn_r _ [8] (by decide +kernel) (by decide +kernel)
set_option maxRecDepth 20000 in
theorem gX9_isRow_X9_tenTo : GoodIn wsX9_isRow (va_wsS RX9 163 yX9_tenTo wsX9_tenTo) := goodIn_app (goodIn_of _ (by decide +kernel)) ggX9_isRow_X9_tenTo
theorem dX9_isRow_0 : decode cX9_isRow 0 = .ok (.iload_n 0, 1) := by decide +kernel
theorem dX9_isRow_1 : decode cX9_isRow 1 = .ok (.i2l, 1) := by decide +kernel
theorem dX9_isRow_2 : decode cX9_isRow 2 = .ok (.lconst 1, 1) := by decide +kernel
theorem dX9_isRow_3 : decode cX9_isRow 3 = .ok (.ldc2_w 161, 3) := by decide +kernel
theorem dX9_isRow_6 : decode cX9_isRow 6 = .ok (.invokestatic 54, 3) := by decide +kernel
theorem dX9_isRow_9 : decode cX9_isRow 9 = .ok (.ifCond .eq 23, 3) := by decide +kernel
theorem dX9_isRow_12 : decode cX9_isRow 12 = .ok (.iload_n 1, 1) := by decide +kernel
theorem dX9_isRow_13 : decode cX9_isRow 13 = .ok (.i2l, 1) := by decide +kernel
theorem dX9_isRow_14 : decode cX9_isRow 14 = .ok (.lconst 0, 1) := by decide +kernel
theorem dX9_isRow_15 : decode cX9_isRow 15 = .ok (.iload_n 0, 1) := by decide +kernel
theorem dX9_isRow_16 : decode cX9_isRow 16 = .ok (.invokestatic 163, 3) := by decide +kernel
theorem dX9_isRow_19 : decode cX9_isRow 19 = .ok (.iconst 1, 1) := by decide +kernel
theorem dX9_isRow_20 : decode cX9_isRow 20 = .ok (.isub, 1) := by decide +kernel
theorem dX9_isRow_21 : decode cX9_isRow 21 = .ok (.i2l, 1) := by decide +kernel
theorem dX9_isRow_22 : decode cX9_isRow 22 = .ok (.invokestatic 54, 3) := by decide +kernel
theorem dX9_isRow_25 : decode cX9_isRow 25 = .ok (.ifCond .eq 7, 3) := by decide +kernel
theorem dX9_isRow_28 : decode cX9_isRow 28 = .ok (.iconst 1, 1) := by decide +kernel
theorem dX9_isRow_29 : decode cX9_isRow 29 = .ok (.goto 4, 3) := by decide +kernel
theorem dX9_isRow_32 : decode cX9_isRow 32 = .ok (.iconst 0, 1) := by decide +kernel
theorem dX9_isRow_33 : decode cX9_isRow 33 = .ok (.istore_n 2, 1) := by decide +kernel
theorem dX9_isRow_34 : decode cX9_isRow 34 = .ok (.iconst 0, 1) := by decide +kernel
theorem dX9_isRow_35 : decode cX9_isRow 35 = .ok (.istore_n 3, 1) := by decide +kernel
theorem dX9_isRow_36 : decode cX9_isRow 36 = .ok (.iload_n 3, 1) := by decide +kernel
theorem dX9_isRow_37 : decode cX9_isRow 37 = .ok (.iload_n 0, 1) := by decide +kernel
theorem dX9_isRow_38 : decode cX9_isRow 38 = .ok (.if_icmp .ge 32, 3) := by decide +kernel
theorem dX9_isRow_41 : decode cX9_isRow 41 = .ok (.iload_n 2, 1) := by decide +kernel
theorem dX9_isRow_42 : decode cX9_isRow 42 = .ok (.ifCond .eq 28, 3) := by decide +kernel
theorem dX9_isRow_45 : decode cX9_isRow 45 = .ok (.iload_n 1, 1) := by decide +kernel
theorem dX9_isRow_46 : decode cX9_isRow 46 = .ok (.iload_n 3, 1) := by decide +kernel
theorem dX9_isRow_47 : decode cX9_isRow 47 = .ok (.invokestatic 163, 3) := by decide +kernel
theorem dX9_isRow_50 : decode cX9_isRow 50 = .ok (.idiv, 1) := by decide +kernel
theorem dX9_isRow_51 : decode cX9_isRow 51 = .ok (.bipush 10, 2) := by decide +kernel
theorem dX9_isRow_53 : decode cX9_isRow 53 = .ok (.irem, 1) := by decide +kernel
theorem dX9_isRow_54 : decode cX9_isRow 54 = .ok (.iconst 4, 1) := by decide +kernel
theorem dX9_isRow_55 : decode cX9_isRow 55 = .ok (.if_icmp .ge 7, 3) := by decide +kernel
theorem dX9_isRow_58 : decode cX9_isRow 58 = .ok (.iconst 1, 1) := by decide +kernel
theorem dX9_isRow_59 : decode cX9_isRow 59 = .ok (.goto 4, 3) := by decide +kernel
theorem dX9_isRow_62 : decode cX9_isRow 62 = .ok (.iconst 0, 1) := by decide +kernel
theorem dX9_isRow_63 : decode cX9_isRow 63 = .ok (.istore_n 2, 1) := by decide +kernel
theorem dX9_isRow_64 : decode cX9_isRow 64 = .ok (.iinc 3 1, 3) := by decide +kernel
theorem dX9_isRow_67 : decode cX9_isRow 67 = .ok (.goto (-31), 3) := by decide +kernel
theorem dX9_isRow_70 : decode cX9_isRow 70 = .ok (.iload_n 2, 1) := by decide +kernel
theorem dX9_isRow_71 : decode cX9_isRow 71 = .ok (.ireturn, 1) := by decide +kernel
set_option maxRecDepth 20000 in
theorem ggX9_canLook_X9_sumOf : GoodIn wsX9_canLook wsX9_sumOf := goodIn_r _ [7, 8, 9, 10, 11, 12, 13, 14, 15, 16, 17, 18, 19, 20, 21, 22, 23, 24, 25, 26, 27, 28, 29, 30, 31, 32, 33, 34, 35, 36, 37] (by decide +kernel) (by decide +kernel)
set_option maxRecDepth 20000 in
theorem gX9_canLook_X9_sumOf : GoodIn wsX9_canLook (wsV RX9 151 RX9 yX9_sumOf wsX9_sumOf) := goodIn_app (goodIn_of _ (by decide +kernel)) ggX9_canLook_X9_sumOf
theorem dX9_canLook_0 : decode cX9_canLook 0 = .ok (.aload_n 0, 1) := by decide +kernel
theorem dX9_canLook_1 : decode cX9_canLook 1 = .ok (.iconst 0, 1) := by decide +kernel
theorem dX9_canLook_2 : decode cX9_canLook 2 = .ok (.invokevirtual 151, 3) := by decide +kernel
theorem dX9_canLook_5 : decode cX9_canLook 5 = .ok (.lconst 0, 1) := by decide +kernel
theorem dX9_canLook_6 : decode cX9_canLook 6 = .ok (.lcmp, 1) := by decide +kernel
theorem dX9_canLook_7 : decode cX9_canLook 7 = .ok (.ifCond .le 22, 3) := by decide +kernel
theorem dX9_canLook_10 : decode cX9_canLook 10 = .ok (.aload_n 0, 1) := by decide +kernel
theorem dX9_canLook_11 : decode cX9_canLook 11 = .ok (.getfield 23, 3) := by decide +kernel
theorem dX9_canLook_14 : decode cX9_canLook 14 = .ok (.iconst 1, 1) := by decide +kernel
theorem dX9_canLook_15 : decode cX9_canLook 15 = .ok (.iaload, 1) := by decide +kernel
theorem dX9_canLook_16 : decode cX9_canLook 16 = .ok (.iload_n 1, 1) := by decide +kernel
theorem dX9_canLook_17 : decode cX9_canLook 17 = .ok (.iadd, 1) := by decide +kernel
theorem dX9_canLook_18 : decode cX9_canLook 18 = .ok (.aload_n 0, 1) := by decide +kernel
theorem dX9_canLook_19 : decode cX9_canLook 19 = .ok (.getfield 48, 3) := by decide +kernel
theorem dX9_canLook_22 : decode cX9_canLook 22 = .ok (.if_icmp .gt 7, 3) := by decide +kernel
theorem dX9_canLook_25 : decode cX9_canLook 25 = .ok (.iconst 1, 1) := by decide +kernel
theorem dX9_canLook_26 : decode cX9_canLook 26 = .ok (.goto 4, 3) := by decide +kernel
theorem dX9_canLook_29 : decode cX9_canLook 29 = .ok (.iconst 0, 1) := by decide +kernel
theorem dX9_canLook_30 : decode cX9_canLook 30 = .ok (.ireturn, 1) := by decide +kernel
set_option maxRecDepth 20000 in
theorem ggX9_foundBy_X9_lay : GoodIn wsX9_foundBy wsX9_lay := goodIn_r _ [8, 9, 30, 31, 32, 33, 34, 35, 36, 37, 38, 39, 40, 41, 42, 43, 44, 45, 46, 47, 48, 49, 50, 51, 52, 53, 54, 55, 56, 57, 58] (by decide +kernel) (by decide +kernel)
set_option maxRecDepth 20000 in
theorem gX9_foundBy_X9_lay : GoodIn wsX9_foundBy (wsV RX9 167 RX9 yX9_lay wsX9_lay) := goodIn_app (goodIn_of _ (by decide +kernel)) ggX9_foundBy_X9_lay
set_option maxRecDepth 20000 in
theorem ggX9_foundBy_X9_tenTo : GoodIn wsX9_foundBy wsX9_tenTo := goodIn_r _ [12] (by decide +kernel) (by decide +kernel)
set_option maxRecDepth 20000 in
theorem gX9_foundBy_X9_tenTo : GoodIn wsX9_foundBy (va_wsS RX9 163 yX9_tenTo wsX9_tenTo) := goodIn_app (goodIn_of _ (by decide +kernel)) ggX9_foundBy_X9_tenTo
set_option maxRecDepth 20000 in
theorem ggX9_foundBy_X9_to : GoodIn wsX9_foundBy wsX9_to := goodIn_r _ [15] (by decide +kernel) (by decide +kernel)
set_option maxRecDepth 20000 in
theorem gX9_foundBy_X9_to : GoodIn wsX9_foundBy (va_wsS RX9 125 yX9_to wsX9_to) := goodIn_app (goodIn_of _ (by decide +kernel)) ggX9_foundBy_X9_to
set_option maxRecDepth 20000 in
theorem ggX9_foundBy_X9_lookAt : GoodIn wsX9_foundBy wsX9_lookAt := goodIn_r _ [19, 20, 21, 9, 30, 31, 32, 33, 34, 35, 36, 37, 38, 39, 40, 41, 42, 43, 44, 45, 46, 47, 48, 49, 50, 51, 52, 53, 54, 55, 56, 57, 58] (by decide +kernel) (by decide +kernel)
set_option maxRecDepth 20000 in
theorem gX9_foundBy_X9_lookAt : GoodIn wsX9_foundBy (wsV RX9 135 RX9 yX9_lookAt wsX9_lookAt) := goodIn_app (goodIn_of _ (by decide +kernel)) ggX9_foundBy_X9_lookAt
set_option maxRecDepth 20000 in
theorem ggX9_foundBy_X9_drift : GoodIn wsX9_foundBy wsX9_drift := goodIn_r _ [25, 26, 9, 27, 28, 29, 3, 13, 14, 7, 15, 30, 31, 32, 33, 34, 35, 36, 37, 38, 39, 40, 41, 42, 43, 44, 45, 46, 47, 48, 49, 50, 51, 52, 53, 54, 55, 56, 57, 58] (by decide +kernel) (by decide +kernel)
set_option maxRecDepth 20000 in
theorem gX9_foundBy_X9_drift : GoodIn wsX9_foundBy (wsV RX9 139 RX9 yX9_drift wsX9_drift) := goodIn_app (goodIn_of _ (by decide +kernel)) ggX9_foundBy_X9_drift
theorem dX9_foundBy_0 : decode cX9_foundBy 0 = .ok (.aload_n 0, 1) := by decide +kernel
theorem dX9_foundBy_1 : decode cX9_foundBy 1 = .ok (.iconst 0, 1) := by decide +kernel
theorem dX9_foundBy_2 : decode cX9_foundBy 2 = .ok (.iconst 1, 1) := by decide +kernel
theorem dX9_foundBy_3 : decode cX9_foundBy 3 = .ok (.invokevirtual 167, 3) := by decide +kernel
theorem dX9_foundBy_6 : decode cX9_foundBy 6 = .ok (.aload_n 0, 1) := by decide +kernel
theorem dX9_foundBy_7 : decode cX9_foundBy 7 = .ok (.getfield 23, 3) := by decide +kernel
theorem dX9_foundBy_10 : decode cX9_foundBy 10 = .ok (.iconst 0, 1) := by decide +kernel
theorem dX9_foundBy_11 : decode cX9_foundBy 11 = .ok (.iaload, 1) := by decide +kernel
theorem dX9_foundBy_12 : decode cX9_foundBy 12 = .ok (.istore_n 3, 1) := by decide +kernel
theorem dX9_foundBy_13 : decode cX9_foundBy 13 = .ok (.lconst 0, 1) := by decide +kernel
theorem dX9_foundBy_14 : decode cX9_foundBy 14 = .ok (.lstore 4, 2) := by decide +kernel
theorem dX9_foundBy_16 : decode cX9_foundBy 16 = .ok (.iconst 0, 1) := by decide +kernel
theorem dX9_foundBy_17 : decode cX9_foundBy 17 = .ok (.istore 6, 2) := by decide +kernel
theorem dX9_foundBy_19 : decode cX9_foundBy 19 = .ok (.iload 6, 2) := by decide +kernel
theorem dX9_foundBy_21 : decode cX9_foundBy 21 = .ok (.iload_n 1, 1) := by decide +kernel
theorem dX9_foundBy_22 : decode cX9_foundBy 22 = .ok (.if_icmp .ge 86, 3) := by decide +kernel
theorem dX9_foundBy_25 : decode cX9_foundBy 25 = .ok (.iload_n 2, 1) := by decide +kernel
theorem dX9_foundBy_26 : decode cX9_foundBy 26 = .ok (.iload_n 1, 1) := by decide +kernel
theorem dX9_foundBy_27 : decode cX9_foundBy 27 = .ok (.iconst 1, 1) := by decide +kernel
theorem dX9_foundBy_28 : decode cX9_foundBy 28 = .ok (.isub, 1) := by decide +kernel
theorem dX9_foundBy_29 : decode cX9_foundBy 29 = .ok (.iload 6, 2) := by decide +kernel
theorem dX9_foundBy_31 : decode cX9_foundBy 31 = .ok (.isub, 1) := by decide +kernel
theorem dX9_foundBy_32 : decode cX9_foundBy 32 = .ok (.invokestatic 163, 3) := by decide +kernel
theorem dX9_foundBy_35 : decode cX9_foundBy 35 = .ok (.idiv, 1) := by decide +kernel
theorem dX9_foundBy_36 : decode cX9_foundBy 36 = .ok (.bipush 10, 2) := by decide +kernel
theorem dX9_foundBy_38 : decode cX9_foundBy 38 = .ok (.irem, 1) := by decide +kernel
theorem dX9_foundBy_39 : decode cX9_foundBy 39 = .ok (.istore 7, 2) := by decide +kernel
theorem dX9_foundBy_41 : decode cX9_foundBy 41 = .ok (.iload 7, 2) := by decide +kernel
theorem dX9_foundBy_43 : decode cX9_foundBy 43 = .ok (.iconst 3, 1) := by decide +kernel
theorem dX9_foundBy_44 : decode cX9_foundBy 44 = .ok (.if_icmp .ne 7, 3) := by decide +kernel
theorem dX9_foundBy_47 : decode cX9_foundBy 47 = .ok (.iload_n 3, 1) := by decide +kernel
theorem dX9_foundBy_48 : decode cX9_foundBy 48 = .ok (.goto 9, 3) := by decide +kernel
theorem dX9_foundBy_51 : decode cX9_foundBy 51 = .ok (.iload_n 3, 1) := by decide +kernel
theorem dX9_foundBy_52 : decode cX9_foundBy 52 = .ok (.iload 7, 2) := by decide +kernel
theorem dX9_foundBy_54 : decode cX9_foundBy 54 = .ok (.invokestatic 125, 3) := by decide +kernel
theorem dX9_foundBy_57 : decode cX9_foundBy 57 = .ok (.istore_n 3, 1) := by decide +kernel
theorem dX9_foundBy_58 : decode cX9_foundBy 58 = .ok (.ldc2_w 170, 3) := by decide +kernel
theorem dX9_foundBy_61 : decode cX9_foundBy 61 = .ok (.lload 4, 2) := by decide +kernel
theorem dX9_foundBy_63 : decode cX9_foundBy 63 = .ok (.lmul, 1) := by decide +kernel
theorem dX9_foundBy_64 : decode cX9_foundBy 64 = .ok (.ldc2_w 128, 3) := by decide +kernel
theorem dX9_foundBy_67 : decode cX9_foundBy 67 = .ok (.aload_n 0, 1) := by decide +kernel
theorem dX9_foundBy_68 : decode cX9_foundBy 68 = .ok (.iconst 1, 1) := by decide +kernel
theorem dX9_foundBy_69 : decode cX9_foundBy 69 = .ok (.iload 7, 2) := by decide +kernel
theorem dX9_foundBy_71 : decode cX9_foundBy 71 = .ok (.iconst 3, 1) := by decide +kernel
theorem dX9_foundBy_72 : decode cX9_foundBy 72 = .ok (.if_icmp .ne 8, 3) := by decide +kernel
theorem dX9_foundBy_75 : decode cX9_foundBy 75 = .ok (.bipush 10, 2) := by decide +kernel
theorem dX9_foundBy_77 : decode cX9_foundBy 77 = .ok (.goto 4, 3) := by decide +kernel
theorem dX9_foundBy_80 : decode cX9_foundBy 80 = .ok (.iload_n 3, 1) := by decide +kernel
theorem dX9_foundBy_81 : decode cX9_foundBy 81 = .ok (.invokevirtual 135, 3) := by decide +kernel
theorem dX9_foundBy_84 : decode cX9_foundBy 84 = .ok (.lmul, 1) := by decide +kernel
theorem dX9_foundBy_85 : decode cX9_foundBy 85 = .ok (.ladd, 1) := by decide +kernel
theorem dX9_foundBy_86 : decode cX9_foundBy 86 = .ok (.lstore 4, 2) := by decide +kernel
theorem dX9_foundBy_88 : decode cX9_foundBy 88 = .ok (.aload_n 0, 1) := by decide +kernel
theorem dX9_foundBy_89 : decode cX9_foundBy 89 = .ok (.iconst 1, 1) := by decide +kernel
theorem dX9_foundBy_90 : decode cX9_foundBy 90 = .ok (.aload_n 0, 1) := by decide +kernel
theorem dX9_foundBy_91 : decode cX9_foundBy 91 = .ok (.getfield 23, 3) := by decide +kernel
theorem dX9_foundBy_94 : decode cX9_foundBy 94 = .ok (.iconst 1, 1) := by decide +kernel
theorem dX9_foundBy_95 : decode cX9_foundBy 95 = .ok (.iaload, 1) := by decide +kernel
theorem dX9_foundBy_96 : decode cX9_foundBy 96 = .ok (.iload 6, 2) := by decide +kernel
theorem dX9_foundBy_98 : decode cX9_foundBy 98 = .ok (.iadd, 1) := by decide +kernel
theorem dX9_foundBy_99 : decode cX9_foundBy 99 = .ok (.invokevirtual 139, 3) := by decide +kernel
theorem dX9_foundBy_102 : decode cX9_foundBy 102 = .ok (.iinc 6 1, 3) := by decide +kernel
theorem dX9_foundBy_105 : decode cX9_foundBy 105 = .ok (.goto (-86), 3) := by decide +kernel
theorem dX9_foundBy_108 : decode cX9_foundBy 108 = .ok (.lload 4, 2) := by decide +kernel
theorem dX9_foundBy_110 : decode cX9_foundBy 110 = .ok (.lreturn, 1) := by decide +kernel
set_option maxRecDepth 20000 in
theorem ggX9_allTimes_X9_sumOf : GoodIn wsX9_allTimes wsX9_sumOf := goodIn_r _ [5, 6, 7, 8, 9, 10, 11, 12, 13, 14, 15, 16, 17, 18, 19, 20, 21, 22, 23, 24, 25, 26, 27, 28, 29, 30, 31, 32, 33, 34, 35] (by decide +kernel) (by decide +kernel)
set_option maxRecDepth 20000 in
theorem gX9_allTimes_X9_sumOf : GoodIn wsX9_allTimes (wsV RX9 151 RX9 yX9_sumOf wsX9_sumOf) := goodIn_app (goodIn_of _ (by decide +kernel)) ggX9_allTimes_X9_sumOf
theorem dX9_allTimes_0 : decode cX9_allTimes 0 = .ok (.aload_n 0, 1) := by decide +kernel
theorem dX9_allTimes_1 : decode cX9_allTimes 1 = .ok (.iconst 0, 1) := by decide +kernel
theorem dX9_allTimes_2 : decode cX9_allTimes 2 = .ok (.invokevirtual 151, 3) := by decide +kernel
theorem dX9_allTimes_5 : decode cX9_allTimes 5 = .ok (.lstore_n 3, 1) := by decide +kernel
theorem dX9_allTimes_6 : decode cX9_allTimes 6 = .ok (.iconst 0, 1) := by decide +kernel
theorem dX9_allTimes_7 : decode cX9_allTimes 7 = .ok (.istore 5, 2) := by decide +kernel
theorem dX9_allTimes_9 : decode cX9_allTimes 9 = .ok (.iload 5, 2) := by decide +kernel
theorem dX9_allTimes_11 : decode cX9_allTimes 11 = .ok (.iload_n 1, 1) := by decide +kernel
theorem dX9_allTimes_12 : decode cX9_allTimes 12 = .ok (.if_icmp .ge 14, 3) := by decide +kernel
theorem dX9_allTimes_15 : decode cX9_allTimes 15 = .ok (.lload_n 3, 1) := by decide +kernel
theorem dX9_allTimes_16 : decode cX9_allTimes 16 = .ok (.iload_n 2, 1) := by decide +kernel
theorem dX9_allTimes_17 : decode cX9_allTimes 17 = .ok (.i2l, 1) := by decide +kernel
theorem dX9_allTimes_18 : decode cX9_allTimes 18 = .ok (.lmul, 1) := by decide +kernel
theorem dX9_allTimes_19 : decode cX9_allTimes 19 = .ok (.lstore_n 3, 1) := by decide +kernel
theorem dX9_allTimes_20 : decode cX9_allTimes 20 = .ok (.iinc 5 1, 3) := by decide +kernel
theorem dX9_allTimes_23 : decode cX9_allTimes 23 = .ok (.goto (-14), 3) := by decide +kernel
theorem dX9_allTimes_26 : decode cX9_allTimes 26 = .ok (.lload_n 3, 1) := by decide +kernel
theorem dX9_allTimes_27 : decode cX9_allTimes 27 = .ok (.lreturn, 1) := by decide +kernel
set_option maxRecDepth 20000 in
theorem ggX9_part_X9_common : GoodIn wsX9_part wsX9_common := goodIn_r _ [4] (by decide +kernel) (by decide +kernel)
set_option maxRecDepth 20000 in
theorem gX9_part_X9_common : GoodIn wsX9_part (va_wsS RX9 157 yX9_common wsX9_common) := goodIn_app (goodIn_of _ (by decide +kernel)) ggX9_part_X9_common
theorem dX9_part_0 : decode cX9_part 0 = .ok (.lload_n 0, 1) := by decide +kernel
theorem dX9_part_1 : decode cX9_part 1 = .ok (.lload_n 2, 1) := by decide +kernel
theorem dX9_part_2 : decode cX9_part 2 = .ok (.invokestatic 157, 3) := by decide +kernel
theorem dX9_part_5 : decode cX9_part 5 = .ok (.lstore 5, 2) := by decide +kernel
theorem dX9_part_7 : decode cX9_part 7 = .ok (.iload 4, 2) := by decide +kernel
theorem dX9_part_9 : decode cX9_part 9 = .ok (.ifCond .eq 10, 3) := by decide +kernel
theorem dX9_part_12 : decode cX9_part 12 = .ok (.lload_n 0, 1) := by decide +kernel
theorem dX9_part_13 : decode cX9_part 13 = .ok (.lload 5, 2) := by decide +kernel
theorem dX9_part_15 : decode cX9_part 15 = .ok (.ldiv, 1) := by decide +kernel
theorem dX9_part_16 : decode cX9_part 16 = .ok (.goto 7, 3) := by decide +kernel
theorem dX9_part_19 : decode cX9_part 19 = .ok (.lload_n 2, 1) := by decide +kernel
theorem dX9_part_20 : decode cX9_part 20 = .ok (.lload 5, 2) := by decide +kernel
theorem dX9_part_22 : decode cX9_part 22 = .ok (.ldiv, 1) := by decide +kernel
theorem dX9_part_23 : decode cX9_part 23 = .ok (.lreturn, 1) := by decide +kernel
set_option maxRecDepth 20000 in
theorem ggX9_by_X9_isRow : GoodIn wsX9_by wsX9_isRow := goodIn_r _ [6, 7, 8, 9, 5, 10, 11, 12, 13] (by decide +kernel) (by decide +kernel)
set_option maxRecDepth 20000 in
theorem gX9_by_X9_isRow : GoodIn wsX9_by (va_wsS RX9 172 yX9_isRow wsX9_isRow) := goodIn_app (goodIn_of _ (by decide +kernel)) ggX9_by_X9_isRow
set_option maxRecDepth 20000 in
theorem ggX9_by_X9_canLook : GoodIn wsX9_by wsX9_canLook := goodIn_r _ [17, 18, 19, 20, 21, 22, 5, 23, 24, 61, 62, 63, 64, 65, 66, 67, 68, 69, 70, 71, 72, 73, 74, 75, 76, 77, 78, 79, 80, 81, 82, 83, 84, 85, 86, 87, 88, 89] (by decide +kernel) (by decide +kernel)
set_option maxRecDepth 20000 in
theorem gX9_by_X9_canLook : GoodIn wsX9_by (wsV RX9 176 RX9 yX9_canLook wsX9_canLook) := goodIn_app (goodIn_of _ (by decide +kernel)) ggX9_by_X9_canLook
set_option maxRecDepth 20000 in
theorem ggX9_by_X9_foundBy : GoodIn wsX9_by wsX9_foundBy := goodIn_r _ [28, 18, 29, 30, 31, 32, 33, 5, 34, 24, 11, 12, 13, 35, 36, 37, 38, 39, 40, 41, 42, 43, 44, 45, 46, 47, 48, 49, 50, 19, 61, 62, 63, 64, 65, 66, 67, 68, 69, 70, 71, 72, 73, 74, 75, 76, 77, 78, 79, 80, 81, 82, 83, 84, 85, 86, 87, 88, 89] (by decide +kernel) (by decide +kernel)
set_option maxRecDepth 20000 in
theorem gX9_by_X9_foundBy : GoodIn wsX9_by (wsV RX9 180 RX9 yX9_foundBy wsX9_foundBy) := goodIn_app (goodIn_of _ (by decide +kernel)) ggX9_by_X9_foundBy
set_option maxRecDepth 20000 in
theorem ggX9_by_X9_allTimes : GoodIn wsX9_by wsX9_allTimes := goodIn_r _ [54, 20, 21, 22, 5, 23, 24, 61, 62, 63, 64, 65, 66, 67, 68, 69, 70, 71, 72, 73, 74, 75, 76, 77, 78, 79, 80, 81, 82, 83, 84, 85, 86, 87, 88, 89] (by decide +kernel) (by decide +kernel)
set_option maxRecDepth 20000 in
theorem gX9_by_X9_allTimes : GoodIn wsX9_by (wsV RX9 183 RX9 yX9_allTimes wsX9_allTimes) := goodIn_app (goodIn_of _ (by decide +kernel)) ggX9_by_X9_allTimes
set_option maxRecDepth 20000 in
theorem ggX9_by_X9_part : GoodIn wsX9_by wsX9_part := goodIn_r _ [57, 58, 59, 5, 60] (by decide +kernel) (by decide +kernel)
set_option maxRecDepth 20000 in
theorem gX9_by_X9_part : GoodIn wsX9_by (va_wsS RX9 186 yX9_part wsX9_part) := goodIn_app (goodIn_of _ (by decide +kernel)) ggX9_by_X9_part
theorem dX9_by_0 : decode cX9_by 0 = .ok (.iload_n 1, 1) := by decide +kernel
theorem dX9_by_1 : decode cX9_by 1 = .ok (.iload_n 2, 1) := by decide +kernel
theorem dX9_by_2 : decode cX9_by 2 = .ok (.invokestatic 172, 3) := by decide +kernel
theorem dX9_by_5 : decode cX9_by 5 = .ok (.ifCond .ne 7, 3) := by decide +kernel
theorem dX9_by_8 : decode cX9_by 8 = .ok (.ldc2_w 149, 3) := by decide +kernel
theorem dX9_by_11 : decode cX9_by 11 = .ok (.lreturn, 1) := by decide +kernel
theorem dX9_by_12 : decode cX9_by 12 = .ok (.aload_n 0, 1) := by decide +kernel
theorem dX9_by_13 : decode cX9_by 13 = .ok (.iload_n 1, 1) := by decide +kernel
theorem dX9_by_14 : decode cX9_by 14 = .ok (.invokevirtual 176, 3) := by decide +kernel
theorem dX9_by_17 : decode cX9_by 17 = .ok (.ifCond .eq 23, 3) := by decide +kernel
theorem dX9_by_20 : decode cX9_by 20 = .ok (.aload_n 0, 1) := by decide +kernel
theorem dX9_by_21 : decode cX9_by 21 = .ok (.iload_n 1, 1) := by decide +kernel
theorem dX9_by_22 : decode cX9_by 22 = .ok (.iload_n 2, 1) := by decide +kernel
theorem dX9_by_23 : decode cX9_by 23 = .ok (.invokevirtual 180, 3) := by decide +kernel
theorem dX9_by_26 : decode cX9_by 26 = .ok (.aload_n 0, 1) := by decide +kernel
theorem dX9_by_27 : decode cX9_by 27 = .ok (.iload_n 1, 1) := by decide +kernel
theorem dX9_by_28 : decode cX9_by 28 = .ok (.bipush 100, 2) := by decide +kernel
theorem dX9_by_30 : decode cX9_by 30 = .ok (.invokevirtual 183, 3) := by decide +kernel
theorem dX9_by_33 : decode cX9_by 33 = .ok (.iload_n 3, 1) := by decide +kernel
theorem dX9_by_34 : decode cX9_by 34 = .ok (.invokestatic 186, 3) := by decide +kernel
theorem dX9_by_37 : decode cX9_by 37 = .ok (.goto 6, 3) := by decide +kernel
theorem dX9_by_40 : decode cX9_by 40 = .ok (.ldc2_w 155, 3) := by decide +kernel
theorem dX9_by_43 : decode cX9_by 43 = .ok (.lreturn, 1) := by decide +kernel
set_option maxRecDepth 20000 in
theorem ggX9_bestBy_X9_tenTo : GoodIn wsX9_bestBy wsX9_tenTo := goodIn_r _ [6] (by decide +kernel) (by decide +kernel)
set_option maxRecDepth 20000 in
theorem gX9_bestBy_X9_tenTo : GoodIn wsX9_bestBy (va_wsS RX9 163 yX9_tenTo wsX9_tenTo) := goodIn_app (goodIn_of _ (by decide +kernel)) ggX9_bestBy_X9_tenTo
set_option maxRecDepth 20000 in
theorem ggX9_bestBy_X9_isRow : GoodIn wsX9_bestBy wsX9_isRow := goodIn_r _ [9, 10, 11, 12, 5, 13, 3, 4, 6] (by decide +kernel) (by decide +kernel)
set_option maxRecDepth 20000 in
theorem gX9_bestBy_X9_isRow : GoodIn wsX9_bestBy (va_wsS RX9 172 yX9_isRow wsX9_isRow) := goodIn_app (goodIn_of _ (by decide +kernel)) ggX9_bestBy_X9_isRow
set_option maxRecDepth 20000 in
theorem ggX9_bestBy_X9_foundBy : GoodIn wsX9_bestBy wsX9_foundBy := goodIn_r _ [17, 18, 19, 20, 21, 22, 23, 5, 24, 25, 3, 4, 6, 26, 27, 28, 29, 30, 31, 32, 33, 34, 35, 36, 37, 38, 39, 40, 41, 42, 43, 44, 45, 46, 47, 48, 49, 50, 51, 52, 53, 54, 55, 56, 57, 58, 59, 60, 61, 62, 63, 64, 65, 66, 67, 68, 69, 70, 71] (by decide +kernel) (by decide +kernel)
set_option maxRecDepth 20000 in
theorem gX9_bestBy_X9_foundBy : GoodIn wsX9_bestBy (wsV RX9 180 RX9 yX9_foundBy wsX9_foundBy) := goodIn_app (goodIn_of _ (by decide +kernel)) ggX9_bestBy_X9_foundBy
theorem dX9_bestBy_0 : decode cX9_bestBy 0 = .ok (.ldc2_w 190, 3) := by decide +kernel
theorem dX9_bestBy_3 : decode cX9_bestBy 3 = .ok (.lstore_n 3, 1) := by decide +kernel
theorem dX9_bestBy_4 : decode cX9_bestBy 4 = .ok (.aload_n 0, 1) := by decide +kernel
theorem dX9_bestBy_5 : decode cX9_bestBy 5 = .ok (.iconst 0, 1) := by decide +kernel
theorem dX9_bestBy_6 : decode cX9_bestBy 6 = .ok (.putfield 192, 3) := by decide +kernel
theorem dX9_bestBy_9 : decode cX9_bestBy 9 = .ok (.iconst 0, 1) := by decide +kernel
theorem dX9_bestBy_10 : decode cX9_bestBy 10 = .ok (.istore 5, 2) := by decide +kernel
theorem dX9_bestBy_12 : decode cX9_bestBy 12 = .ok (.iload 5, 2) := by decide +kernel
theorem dX9_bestBy_14 : decode cX9_bestBy 14 = .ok (.iload_n 1, 1) := by decide +kernel
theorem dX9_bestBy_15 : decode cX9_bestBy 15 = .ok (.invokestatic 163, 3) := by decide +kernel
theorem dX9_bestBy_18 : decode cX9_bestBy 18 = .ok (.if_icmp .ge 118, 3) := by decide +kernel
theorem dX9_bestBy_21 : decode cX9_bestBy 21 = .ok (.iload 5, 2) := by decide +kernel
theorem dX9_bestBy_23 : decode cX9_bestBy 23 = .ok (.iload_n 1, 1) := by decide +kernel
theorem dX9_bestBy_24 : decode cX9_bestBy 24 = .ok (.iconst 1, 1) := by decide +kernel
theorem dX9_bestBy_25 : decode cX9_bestBy 25 = .ok (.isub, 1) := by decide +kernel
theorem dX9_bestBy_26 : decode cX9_bestBy 26 = .ok (.invokestatic 163, 3) := by decide +kernel
theorem dX9_bestBy_29 : decode cX9_bestBy 29 = .ok (.idiv, 1) := by decide +kernel
theorem dX9_bestBy_30 : decode cX9_bestBy 30 = .ok (.iconst 3, 1) := by decide +kernel
theorem dX9_bestBy_31 : decode cX9_bestBy 31 = .ok (.if_icmp .ne 7, 3) := by decide +kernel
theorem dX9_bestBy_34 : decode cX9_bestBy 34 = .ok (.iconst 1, 1) := by decide +kernel
theorem dX9_bestBy_35 : decode cX9_bestBy 35 = .ok (.goto 4, 3) := by decide +kernel
theorem dX9_bestBy_38 : decode cX9_bestBy 38 = .ok (.iconst 0, 1) := by decide +kernel
theorem dX9_bestBy_39 : decode cX9_bestBy 39 = .ok (.istore 6, 2) := by decide +kernel
theorem dX9_bestBy_41 : decode cX9_bestBy 41 = .ok (.iload_n 1, 1) := by decide +kernel
theorem dX9_bestBy_42 : decode cX9_bestBy 42 = .ok (.iload 5, 2) := by decide +kernel
theorem dX9_bestBy_44 : decode cX9_bestBy 44 = .ok (.invokestatic 172, 3) := by decide +kernel
theorem dX9_bestBy_47 : decode cX9_bestBy 47 = .ok (.ifCond .eq 26, 3) := by decide +kernel
theorem dX9_bestBy_50 : decode cX9_bestBy 50 = .ok (.iload_n 2, 1) := by decide +kernel
theorem dX9_bestBy_51 : decode cX9_bestBy 51 = .ok (.ifCond .eq 18, 3) := by decide +kernel
theorem dX9_bestBy_54 : decode cX9_bestBy 54 = .ok (.iload_n 2, 1) := by decide +kernel
theorem dX9_bestBy_55 : decode cX9_bestBy 55 = .ok (.iconst 1, 1) := by decide +kernel
theorem dX9_bestBy_56 : decode cX9_bestBy 56 = .ok (.if_icmp .ne 7, 3) := by decide +kernel
theorem dX9_bestBy_59 : decode cX9_bestBy 59 = .ok (.iconst 1, 1) := by decide +kernel
theorem dX9_bestBy_60 : decode cX9_bestBy 60 = .ok (.goto 4, 3) := by decide +kernel
theorem dX9_bestBy_63 : decode cX9_bestBy 63 = .ok (.iconst 0, 1) := by decide +kernel
theorem dX9_bestBy_64 : decode cX9_bestBy 64 = .ok (.iload 6, 2) := by decide +kernel
theorem dX9_bestBy_66 : decode cX9_bestBy 66 = .ok (.if_icmp .ne 7, 3) := by decide +kernel
theorem dX9_bestBy_69 : decode cX9_bestBy 69 = .ok (.iconst 1, 1) := by decide +kernel
theorem dX9_bestBy_70 : decode cX9_bestBy 70 = .ok (.goto 4, 3) := by decide +kernel
theorem dX9_bestBy_73 : decode cX9_bestBy 73 = .ok (.iconst 0, 1) := by decide +kernel
theorem dX9_bestBy_74 : decode cX9_bestBy 74 = .ok (.istore 7, 2) := by decide +kernel
theorem dX9_bestBy_76 : decode cX9_bestBy 76 = .ok (.iload 7, 2) := by decide +kernel
theorem dX9_bestBy_78 : decode cX9_bestBy 78 = .ok (.ifCond .eq 13, 3) := by decide +kernel
theorem dX9_bestBy_81 : decode cX9_bestBy 81 = .ok (.aload_n 0, 1) := by decide +kernel
theorem dX9_bestBy_82 : decode cX9_bestBy 82 = .ok (.iload_n 1, 1) := by decide +kernel
theorem dX9_bestBy_83 : decode cX9_bestBy 83 = .ok (.iload 5, 2) := by decide +kernel
theorem dX9_bestBy_85 : decode cX9_bestBy 85 = .ok (.invokevirtual 180, 3) := by decide +kernel
theorem dX9_bestBy_88 : decode cX9_bestBy 88 = .ok (.goto 6, 3) := by decide +kernel
theorem dX9_bestBy_91 : decode cX9_bestBy 91 = .ok (.ldc2_w 190, 3) := by decide +kernel
theorem dX9_bestBy_94 : decode cX9_bestBy 94 = .ok (.lstore 8, 2) := by decide +kernel
theorem dX9_bestBy_96 : decode cX9_bestBy 96 = .ok (.aload_n 0, 1) := by decide +kernel
theorem dX9_bestBy_97 : decode cX9_bestBy 97 = .ok (.lload 8, 2) := by decide +kernel
theorem dX9_bestBy_99 : decode cX9_bestBy 99 = .ok (.lload_n 3, 1) := by decide +kernel
theorem dX9_bestBy_100 : decode cX9_bestBy 100 = .ok (.lcmp, 1) := by decide +kernel
theorem dX9_bestBy_101 : decode cX9_bestBy 101 = .ok (.ifCond .le 8, 3) := by decide +kernel
theorem dX9_bestBy_104 : decode cX9_bestBy 104 = .ok (.iload 5, 2) := by decide +kernel
theorem dX9_bestBy_106 : decode cX9_bestBy 106 = .ok (.goto 7, 3) := by decide +kernel
theorem dX9_bestBy_109 : decode cX9_bestBy 109 = .ok (.aload_n 0, 1) := by decide +kernel
theorem dX9_bestBy_110 : decode cX9_bestBy 110 = .ok (.getfield 192, 3) := by decide +kernel
theorem dX9_bestBy_113 : decode cX9_bestBy 113 = .ok (.putfield 192, 3) := by decide +kernel
theorem dX9_bestBy_116 : decode cX9_bestBy 116 = .ok (.lload 8, 2) := by decide +kernel
theorem dX9_bestBy_118 : decode cX9_bestBy 118 = .ok (.lload_n 3, 1) := by decide +kernel
theorem dX9_bestBy_119 : decode cX9_bestBy 119 = .ok (.lcmp, 1) := by decide +kernel
theorem dX9_bestBy_120 : decode cX9_bestBy 120 = .ok (.ifCond .le 8, 3) := by decide +kernel
theorem dX9_bestBy_123 : decode cX9_bestBy 123 = .ok (.lload 8, 2) := by decide +kernel
theorem dX9_bestBy_125 : decode cX9_bestBy 125 = .ok (.goto 4, 3) := by decide +kernel
theorem dX9_bestBy_128 : decode cX9_bestBy 128 = .ok (.lload_n 3, 1) := by decide +kernel
theorem dX9_bestBy_129 : decode cX9_bestBy 129 = .ok (.lstore_n 3, 1) := by decide +kernel
theorem dX9_bestBy_130 : decode cX9_bestBy 130 = .ok (.iinc 5 1, 3) := by decide +kernel
theorem dX9_bestBy_133 : decode cX9_bestBy 133 = .ok (.goto (-121), 3) := by decide +kernel
theorem dX9_bestBy_136 : decode cX9_bestBy 136 = .ok (.lload_n 3, 1) := by decide +kernel
theorem dX9_bestBy_137 : decode cX9_bestBy 137 = .ok (.lreturn, 1) := by decide +kernel
set_option maxRecDepth 20000 in
theorem ggX9_best_X9_in : GoodIn wsX9_best wsX9_in := goodIn_r _ [7] (by decide +kernel) (by decide +kernel)
set_option maxRecDepth 20000 in
theorem gX9_best_X9_in : GoodIn wsX9_best (va_wsS RX9 54 yX9_in wsX9_in) := goodIn_app (goodIn_of _ (by decide +kernel)) ggX9_best_X9_in
set_option maxRecDepth 20000 in
theorem ggX9_best_X9_canLook : GoodIn wsX9_best wsX9_canLook := goodIn_r _ [11, 12, 13, 14, 15, 16, 6, 17, 18, 67, 68, 69, 70, 71, 72, 73, 74, 75, 76, 77, 78, 79, 80, 81, 82, 83, 84, 85, 86, 87, 88, 89, 90, 91, 92, 93, 94, 95] (by decide +kernel) (by decide +kernel)
set_option maxRecDepth 20000 in
theorem gX9_best_X9_canLook : GoodIn wsX9_best (wsV RX9 176 RX9 yX9_canLook wsX9_canLook) := goodIn_app (goodIn_of _ (by decide +kernel)) ggX9_best_X9_canLook
set_option maxRecDepth 20000 in
theorem ggX9_best_X9_bestBy : GoodIn wsX9_best wsX9_bestBy := goodIn_r _ [22, 23, 24, 25, 26, 6, 27, 28, 29, 30, 1, 4, 5, 7, 31, 32, 33, 34, 12, 35, 36, 37, 38, 39, 40, 18, 41, 42, 43, 44, 45, 46, 47, 48, 49, 50, 51, 52, 53, 54, 55, 56, 13, 67, 68, 69, 70, 71, 72, 73, 74, 75, 76, 77, 78, 79, 80, 81, 82, 83, 84, 85, 86, 87, 88, 89, 90, 91, 92, 93, 94, 95] (by decide +kernel) (by decide +kernel)
set_option maxRecDepth 20000 in
theorem gX9_best_X9_bestBy : GoodIn wsX9_best (wsV RX9 195 RX9 yX9_bestBy wsX9_bestBy) := goodIn_app (goodIn_of _ (by decide +kernel)) ggX9_best_X9_bestBy
set_option maxRecDepth 20000 in
theorem ggX9_best_X9_allTimes : GoodIn wsX9_best wsX9_allTimes := goodIn_r _ [60, 14, 15, 16, 6, 17, 18, 67, 68, 69, 70, 71, 72, 73, 74, 75, 76, 77, 78, 79, 80, 81, 82, 83, 84, 85, 86, 87, 88, 89, 90, 91, 92, 93, 94, 95] (by decide +kernel) (by decide +kernel)
set_option maxRecDepth 20000 in
theorem gX9_best_X9_allTimes : GoodIn wsX9_best (wsV RX9 183 RX9 yX9_allTimes wsX9_allTimes) := goodIn_app (goodIn_of _ (by decide +kernel)) ggX9_best_X9_allTimes
set_option maxRecDepth 20000 in
theorem ggX9_best_X9_part : GoodIn wsX9_best wsX9_part := goodIn_r _ [63, 64, 65, 6, 66] (by decide +kernel) (by decide +kernel)
set_option maxRecDepth 20000 in
theorem gX9_best_X9_part : GoodIn wsX9_best (va_wsS RX9 186 yX9_part wsX9_part) := goodIn_app (goodIn_of _ (by decide +kernel)) ggX9_best_X9_part
theorem dX9_best_0 : decode cX9_best 0 = .ok (.iload_n 1, 1) := by decide +kernel
theorem dX9_best_1 : decode cX9_best 1 = .ok (.i2l, 1) := by decide +kernel
theorem dX9_best_2 : decode cX9_best 2 = .ok (.lconst 1, 1) := by decide +kernel
theorem dX9_best_3 : decode cX9_best 3 = .ok (.ldc2_w 161, 3) := by decide +kernel
theorem dX9_best_6 : decode cX9_best 6 = .ok (.invokestatic 54, 3) := by decide +kernel
theorem dX9_best_9 : decode cX9_best 9 = .ok (.ifCond .ne 7, 3) := by decide +kernel
theorem dX9_best_12 : decode cX9_best 12 = .ok (.ldc2_w 149, 3) := by decide +kernel
theorem dX9_best_15 : decode cX9_best 15 = .ok (.lreturn, 1) := by decide +kernel
theorem dX9_best_16 : decode cX9_best 16 = .ok (.aload_n 0, 1) := by decide +kernel
theorem dX9_best_17 : decode cX9_best 17 = .ok (.iload_n 1, 1) := by decide +kernel
theorem dX9_best_18 : decode cX9_best 18 = .ok (.invokevirtual 176, 3) := by decide +kernel
theorem dX9_best_21 : decode cX9_best 21 = .ok (.ifCond .eq 23, 3) := by decide +kernel
theorem dX9_best_24 : decode cX9_best 24 = .ok (.aload_n 0, 1) := by decide +kernel
theorem dX9_best_25 : decode cX9_best 25 = .ok (.iload_n 1, 1) := by decide +kernel
theorem dX9_best_26 : decode cX9_best 26 = .ok (.iconst 0, 1) := by decide +kernel
theorem dX9_best_27 : decode cX9_best 27 = .ok (.invokevirtual 195, 3) := by decide +kernel
theorem dX9_best_30 : decode cX9_best 30 = .ok (.aload_n 0, 1) := by decide +kernel
theorem dX9_best_31 : decode cX9_best 31 = .ok (.iload_n 1, 1) := by decide +kernel
theorem dX9_best_32 : decode cX9_best 32 = .ok (.bipush 100, 2) := by decide +kernel
theorem dX9_best_34 : decode cX9_best 34 = .ok (.invokevirtual 183, 3) := by decide +kernel
theorem dX9_best_37 : decode cX9_best 37 = .ok (.iload_n 2, 1) := by decide +kernel
theorem dX9_best_38 : decode cX9_best 38 = .ok (.invokestatic 186, 3) := by decide +kernel
theorem dX9_best_41 : decode cX9_best 41 = .ok (.goto 6, 3) := by decide +kernel
theorem dX9_best_44 : decode cX9_best 44 = .ok (.ldc2_w 155, 3) := by decide +kernel
theorem dX9_best_47 : decode cX9_best 47 = .ok (.lreturn, 1) := by decide +kernel
set_option maxRecDepth 20000 in
theorem ggX9_bestRow_X9_in : GoodIn wsX9_bestRow wsX9_in := goodIn_r _ [6] (by decide +kernel) (by decide +kernel)
set_option maxRecDepth 20000 in
theorem gX9_bestRow_X9_in : GoodIn wsX9_bestRow (va_wsS RX9 54 yX9_in wsX9_in) := goodIn_app (goodIn_of _ (by decide +kernel)) ggX9_bestRow_X9_in
set_option maxRecDepth 20000 in
theorem ggX9_bestRow_X9_canLook : GoodIn wsX9_bestRow wsX9_canLook := goodIn_r _ [10, 11, 12, 13, 14, 15, 5, 16, 17, 55, 56, 57, 58, 59, 60, 61, 62, 63, 64, 65, 66, 67, 68, 69, 70, 71, 72, 73, 74, 75, 76, 77, 78, 79, 80, 81, 82, 83] (by decide +kernel) (by decide +kernel)
set_option maxRecDepth 20000 in
theorem gX9_bestRow_X9_canLook : GoodIn wsX9_bestRow (wsV RX9 176 RX9 yX9_canLook wsX9_canLook) := goodIn_app (goodIn_of _ (by decide +kernel)) ggX9_bestRow_X9_canLook
set_option maxRecDepth 20000 in
theorem ggX9_bestRow_X9_bestBy : GoodIn wsX9_bestRow wsX9_bestBy := goodIn_r _ [21, 22, 2, 23, 24, 5, 25, 26, 27, 28, 1, 3, 4, 6, 29, 30, 31, 32, 11, 33, 34, 35, 36, 37, 38, 17, 39, 40, 41, 42, 43, 44, 45, 46, 47, 48, 49, 50, 51, 52, 53, 54, 12, 55, 56, 57, 58, 59, 60, 61, 62, 63, 64, 65, 66, 67, 68, 69, 70, 71, 72, 73, 74, 75, 76, 77, 78, 79, 80, 81, 82, 83] (by decide +kernel) (by decide +kernel)
set_option maxRecDepth 20000 in
theorem gX9_bestRow_X9_bestBy : GoodIn wsX9_bestRow (wsV RX9 195 RX9 yX9_bestBy wsX9_bestBy) := goodIn_app (goodIn_of _ (by decide +kernel)) ggX9_bestRow_X9_bestBy
theorem dX9_bestRow_0 : decode cX9_bestRow 0 = .ok (.iload_n 1, 1) := by decide +kernel
theorem dX9_bestRow_1 : decode cX9_bestRow 1 = .ok (.i2l, 1) := by decide +kernel
theorem dX9_bestRow_2 : decode cX9_bestRow 2 = .ok (.lconst 1, 1) := by decide +kernel
theorem dX9_bestRow_3 : decode cX9_bestRow 3 = .ok (.ldc2_w 161, 3) := by decide +kernel
theorem dX9_bestRow_6 : decode cX9_bestRow 6 = .ok (.invokestatic 54, 3) := by decide +kernel
theorem dX9_bestRow_9 : decode cX9_bestRow 9 = .ok (.ifCond .ne 6, 3) := by decide +kernel
theorem dX9_bestRow_12 : decode cX9_bestRow 12 = .ok (.bipush (-2), 2) := by decide +kernel
theorem dX9_bestRow_14 : decode cX9_bestRow 14 = .ok (.ireturn, 1) := by decide +kernel
theorem dX9_bestRow_15 : decode cX9_bestRow 15 = .ok (.aload_n 0, 1) := by decide +kernel
theorem dX9_bestRow_16 : decode cX9_bestRow 16 = .ok (.iload_n 1, 1) := by decide +kernel
theorem dX9_bestRow_17 : decode cX9_bestRow 17 = .ok (.invokevirtual 176, 3) := by decide +kernel
theorem dX9_bestRow_20 : decode cX9_bestRow 20 = .ok (.ifCond .ne 6, 3) := by decide +kernel
theorem dX9_bestRow_23 : decode cX9_bestRow 23 = .ok (.bipush (-3), 2) := by decide +kernel
theorem dX9_bestRow_25 : decode cX9_bestRow 25 = .ok (.ireturn, 1) := by decide +kernel
theorem dX9_bestRow_26 : decode cX9_bestRow 26 = .ok (.aload_n 0, 1) := by decide +kernel
theorem dX9_bestRow_27 : decode cX9_bestRow 27 = .ok (.iload_n 1, 1) := by decide +kernel
theorem dX9_bestRow_28 : decode cX9_bestRow 28 = .ok (.iconst 0, 1) := by decide +kernel
theorem dX9_bestRow_29 : decode cX9_bestRow 29 = .ok (.invokevirtual 195, 3) := by decide +kernel
theorem dX9_bestRow_32 : decode cX9_bestRow 32 = .ok (.pop2, 1) := by decide +kernel
theorem dX9_bestRow_33 : decode cX9_bestRow 33 = .ok (.aload_n 0, 1) := by decide +kernel
theorem dX9_bestRow_34 : decode cX9_bestRow 34 = .ok (.getfield 192, 3) := by decide +kernel
theorem dX9_bestRow_37 : decode cX9_bestRow 37 = .ok (.ireturn, 1) := by decide +kernel
set_option maxRecDepth 20000 in
theorem ggX9_soon_X9_in : GoodIn wsX9_soon wsX9_in := goodIn_r _ [5] (by decide +kernel) (by decide +kernel)
set_option maxRecDepth 20000 in
theorem gX9_soon_X9_in : GoodIn wsX9_soon (va_wsS RX9 54 yX9_in wsX9_in) := goodIn_app (goodIn_of _ (by decide +kernel)) ggX9_soon_X9_in
set_option maxRecDepth 20000 in
theorem ggX9_soon_X9_sumOf : GoodIn wsX9_soon wsX9_sumOf := goodIn_r _ [9, 10, 59, 60, 61, 62, 63, 64, 65, 66, 67, 68, 69, 70, 71, 72, 73, 74, 75, 76, 77, 78, 79, 80, 81, 82, 83, 84, 85, 86, 87] (by decide +kernel) (by decide +kernel)
set_option maxRecDepth 20000 in
theorem gX9_soon_X9_sumOf : GoodIn wsX9_soon (wsV RX9 151 RX9 yX9_sumOf wsX9_sumOf) := goodIn_app (goodIn_of _ (by decide +kernel)) ggX9_soon_X9_sumOf
set_option maxRecDepth 20000 in
theorem ggX9_soon_X9_canLook : GoodIn wsX9_soon wsX9_canLook := goodIn_r _ [14, 15, 16, 6, 7, 8, 4, 9, 10, 59, 60, 61, 62, 63, 64, 65, 66, 67, 68, 69, 70, 71, 72, 73, 74, 75, 76, 77, 78, 79, 80, 81, 82, 83, 84, 85, 86, 87] (by decide +kernel) (by decide +kernel)
set_option maxRecDepth 20000 in
theorem gX9_soon_X9_canLook : GoodIn wsX9_soon (wsV RX9 176 RX9 yX9_canLook wsX9_canLook) := goodIn_app (goodIn_of _ (by decide +kernel)) ggX9_soon_X9_canLook
set_option maxRecDepth 20000 in
theorem ggX9_soon_X9_bestBy : GoodIn wsX9_soon wsX9_bestBy := goodIn_r _ [20, 21, 22, 23, 24, 4, 25, 26, 27, 28, 29, 2, 3, 5, 30, 31, 32, 33, 15, 34, 1, 35, 36, 37, 38, 10, 39, 40, 41, 42, 43, 44, 45, 46, 47, 48, 49, 50, 51, 52, 53, 54, 16, 59, 60, 61, 62, 63, 64, 65, 66, 67, 68, 69, 70, 71, 72, 73, 74, 75, 76, 77, 78, 79, 80, 81, 82, 83, 84, 85, 86, 87] (by decide +kernel) (by decide +kernel)
set_option maxRecDepth 20000 in
theorem gX9_soon_X9_bestBy : GoodIn wsX9_soon (wsV RX9 195 RX9 yX9_bestBy wsX9_bestBy) := goodIn_app (goodIn_of _ (by decide +kernel)) ggX9_soon_X9_bestBy
set_option maxRecDepth 20000 in
theorem ggX9_soon_X9_allTimes : GoodIn wsX9_soon wsX9_allTimes := goodIn_r _ [58, 6, 7, 8, 4, 9, 10, 59, 60, 61, 62, 63, 64, 65, 66, 67, 68, 69, 70, 71, 72, 73, 74, 75, 76, 77, 78, 79, 80, 81, 82, 83, 84, 85, 86, 87] (by decide +kernel) (by decide +kernel)
set_option maxRecDepth 20000 in
theorem gX9_soon_X9_allTimes : GoodIn wsX9_soon (wsV RX9 183 RX9 yX9_allTimes wsX9_allTimes) := goodIn_app (goodIn_of _ (by decide +kernel)) ggX9_soon_X9_allTimes
theorem dX9_soon_0 : decode cX9_soon 0 = .ok (.iload_n 1, 1) := by decide +kernel
theorem dX9_soon_1 : decode cX9_soon 1 = .ok (.i2l, 1) := by decide +kernel
theorem dX9_soon_2 : decode cX9_soon 2 = .ok (.lconst 1, 1) := by decide +kernel
theorem dX9_soon_3 : decode cX9_soon 3 = .ok (.ldc2_w 128, 3) := by decide +kernel
theorem dX9_soon_6 : decode cX9_soon 6 = .ok (.invokestatic 54, 3) := by decide +kernel
theorem dX9_soon_9 : decode cX9_soon 9 = .ok (.ifCond .ne 6, 3) := by decide +kernel
theorem dX9_soon_12 : decode cX9_soon 12 = .ok (.bipush (-2), 2) := by decide +kernel
theorem dX9_soon_14 : decode cX9_soon 14 = .ok (.ireturn, 1) := by decide +kernel
theorem dX9_soon_15 : decode cX9_soon 15 = .ok (.aload_n 0, 1) := by decide +kernel
theorem dX9_soon_16 : decode cX9_soon 16 = .ok (.iconst 0, 1) := by decide +kernel
theorem dX9_soon_17 : decode cX9_soon 17 = .ok (.invokevirtual 151, 3) := by decide +kernel
theorem dX9_soon_20 : decode cX9_soon 20 = .ok (.lconst 0, 1) := by decide +kernel
theorem dX9_soon_21 : decode cX9_soon 21 = .ok (.lcmp, 1) := by decide +kernel
theorem dX9_soon_22 : decode cX9_soon 22 = .ok (.ifCond .ne 6, 3) := by decide +kernel
theorem dX9_soon_25 : decode cX9_soon 25 = .ok (.bipush (-3), 2) := by decide +kernel
theorem dX9_soon_27 : decode cX9_soon 27 = .ok (.ireturn, 1) := by decide +kernel
theorem dX9_soon_28 : decode cX9_soon 28 = .ok (.iconst 1, 1) := by decide +kernel
theorem dX9_soon_29 : decode cX9_soon 29 = .ok (.istore_n 2, 1) := by decide +kernel
theorem dX9_soon_30 : decode cX9_soon 30 = .ok (.iload_n 2, 1) := by decide +kernel
theorem dX9_soon_31 : decode cX9_soon 31 = .ok (.iconst 5, 1) := by decide +kernel
theorem dX9_soon_32 : decode cX9_soon 32 = .ok (.if_icmp .ge 43, 3) := by decide +kernel
theorem dX9_soon_35 : decode cX9_soon 35 = .ok (.aload_n 0, 1) := by decide +kernel
theorem dX9_soon_36 : decode cX9_soon 36 = .ok (.iload_n 2, 1) := by decide +kernel
theorem dX9_soon_37 : decode cX9_soon 37 = .ok (.invokevirtual 176, 3) := by decide +kernel
theorem dX9_soon_40 : decode cX9_soon 40 = .ok (.ifCond .eq 35, 3) := by decide +kernel
theorem dX9_soon_43 : decode cX9_soon 43 = .ok (.aload_n 0, 1) := by decide +kernel
theorem dX9_soon_44 : decode cX9_soon 44 = .ok (.iload_n 2, 1) := by decide +kernel
theorem dX9_soon_45 : decode cX9_soon 45 = .ok (.iconst 0, 1) := by decide +kernel
theorem dX9_soon_46 : decode cX9_soon 46 = .ok (.invokevirtual 195, 3) := by decide +kernel
theorem dX9_soon_49 : decode cX9_soon 49 = .ok (.aload_n 0, 1) := by decide +kernel
theorem dX9_soon_50 : decode cX9_soon 50 = .ok (.iload_n 2, 1) := by decide +kernel
theorem dX9_soon_51 : decode cX9_soon 51 = .ok (.bipush 100, 2) := by decide +kernel
theorem dX9_soon_53 : decode cX9_soon 53 = .ok (.invokevirtual 183, 3) := by decide +kernel
theorem dX9_soon_56 : decode cX9_soon 56 = .ok (.ldc2_w 128, 3) := by decide +kernel
theorem dX9_soon_59 : decode cX9_soon 59 = .ok (.ldiv, 1) := by decide +kernel
theorem dX9_soon_60 : decode cX9_soon 60 = .ok (.iload_n 1, 1) := by decide +kernel
theorem dX9_soon_61 : decode cX9_soon 61 = .ok (.i2l, 1) := by decide +kernel
theorem dX9_soon_62 : decode cX9_soon 62 = .ok (.lmul, 1) := by decide +kernel
theorem dX9_soon_63 : decode cX9_soon 63 = .ok (.lcmp, 1) := by decide +kernel
theorem dX9_soon_64 : decode cX9_soon 64 = .ok (.ifCond .lt 5, 3) := by decide +kernel
theorem dX9_soon_67 : decode cX9_soon 67 = .ok (.iload_n 2, 1) := by decide +kernel
theorem dX9_soon_68 : decode cX9_soon 68 = .ok (.ireturn, 1) := by decide +kernel
theorem dX9_soon_69 : decode cX9_soon 69 = .ok (.iinc 2 1, 3) := by decide +kernel
theorem dX9_soon_72 : decode cX9_soon 72 = .ok (.goto (-42), 3) := by decide +kernel
theorem dX9_soon_75 : decode cX9_soon 75 = .ok (.bipush (-9), 2) := by decide +kernel
theorem dX9_soon_77 : decode cX9_soon 77 = .ok (.ireturn, 1) := by decide +kernel
set_option maxRecDepth 20000 in
theorem ggX9_first_X9_in : GoodIn wsX9_first wsX9_in := goodIn_r _ [7] (by decide +kernel) (by decide +kernel)
set_option maxRecDepth 20000 in
theorem gX9_first_X9_in : GoodIn wsX9_first (va_wsS RX9 54 yX9_in wsX9_in) := goodIn_app (goodIn_of _ (by decide +kernel)) ggX9_first_X9_in
set_option maxRecDepth 20000 in
theorem ggX9_first_X9_canLook : GoodIn wsX9_first wsX9_canLook := goodIn_r _ [11, 12, 13, 14, 15, 16, 6, 17, 18, 67, 68, 69, 70, 71, 72, 73, 74, 75, 76, 77, 78, 79, 80, 81, 82, 83, 84, 85, 86, 87, 88, 89, 90, 91, 92, 93, 94, 95] (by decide +kernel) (by decide +kernel)
set_option maxRecDepth 20000 in
theorem gX9_first_X9_canLook : GoodIn wsX9_first (wsV RX9 176 RX9 yX9_canLook wsX9_canLook) := goodIn_app (goodIn_of _ (by decide +kernel)) ggX9_first_X9_canLook
set_option maxRecDepth 20000 in
theorem ggX9_first_X9_bestBy : GoodIn wsX9_first wsX9_bestBy := goodIn_r _ [22, 23, 24, 25, 26, 6, 27, 28, 29, 30, 1, 4, 5, 7, 31, 32, 33, 34, 12, 35, 36, 37, 38, 39, 40, 18, 41, 42, 43, 44, 45, 46, 47, 48, 49, 50, 51, 52, 53, 54, 55, 56, 13, 67, 68, 69, 70, 71, 72, 73, 74, 75, 76, 77, 78, 79, 80, 81, 82, 83, 84, 85, 86, 87, 88, 89, 90, 91, 92, 93, 94, 95] (by decide +kernel) (by decide +kernel)
set_option maxRecDepth 20000 in
theorem gX9_first_X9_bestBy : GoodIn wsX9_first (wsV RX9 195 RX9 yX9_bestBy wsX9_bestBy) := goodIn_app (goodIn_of _ (by decide +kernel)) ggX9_first_X9_bestBy
set_option maxRecDepth 20000 in
theorem ggX9_first_X9_allTimes : GoodIn wsX9_first wsX9_allTimes := goodIn_r _ [60, 14, 15, 16, 6, 17, 18, 67, 68, 69, 70, 71, 72, 73, 74, 75, 76, 77, 78, 79, 80, 81, 82, 83, 84, 85, 86, 87, 88, 89, 90, 91, 92, 93, 94, 95] (by decide +kernel) (by decide +kernel)
set_option maxRecDepth 20000 in
theorem gX9_first_X9_allTimes : GoodIn wsX9_first (wsV RX9 183 RX9 yX9_allTimes wsX9_allTimes) := goodIn_app (goodIn_of _ (by decide +kernel)) ggX9_first_X9_allTimes
set_option maxRecDepth 20000 in
theorem ggX9_first_X9_part : GoodIn wsX9_first wsX9_part := goodIn_r _ [63, 64, 65, 6, 66] (by decide +kernel) (by decide +kernel)
set_option maxRecDepth 20000 in
theorem gX9_first_X9_part : GoodIn wsX9_first (va_wsS RX9 186 yX9_part wsX9_part) := goodIn_app (goodIn_of _ (by decide +kernel)) ggX9_first_X9_part
theorem dX9_first_0 : decode cX9_first 0 = .ok (.iload_n 1, 1) := by decide +kernel
theorem dX9_first_1 : decode cX9_first 1 = .ok (.i2l, 1) := by decide +kernel
theorem dX9_first_2 : decode cX9_first 2 = .ok (.lconst 1, 1) := by decide +kernel
theorem dX9_first_3 : decode cX9_first 3 = .ok (.ldc2_w 161, 3) := by decide +kernel
theorem dX9_first_6 : decode cX9_first 6 = .ok (.invokestatic 54, 3) := by decide +kernel
theorem dX9_first_9 : decode cX9_first 9 = .ok (.ifCond .ne 7, 3) := by decide +kernel
theorem dX9_first_12 : decode cX9_first 12 = .ok (.ldc2_w 149, 3) := by decide +kernel
theorem dX9_first_15 : decode cX9_first 15 = .ok (.lreturn, 1) := by decide +kernel
theorem dX9_first_16 : decode cX9_first 16 = .ok (.aload_n 0, 1) := by decide +kernel
theorem dX9_first_17 : decode cX9_first 17 = .ok (.iload_n 1, 1) := by decide +kernel
theorem dX9_first_18 : decode cX9_first 18 = .ok (.invokevirtual 176, 3) := by decide +kernel
theorem dX9_first_21 : decode cX9_first 21 = .ok (.ifCond .eq 30, 3) := by decide +kernel
theorem dX9_first_24 : decode cX9_first 24 = .ok (.aload_n 0, 1) := by decide +kernel
theorem dX9_first_25 : decode cX9_first 25 = .ok (.iload_n 1, 1) := by decide +kernel
theorem dX9_first_26 : decode cX9_first 26 = .ok (.iconst 1, 1) := by decide +kernel
theorem dX9_first_27 : decode cX9_first 27 = .ok (.invokevirtual 195, 3) := by decide +kernel
theorem dX9_first_30 : decode cX9_first 30 = .ok (.aload_n 0, 1) := by decide +kernel
theorem dX9_first_31 : decode cX9_first 31 = .ok (.iload_n 1, 1) := by decide +kernel
theorem dX9_first_32 : decode cX9_first 32 = .ok (.iconst 2, 1) := by decide +kernel
theorem dX9_first_33 : decode cX9_first 33 = .ok (.invokevirtual 195, 3) := by decide +kernel
theorem dX9_first_36 : decode cX9_first 36 = .ok (.lsub, 1) := by decide +kernel
theorem dX9_first_37 : decode cX9_first 37 = .ok (.aload_n 0, 1) := by decide +kernel
theorem dX9_first_38 : decode cX9_first 38 = .ok (.iload_n 1, 1) := by decide +kernel
theorem dX9_first_39 : decode cX9_first 39 = .ok (.bipush 100, 2) := by decide +kernel
theorem dX9_first_41 : decode cX9_first 41 = .ok (.invokevirtual 183, 3) := by decide +kernel
theorem dX9_first_44 : decode cX9_first 44 = .ok (.iload_n 2, 1) := by decide +kernel
theorem dX9_first_45 : decode cX9_first 45 = .ok (.invokestatic 186, 3) := by decide +kernel
theorem dX9_first_48 : decode cX9_first 48 = .ok (.goto 6, 3) := by decide +kernel
theorem dX9_first_51 : decode cX9_first 51 = .ok (.ldc2_w 155, 3) := by decide +kernel
theorem dX9_first_54 : decode cX9_first 54 = .ok (.lreturn, 1) := by decide +kernel
set_option maxRecDepth 20000 in
theorem ggX9_lookTwice_X9_lookAt : GoodIn wsX9_lookTwice wsX9_lookAt := goodIn_r _ [6, 7, 8, 9, 10, 11, 12, 13, 14, 15, 16, 17, 18, 19, 20, 21, 22, 23, 24, 25, 26, 27, 28, 29, 30, 31, 32, 33, 34, 35, 36, 37, 38] (by decide +kernel) (by decide +kernel)
set_option maxRecDepth 20000 in
theorem gX9_lookTwice_X9_lookAt : GoodIn wsX9_lookTwice (wsV RX9 135 RX9 yX9_lookAt wsX9_lookAt) := goodIn_app (goodIn_of _ (by decide +kernel)) ggX9_lookTwice_X9_lookAt
theorem dX9_lookTwice_0 : decode cX9_lookTwice 0 = .ok (.ldc2_w 128, 3) := by decide +kernel
theorem dX9_lookTwice_3 : decode cX9_lookTwice 3 = .ok (.aload_n 0, 1) := by decide +kernel
theorem dX9_lookTwice_4 : decode cX9_lookTwice 4 = .ok (.iload_n 1, 1) := by decide +kernel
theorem dX9_lookTwice_5 : decode cX9_lookTwice 5 = .ok (.iload_n 2, 1) := by decide +kernel
theorem dX9_lookTwice_6 : decode cX9_lookTwice 6 = .ok (.invokevirtual 135, 3) := by decide +kernel
theorem dX9_lookTwice_9 : decode cX9_lookTwice 9 = .ok (.lmul, 1) := by decide +kernel
theorem dX9_lookTwice_10 : decode cX9_lookTwice 10 = .ok (.lstore 4, 2) := by decide +kernel
theorem dX9_lookTwice_12 : decode cX9_lookTwice 12 = .ok (.lload 4, 2) := by decide +kernel
theorem dX9_lookTwice_14 : decode cX9_lookTwice 14 = .ok (.aload_n 0, 1) := by decide +kernel
theorem dX9_lookTwice_15 : decode cX9_lookTwice 15 = .ok (.iload_n 1, 1) := by decide +kernel
theorem dX9_lookTwice_16 : decode cX9_lookTwice 16 = .ok (.iload_n 3, 1) := by decide +kernel
theorem dX9_lookTwice_17 : decode cX9_lookTwice 17 = .ok (.invokevirtual 135, 3) := by decide +kernel
theorem dX9_lookTwice_20 : decode cX9_lookTwice 20 = .ok (.ladd, 1) := by decide +kernel
theorem dX9_lookTwice_21 : decode cX9_lookTwice 21 = .ok (.lreturn, 1) := by decide +kernel
set_option maxRecDepth 20000 in
theorem ggX9_foundByTwo_X9_lay : GoodIn wsX9_foundByTwo wsX9_lay := goodIn_r _ [10, 11, 33, 34, 35, 36, 37, 38, 39, 40, 41, 42, 43, 44, 45, 46, 47, 48, 49, 50, 51, 52, 53, 54, 55, 56, 57, 58, 59, 60, 61] (by decide +kernel) (by decide +kernel)
set_option maxRecDepth 20000 in
theorem gX9_foundByTwo_X9_lay : GoodIn wsX9_foundByTwo (wsV RX9 167 RX9 yX9_lay wsX9_lay) := goodIn_app (goodIn_of _ (by decide +kernel)) ggX9_foundByTwo_X9_lay
set_option maxRecDepth 20000 in
theorem ggX9_foundByTwo_X9_to : GoodIn wsX9_foundByTwo wsX9_to := goodIn_r _ [14] (by decide +kernel) (by decide +kernel)
set_option maxRecDepth 20000 in
theorem gX9_foundByTwo_X9_to : GoodIn wsX9_foundByTwo (va_wsS RX9 125 yX9_to wsX9_to) := goodIn_app (goodIn_of _ (by decide +kernel)) ggX9_foundByTwo_X9_to
set_option maxRecDepth 20000 in
theorem ggX9_foundByTwo_X9_lookTwice : GoodIn wsX9_foundByTwo wsX9_lookTwice := goodIn_r _ [18, 5, 19, 20, 21, 9, 22, 23, 24, 11, 33, 34, 35, 36, 37, 38, 39, 40, 41, 42, 43, 44, 45, 46, 47, 48, 49, 50, 51, 52, 53, 54, 55, 56, 57, 58, 59, 60, 61] (by decide +kernel) (by decide +kernel)
set_option maxRecDepth 20000 in
theorem gX9_foundByTwo_X9_lookTwice : GoodIn wsX9_foundByTwo (wsV RX9 200 RX9 yX9_lookTwice wsX9_lookTwice) := goodIn_app (goodIn_of _ (by decide +kernel)) ggX9_foundByTwo_X9_lookTwice
set_option maxRecDepth 20000 in
theorem ggX9_foundByTwo_X9_drift : GoodIn wsX9_foundByTwo wsX9_drift := goodIn_r _ [28, 29, 11, 30, 31, 32, 5, 12, 13, 9, 14, 33, 34, 35, 36, 37, 38, 39, 40, 41, 42, 43, 44, 45, 46, 47, 48, 49, 50, 51, 52, 53, 54, 55, 56, 57, 58, 59, 60, 61] (by decide +kernel) (by decide +kernel)
set_option maxRecDepth 20000 in
theorem gX9_foundByTwo_X9_drift : GoodIn wsX9_foundByTwo (wsV RX9 139 RX9 yX9_drift wsX9_drift) := goodIn_app (goodIn_of _ (by decide +kernel)) ggX9_foundByTwo_X9_drift
theorem dX9_foundByTwo_0 : decode cX9_foundByTwo 0 = .ok (.aload_n 0, 1) := by decide +kernel
theorem dX9_foundByTwo_1 : decode cX9_foundByTwo 1 = .ok (.iconst 0, 1) := by decide +kernel
theorem dX9_foundByTwo_2 : decode cX9_foundByTwo 2 = .ok (.iconst 1, 1) := by decide +kernel
theorem dX9_foundByTwo_3 : decode cX9_foundByTwo 3 = .ok (.invokevirtual 167, 3) := by decide +kernel
theorem dX9_foundByTwo_6 : decode cX9_foundByTwo 6 = .ok (.aload_n 0, 1) := by decide +kernel
theorem dX9_foundByTwo_7 : decode cX9_foundByTwo 7 = .ok (.getfield 23, 3) := by decide +kernel
theorem dX9_foundByTwo_10 : decode cX9_foundByTwo 10 = .ok (.iconst 0, 1) := by decide +kernel
theorem dX9_foundByTwo_11 : decode cX9_foundByTwo 11 = .ok (.iaload, 1) := by decide +kernel
theorem dX9_foundByTwo_12 : decode cX9_foundByTwo 12 = .ok (.istore_n 3, 1) := by decide +kernel
theorem dX9_foundByTwo_13 : decode cX9_foundByTwo 13 = .ok (.aload_n 0, 1) := by decide +kernel
theorem dX9_foundByTwo_14 : decode cX9_foundByTwo 14 = .ok (.getfield 109, 3) := by decide +kernel
theorem dX9_foundByTwo_17 : decode cX9_foundByTwo 17 = .ok (.istore 4, 2) := by decide +kernel
theorem dX9_foundByTwo_19 : decode cX9_foundByTwo 19 = .ok (.lconst 0, 1) := by decide +kernel
theorem dX9_foundByTwo_20 : decode cX9_foundByTwo 20 = .ok (.lstore 5, 2) := by decide +kernel
theorem dX9_foundByTwo_22 : decode cX9_foundByTwo 22 = .ok (.iload_n 2, 1) := by decide +kernel
theorem dX9_foundByTwo_23 : decode cX9_foundByTwo 23 = .ok (.istore 7, 2) := by decide +kernel
theorem dX9_foundByTwo_25 : decode cX9_foundByTwo 25 = .ok (.iconst 0, 1) := by decide +kernel
theorem dX9_foundByTwo_26 : decode cX9_foundByTwo 26 = .ok (.istore 8, 2) := by decide +kernel
theorem dX9_foundByTwo_28 : decode cX9_foundByTwo 28 = .ok (.iload 8, 2) := by decide +kernel
theorem dX9_foundByTwo_30 : decode cX9_foundByTwo 30 = .ok (.iload_n 1, 1) := by decide +kernel
theorem dX9_foundByTwo_31 : decode cX9_foundByTwo 31 = .ok (.if_icmp .ge 145, 3) := by decide +kernel
theorem dX9_foundByTwo_34 : decode cX9_foundByTwo 34 = .ok (.iload 7, 2) := by decide +kernel
theorem dX9_foundByTwo_36 : decode cX9_foundByTwo 36 = .ok (.iconst 4, 1) := by decide +kernel
theorem dX9_foundByTwo_37 : decode cX9_foundByTwo 37 = .ok (.irem, 1) := by decide +kernel
theorem dX9_foundByTwo_38 : decode cX9_foundByTwo 38 = .ok (.istore 9, 2) := by decide +kernel
theorem dX9_foundByTwo_40 : decode cX9_foundByTwo 40 = .ok (.iload 7, 2) := by decide +kernel
theorem dX9_foundByTwo_42 : decode cX9_foundByTwo 42 = .ok (.iconst 4, 1) := by decide +kernel
theorem dX9_foundByTwo_43 : decode cX9_foundByTwo 43 = .ok (.idiv, 1) := by decide +kernel
theorem dX9_foundByTwo_44 : decode cX9_foundByTwo 44 = .ok (.iconst 3, 1) := by decide +kernel
theorem dX9_foundByTwo_45 : decode cX9_foundByTwo 45 = .ok (.irem, 1) := by decide +kernel
theorem dX9_foundByTwo_46 : decode cX9_foundByTwo 46 = .ok (.istore 10, 2) := by decide +kernel
theorem dX9_foundByTwo_48 : decode cX9_foundByTwo 48 = .ok (.iload 7, 2) := by decide +kernel
theorem dX9_foundByTwo_50 : decode cX9_foundByTwo 50 = .ok (.bipush 12, 2) := by decide +kernel
theorem dX9_foundByTwo_52 : decode cX9_foundByTwo 52 = .ok (.idiv, 1) := by decide +kernel
theorem dX9_foundByTwo_53 : decode cX9_foundByTwo 53 = .ok (.istore 7, 2) := by decide +kernel
theorem dX9_foundByTwo_55 : decode cX9_foundByTwo 55 = .ok (.aload_n 0, 1) := by decide +kernel
theorem dX9_foundByTwo_56 : decode cX9_foundByTwo 56 = .ok (.getfield 23, 3) := by decide +kernel
theorem dX9_foundByTwo_59 : decode cX9_foundByTwo 59 = .ok (.iconst 1, 1) := by decide +kernel
theorem dX9_foundByTwo_60 : decode cX9_foundByTwo 60 = .ok (.iaload, 1) := by decide +kernel
theorem dX9_foundByTwo_61 : decode cX9_foundByTwo 61 = .ok (.iload 8, 2) := by decide +kernel
theorem dX9_foundByTwo_63 : decode cX9_foundByTwo 63 = .ok (.iadd, 1) := by decide +kernel
theorem dX9_foundByTwo_64 : decode cX9_foundByTwo 64 = .ok (.aload_n 0, 1) := by decide +kernel
theorem dX9_foundByTwo_65 : decode cX9_foundByTwo 65 = .ok (.getfield 116, 3) := by decide +kernel
theorem dX9_foundByTwo_68 : decode cX9_foundByTwo 68 = .ok (.if_icmp .lt 7, 3) := by decide +kernel
theorem dX9_foundByTwo_71 : decode cX9_foundByTwo 71 = .ok (.iconst 1, 1) := by decide +kernel
theorem dX9_foundByTwo_72 : decode cX9_foundByTwo 72 = .ok (.goto 4, 3) := by decide +kernel
theorem dX9_foundByTwo_75 : decode cX9_foundByTwo 75 = .ok (.iconst 0, 1) := by decide +kernel
theorem dX9_foundByTwo_76 : decode cX9_foundByTwo 76 = .ok (.istore 11, 2) := by decide +kernel
theorem dX9_foundByTwo_78 : decode cX9_foundByTwo 78 = .ok (.iload 9, 2) := by decide +kernel
theorem dX9_foundByTwo_80 : decode cX9_foundByTwo 80 = .ok (.iconst 3, 1) := by decide +kernel
theorem dX9_foundByTwo_81 : decode cX9_foundByTwo 81 = .ok (.if_icmp .ne 7, 3) := by decide +kernel
theorem dX9_foundByTwo_84 : decode cX9_foundByTwo 84 = .ok (.iload_n 3, 1) := by decide +kernel
theorem dX9_foundByTwo_85 : decode cX9_foundByTwo 85 = .ok (.goto 9, 3) := by decide +kernel
theorem dX9_foundByTwo_88 : decode cX9_foundByTwo 88 = .ok (.iload_n 3, 1) := by decide +kernel
theorem dX9_foundByTwo_89 : decode cX9_foundByTwo 89 = .ok (.iload 9, 2) := by decide +kernel
theorem dX9_foundByTwo_91 : decode cX9_foundByTwo 91 = .ok (.invokestatic 125, 3) := by decide +kernel
theorem dX9_foundByTwo_94 : decode cX9_foundByTwo 94 = .ok (.istore_n 3, 1) := by decide +kernel
theorem dX9_foundByTwo_95 : decode cX9_foundByTwo 95 = .ok (.iload 11, 2) := by decide +kernel
theorem dX9_foundByTwo_97 : decode cX9_foundByTwo 97 = .ok (.ifCond .eq 13, 3) := by decide +kernel
theorem dX9_foundByTwo_100 : decode cX9_foundByTwo 100 = .ok (.iload 4, 2) := by decide +kernel
theorem dX9_foundByTwo_102 : decode cX9_foundByTwo 102 = .ok (.iload 10, 2) := by decide +kernel
theorem dX9_foundByTwo_104 : decode cX9_foundByTwo 104 = .ok (.invokestatic 125, 3) := by decide +kernel
theorem dX9_foundByTwo_107 : decode cX9_foundByTwo 107 = .ok (.goto 5, 3) := by decide +kernel
theorem dX9_foundByTwo_110 : decode cX9_foundByTwo 110 = .ok (.iload 4, 2) := by decide +kernel
theorem dX9_foundByTwo_112 : decode cX9_foundByTwo 112 = .ok (.istore 4, 2) := by decide +kernel
theorem dX9_foundByTwo_114 : decode cX9_foundByTwo 114 = .ok (.ldc2_w 198, 3) := by decide +kernel
theorem dX9_foundByTwo_117 : decode cX9_foundByTwo 117 = .ok (.lload 5, 2) := by decide +kernel
theorem dX9_foundByTwo_119 : decode cX9_foundByTwo 119 = .ok (.lmul, 1) := by decide +kernel
theorem dX9_foundByTwo_120 : decode cX9_foundByTwo 120 = .ok (.ldc2_w 128, 3) := by decide +kernel
theorem dX9_foundByTwo_123 : decode cX9_foundByTwo 123 = .ok (.aload_n 0, 1) := by decide +kernel
theorem dX9_foundByTwo_124 : decode cX9_foundByTwo 124 = .ok (.iconst 1, 1) := by decide +kernel
theorem dX9_foundByTwo_125 : decode cX9_foundByTwo 125 = .ok (.iload 9, 2) := by decide +kernel
theorem dX9_foundByTwo_127 : decode cX9_foundByTwo 127 = .ok (.iconst 3, 1) := by decide +kernel
theorem dX9_foundByTwo_128 : decode cX9_foundByTwo 128 = .ok (.if_icmp .ne 8, 3) := by decide +kernel
theorem dX9_foundByTwo_131 : decode cX9_foundByTwo 131 = .ok (.bipush 10, 2) := by decide +kernel
theorem dX9_foundByTwo_133 : decode cX9_foundByTwo 133 = .ok (.goto 4, 3) := by decide +kernel
theorem dX9_foundByTwo_136 : decode cX9_foundByTwo 136 = .ok (.iload_n 3, 1) := by decide +kernel
theorem dX9_foundByTwo_137 : decode cX9_foundByTwo 137 = .ok (.iload 11, 2) := by decide +kernel
theorem dX9_foundByTwo_139 : decode cX9_foundByTwo 139 = .ok (.ifCond .eq 8, 3) := by decide +kernel
theorem dX9_foundByTwo_142 : decode cX9_foundByTwo 142 = .ok (.iload 4, 2) := by decide +kernel
theorem dX9_foundByTwo_144 : decode cX9_foundByTwo 144 = .ok (.goto 5, 3) := by decide +kernel
theorem dX9_foundByTwo_147 : decode cX9_foundByTwo 147 = .ok (.bipush (-9), 2) := by decide +kernel
theorem dX9_foundByTwo_149 : decode cX9_foundByTwo 149 = .ok (.invokevirtual 200, 3) := by decide +kernel
theorem dX9_foundByTwo_152 : decode cX9_foundByTwo 152 = .ok (.lmul, 1) := by decide +kernel
theorem dX9_foundByTwo_153 : decode cX9_foundByTwo 153 = .ok (.ladd, 1) := by decide +kernel
theorem dX9_foundByTwo_154 : decode cX9_foundByTwo 154 = .ok (.lstore 5, 2) := by decide +kernel
theorem dX9_foundByTwo_156 : decode cX9_foundByTwo 156 = .ok (.aload_n 0, 1) := by decide +kernel
theorem dX9_foundByTwo_157 : decode cX9_foundByTwo 157 = .ok (.iconst 1, 1) := by decide +kernel
theorem dX9_foundByTwo_158 : decode cX9_foundByTwo 158 = .ok (.aload_n 0, 1) := by decide +kernel
theorem dX9_foundByTwo_159 : decode cX9_foundByTwo 159 = .ok (.getfield 23, 3) := by decide +kernel
theorem dX9_foundByTwo_162 : decode cX9_foundByTwo 162 = .ok (.iconst 1, 1) := by decide +kernel
theorem dX9_foundByTwo_163 : decode cX9_foundByTwo 163 = .ok (.iaload, 1) := by decide +kernel
theorem dX9_foundByTwo_164 : decode cX9_foundByTwo 164 = .ok (.iload 8, 2) := by decide +kernel
theorem dX9_foundByTwo_166 : decode cX9_foundByTwo 166 = .ok (.iadd, 1) := by decide +kernel
theorem dX9_foundByTwo_167 : decode cX9_foundByTwo 167 = .ok (.invokevirtual 139, 3) := by decide +kernel
theorem dX9_foundByTwo_170 : decode cX9_foundByTwo 170 = .ok (.iinc 8 1, 3) := by decide +kernel
theorem dX9_foundByTwo_173 : decode cX9_foundByTwo 173 = .ok (.goto (-145), 3) := by decide +kernel
theorem dX9_foundByTwo_176 : decode cX9_foundByTwo 176 = .ok (.lload 5, 2) := by decide +kernel
theorem dX9_foundByTwo_178 : decode cX9_foundByTwo 178 = .ok (.lreturn, 1) := by decide +kernel
set_option maxRecDepth 20000 in
theorem ggX9_withSecond_X9_in : GoodIn wsX9_withSecond wsX9_in := goodIn_r _ [8] (by decide +kernel) (by decide +kernel)
set_option maxRecDepth 20000 in
theorem gX9_withSecond_X9_in : GoodIn wsX9_withSecond (va_wsS RX9 54 yX9_in wsX9_in) := goodIn_app (goodIn_of _ (by decide +kernel)) ggX9_withSecond_X9_in
set_option maxRecDepth 20000 in
theorem ggX9_withSecond_X9_canLook : GoodIn wsX9_withSecond wsX9_canLook := goodIn_r _ [12, 13, 14, 15, 16, 17, 7, 18, 19, 62, 63, 64, 65, 66, 67, 68, 69, 70, 71, 72, 73, 74, 75, 76, 77, 78, 79, 80, 81, 82, 83, 84, 85, 86, 87, 88, 89, 90] (by decide +kernel) (by decide +kernel)
set_option maxRecDepth 20000 in
theorem gX9_withSecond_X9_canLook : GoodIn wsX9_withSecond (wsV RX9 176 RX9 yX9_canLook wsX9_canLook) := goodIn_app (goodIn_of _ (by decide +kernel)) ggX9_withSecond_X9_canLook
set_option maxRecDepth 20000 in
theorem ggX9_withSecond_X9_foundByTwo : GoodIn wsX9_withSecond wsX9_foundByTwo := goodIn_r _ [23, 13, 24, 25, 26, 27, 28, 29, 30, 7, 31, 19, 32, 33, 34, 35, 36, 37, 38, 39, 40, 41, 42, 43, 44, 45, 46, 47, 48, 49, 50, 51, 14, 62, 63, 64, 65, 66, 67, 68, 69, 70, 71, 72, 73, 74, 75, 76, 77, 78, 79, 80, 81, 82, 83, 84, 85, 86, 87, 88, 89, 90] (by decide +kernel) (by decide +kernel)
set_option maxRecDepth 20000 in
theorem gX9_withSecond_X9_foundByTwo : GoodIn wsX9_withSecond (wsV RX9 204 RX9 yX9_foundByTwo wsX9_foundByTwo) := goodIn_app (goodIn_of _ (by decide +kernel)) ggX9_withSecond_X9_foundByTwo
set_option maxRecDepth 20000 in
theorem ggX9_withSecond_X9_allTimes : GoodIn wsX9_withSecond wsX9_allTimes := goodIn_r _ [55, 15, 16, 17, 7, 18, 19, 62, 63, 64, 65, 66, 67, 68, 69, 70, 71, 72, 73, 74, 75, 76, 77, 78, 79, 80, 81, 82, 83, 84, 85, 86, 87, 88, 89, 90] (by decide +kernel) (by decide +kernel)
set_option maxRecDepth 20000 in
theorem gX9_withSecond_X9_allTimes : GoodIn wsX9_withSecond (wsV RX9 183 RX9 yX9_allTimes wsX9_allTimes) := goodIn_app (goodIn_of _ (by decide +kernel)) ggX9_withSecond_X9_allTimes
set_option maxRecDepth 20000 in
theorem ggX9_withSecond_X9_part : GoodIn wsX9_withSecond wsX9_part := goodIn_r _ [58, 59, 60, 7, 61] (by decide +kernel) (by decide +kernel)
set_option maxRecDepth 20000 in
theorem gX9_withSecond_X9_part : GoodIn wsX9_withSecond (va_wsS RX9 186 yX9_part wsX9_part) := goodIn_app (goodIn_of _ (by decide +kernel)) ggX9_withSecond_X9_part
theorem dX9_withSecond_0 : decode cX9_withSecond 0 = .ok (.iload_n 1, 1) := by decide +kernel
theorem dX9_withSecond_1 : decode cX9_withSecond 1 = .ok (.i2l, 1) := by decide +kernel
theorem dX9_withSecond_2 : decode cX9_withSecond 2 = .ok (.lconst 1, 1) := by decide +kernel
theorem dX9_withSecond_3 : decode cX9_withSecond 3 = .ok (.ldc2_w 130, 3) := by decide +kernel
theorem dX9_withSecond_6 : decode cX9_withSecond 6 = .ok (.invokestatic 54, 3) := by decide +kernel
theorem dX9_withSecond_9 : decode cX9_withSecond 9 = .ok (.ifCond .ne 7, 3) := by decide +kernel
theorem dX9_withSecond_12 : decode cX9_withSecond 12 = .ok (.ldc2_w 149, 3) := by decide +kernel
theorem dX9_withSecond_15 : decode cX9_withSecond 15 = .ok (.lreturn, 1) := by decide +kernel
theorem dX9_withSecond_16 : decode cX9_withSecond 16 = .ok (.aload_n 0, 1) := by decide +kernel
theorem dX9_withSecond_17 : decode cX9_withSecond 17 = .ok (.getfield 112, 3) := by decide +kernel
theorem dX9_withSecond_20 : decode cX9_withSecond 20 = .ok (.ifCond .eq 11, 3) := by decide +kernel
theorem dX9_withSecond_23 : decode cX9_withSecond 23 = .ok (.aload_n 0, 1) := by decide +kernel
theorem dX9_withSecond_24 : decode cX9_withSecond 24 = .ok (.iload_n 1, 1) := by decide +kernel
theorem dX9_withSecond_25 : decode cX9_withSecond 25 = .ok (.invokevirtual 176, 3) := by decide +kernel
theorem dX9_withSecond_28 : decode cX9_withSecond 28 = .ok (.ifCond .ne 7, 3) := by decide +kernel
theorem dX9_withSecond_31 : decode cX9_withSecond 31 = .ok (.ldc2_w 155, 3) := by decide +kernel
theorem dX9_withSecond_34 : decode cX9_withSecond 34 = .ok (.lreturn, 1) := by decide +kernel
theorem dX9_withSecond_35 : decode cX9_withSecond 35 = .ok (.lconst 0, 1) := by decide +kernel
theorem dX9_withSecond_36 : decode cX9_withSecond 36 = .ok (.lstore_n 3, 1) := by decide +kernel
theorem dX9_withSecond_37 : decode cX9_withSecond 37 = .ok (.iconst 0, 1) := by decide +kernel
theorem dX9_withSecond_38 : decode cX9_withSecond 38 = .ok (.istore 5, 2) := by decide +kernel
theorem dX9_withSecond_40 : decode cX9_withSecond 40 = .ok (.iload 5, 2) := by decide +kernel
theorem dX9_withSecond_42 : decode cX9_withSecond 42 = .ok (.iload_n 1, 1) := by decide +kernel
theorem dX9_withSecond_43 : decode cX9_withSecond 43 = .ok (.iconst 1, 1) := by decide +kernel
theorem dX9_withSecond_44 : decode cX9_withSecond 44 = .ok (.if_icmp .ne 8, 3) := by decide +kernel
theorem dX9_withSecond_47 : decode cX9_withSecond 47 = .ok (.bipush 12, 2) := by decide +kernel
theorem dX9_withSecond_49 : decode cX9_withSecond 49 = .ok (.goto 6, 3) := by decide +kernel
theorem dX9_withSecond_52 : decode cX9_withSecond 52 = .ok (.sipush 144, 3) := by decide +kernel
theorem dX9_withSecond_55 : decode cX9_withSecond 55 = .ok (.if_icmp .ge 32, 3) := by decide +kernel
theorem dX9_withSecond_58 : decode cX9_withSecond 58 = .ok (.aload_n 0, 1) := by decide +kernel
theorem dX9_withSecond_59 : decode cX9_withSecond 59 = .ok (.iload_n 1, 1) := by decide +kernel
theorem dX9_withSecond_60 : decode cX9_withSecond 60 = .ok (.iload 5, 2) := by decide +kernel
theorem dX9_withSecond_62 : decode cX9_withSecond 62 = .ok (.invokevirtual 204, 3) := by decide +kernel
theorem dX9_withSecond_65 : decode cX9_withSecond 65 = .ok (.lstore 6, 2) := by decide +kernel
theorem dX9_withSecond_67 : decode cX9_withSecond 67 = .ok (.lload 6, 2) := by decide +kernel
theorem dX9_withSecond_69 : decode cX9_withSecond 69 = .ok (.lload_n 3, 1) := by decide +kernel
theorem dX9_withSecond_70 : decode cX9_withSecond 70 = .ok (.lcmp, 1) := by decide +kernel
theorem dX9_withSecond_71 : decode cX9_withSecond 71 = .ok (.ifCond .le 8, 3) := by decide +kernel
theorem dX9_withSecond_74 : decode cX9_withSecond 74 = .ok (.lload 6, 2) := by decide +kernel
theorem dX9_withSecond_76 : decode cX9_withSecond 76 = .ok (.goto 4, 3) := by decide +kernel
theorem dX9_withSecond_79 : decode cX9_withSecond 79 = .ok (.lload_n 3, 1) := by decide +kernel
theorem dX9_withSecond_80 : decode cX9_withSecond 80 = .ok (.lstore_n 3, 1) := by decide +kernel
theorem dX9_withSecond_81 : decode cX9_withSecond 81 = .ok (.iinc 5 1, 3) := by decide +kernel
theorem dX9_withSecond_84 : decode cX9_withSecond 84 = .ok (.goto (-44), 3) := by decide +kernel
theorem dX9_withSecond_87 : decode cX9_withSecond 87 = .ok (.lload_n 3, 1) := by decide +kernel
theorem dX9_withSecond_88 : decode cX9_withSecond 88 = .ok (.aload_n 0, 1) := by decide +kernel
theorem dX9_withSecond_89 : decode cX9_withSecond 89 = .ok (.iload_n 1, 1) := by decide +kernel
theorem dX9_withSecond_90 : decode cX9_withSecond 90 = .ok (.sipush 1000, 3) := by decide +kernel
theorem dX9_withSecond_93 : decode cX9_withSecond 93 = .ok (.invokevirtual 183, 3) := by decide +kernel
theorem dX9_withSecond_96 : decode cX9_withSecond 96 = .ok (.iload_n 2, 1) := by decide +kernel
theorem dX9_withSecond_97 : decode cX9_withSecond 97 = .ok (.invokestatic 186, 3) := by decide +kernel
theorem dX9_withSecond_100 : decode cX9_withSecond 100 = .ok (.lreturn, 1) := by decide +kernel
theorem dX9_lanes_0 : decode cX9_lanes 0 = .ok (.bipush (-9), 2) := by decide +kernel
theorem dX9_lanes_2 : decode cX9_lanes 2 = .ok (.istore_n 1, 1) := by decide +kernel
theorem dX9_lanes_3 : decode cX9_lanes 3 = .ok (.bipush (-9), 2) := by decide +kernel
theorem dX9_lanes_5 : decode cX9_lanes 5 = .ok (.istore_n 2, 1) := by decide +kernel
theorem dX9_lanes_6 : decode cX9_lanes 6 = .ok (.iconst 0, 1) := by decide +kernel
theorem dX9_lanes_7 : decode cX9_lanes 7 = .ok (.istore_n 3, 1) := by decide +kernel
theorem dX9_lanes_8 : decode cX9_lanes 8 = .ok (.iload_n 3, 1) := by decide +kernel
theorem dX9_lanes_9 : decode cX9_lanes 9 = .ok (.bipush 10, 2) := by decide +kernel
theorem dX9_lanes_11 : decode cX9_lanes 11 = .ok (.if_icmp .ge 49, 3) := by decide +kernel
theorem dX9_lanes_14 : decode cX9_lanes 14 = .ok (.aload_n 0, 1) := by decide +kernel
theorem dX9_lanes_15 : decode cX9_lanes 15 = .ok (.getfield 19, 3) := by decide +kernel
theorem dX9_lanes_18 : decode cX9_lanes 18 = .ok (.iload_n 3, 1) := by decide +kernel
theorem dX9_lanes_19 : decode cX9_lanes 19 = .ok (.laload, 1) := by decide +kernel
theorem dX9_lanes_20 : decode cX9_lanes 20 = .ok (.lconst 0, 1) := by decide +kernel
theorem dX9_lanes_21 : decode cX9_lanes 21 = .ok (.lcmp, 1) := by decide +kernel
theorem dX9_lanes_22 : decode cX9_lanes 22 = .ok (.ifCond .le 13, 3) := by decide +kernel
theorem dX9_lanes_25 : decode cX9_lanes 25 = .ok (.iload_n 1, 1) := by decide +kernel
theorem dX9_lanes_26 : decode cX9_lanes 26 = .ok (.bipush (-9), 2) := by decide +kernel
theorem dX9_lanes_28 : decode cX9_lanes 28 = .ok (.if_icmp .ne 7, 3) := by decide +kernel
theorem dX9_lanes_31 : decode cX9_lanes 31 = .ok (.iload_n 3, 1) := by decide +kernel
theorem dX9_lanes_32 : decode cX9_lanes 32 = .ok (.goto 4, 3) := by decide +kernel
theorem dX9_lanes_35 : decode cX9_lanes 35 = .ok (.iload_n 1, 1) := by decide +kernel
theorem dX9_lanes_36 : decode cX9_lanes 36 = .ok (.istore_n 1, 1) := by decide +kernel
theorem dX9_lanes_37 : decode cX9_lanes 37 = .ok (.aload_n 0, 1) := by decide +kernel
theorem dX9_lanes_38 : decode cX9_lanes 38 = .ok (.getfield 19, 3) := by decide +kernel
theorem dX9_lanes_41 : decode cX9_lanes 41 = .ok (.iload_n 3, 1) := by decide +kernel
theorem dX9_lanes_42 : decode cX9_lanes 42 = .ok (.laload, 1) := by decide +kernel
theorem dX9_lanes_43 : decode cX9_lanes 43 = .ok (.lconst 0, 1) := by decide +kernel
theorem dX9_lanes_44 : decode cX9_lanes 44 = .ok (.lcmp, 1) := by decide +kernel
theorem dX9_lanes_45 : decode cX9_lanes 45 = .ok (.ifCond .le 7, 3) := by decide +kernel
theorem dX9_lanes_48 : decode cX9_lanes 48 = .ok (.iload_n 3, 1) := by decide +kernel
theorem dX9_lanes_49 : decode cX9_lanes 49 = .ok (.goto 4, 3) := by decide +kernel
theorem dX9_lanes_52 : decode cX9_lanes 52 = .ok (.iload_n 2, 1) := by decide +kernel
theorem dX9_lanes_53 : decode cX9_lanes 53 = .ok (.istore_n 2, 1) := by decide +kernel
theorem dX9_lanes_54 : decode cX9_lanes 54 = .ok (.iinc 3 1, 3) := by decide +kernel
theorem dX9_lanes_57 : decode cX9_lanes 57 = .ok (.goto (-49), 3) := by decide +kernel
theorem dX9_lanes_60 : decode cX9_lanes 60 = .ok (.iload_n 1, 1) := by decide +kernel
theorem dX9_lanes_61 : decode cX9_lanes 61 = .ok (.bipush (-9), 2) := by decide +kernel
theorem dX9_lanes_63 : decode cX9_lanes 63 = .ok (.if_icmp .ne 5, 3) := by decide +kernel
theorem dX9_lanes_66 : decode cX9_lanes 66 = .ok (.iconst 0, 1) := by decide +kernel
theorem dX9_lanes_67 : decode cX9_lanes 67 = .ok (.ireturn, 1) := by decide +kernel
theorem dX9_lanes_68 : decode cX9_lanes 68 = .ok (.aload_n 0, 1) := by decide +kernel
theorem dX9_lanes_69 : decode cX9_lanes 69 = .ok (.getfield 23, 3) := by decide +kernel
theorem dX9_lanes_72 : decode cX9_lanes 72 = .ok (.iconst 0, 1) := by decide +kernel
theorem dX9_lanes_73 : decode cX9_lanes 73 = .ok (.iaload, 1) := by decide +kernel
theorem dX9_lanes_74 : decode cX9_lanes 74 = .ok (.iload_n 1, 1) := by decide +kernel
theorem dX9_lanes_75 : decode cX9_lanes 75 = .ok (.if_icmp .le 14, 3) := by decide +kernel
theorem dX9_lanes_78 : decode cX9_lanes 78 = .ok (.aload_n 0, 1) := by decide +kernel
theorem dX9_lanes_79 : decode cX9_lanes 79 = .ok (.getfield 23, 3) := by decide +kernel
theorem dX9_lanes_82 : decode cX9_lanes 82 = .ok (.iconst 0, 1) := by decide +kernel
theorem dX9_lanes_83 : decode cX9_lanes 83 = .ok (.iaload, 1) := by decide +kernel
theorem dX9_lanes_84 : decode cX9_lanes 84 = .ok (.iload_n 1, 1) := by decide +kernel
theorem dX9_lanes_85 : decode cX9_lanes 85 = .ok (.isub, 1) := by decide +kernel
theorem dX9_lanes_86 : decode cX9_lanes 86 = .ok (.goto 4, 3) := by decide +kernel
theorem dX9_lanes_89 : decode cX9_lanes 89 = .ok (.iconst 0, 1) := by decide +kernel
theorem dX9_lanes_90 : decode cX9_lanes 90 = .ok (.istore_n 3, 1) := by decide +kernel
theorem dX9_lanes_91 : decode cX9_lanes 91 = .ok (.aload_n 0, 1) := by decide +kernel
theorem dX9_lanes_92 : decode cX9_lanes 92 = .ok (.getfield 23, 3) := by decide +kernel
theorem dX9_lanes_95 : decode cX9_lanes 95 = .ok (.iconst 0, 1) := by decide +kernel
theorem dX9_lanes_96 : decode cX9_lanes 96 = .ok (.iaload, 1) := by decide +kernel
theorem dX9_lanes_97 : decode cX9_lanes 97 = .ok (.iload_n 2, 1) := by decide +kernel
theorem dX9_lanes_98 : decode cX9_lanes 98 = .ok (.if_icmp .ge 14, 3) := by decide +kernel
theorem dX9_lanes_101 : decode cX9_lanes 101 = .ok (.iload_n 2, 1) := by decide +kernel
theorem dX9_lanes_102 : decode cX9_lanes 102 = .ok (.aload_n 0, 1) := by decide +kernel
theorem dX9_lanes_103 : decode cX9_lanes 103 = .ok (.getfield 23, 3) := by decide +kernel
theorem dX9_lanes_106 : decode cX9_lanes 106 = .ok (.iconst 0, 1) := by decide +kernel
theorem dX9_lanes_107 : decode cX9_lanes 107 = .ok (.iaload, 1) := by decide +kernel
theorem dX9_lanes_108 : decode cX9_lanes 108 = .ok (.isub, 1) := by decide +kernel
theorem dX9_lanes_109 : decode cX9_lanes 109 = .ok (.goto 4, 3) := by decide +kernel
theorem dX9_lanes_112 : decode cX9_lanes 112 = .ok (.iconst 0, 1) := by decide +kernel
theorem dX9_lanes_113 : decode cX9_lanes 113 = .ok (.istore 4, 2) := by decide +kernel
theorem dX9_lanes_115 : decode cX9_lanes 115 = .ok (.iload_n 3, 1) := by decide +kernel
theorem dX9_lanes_116 : decode cX9_lanes 116 = .ok (.iload 4, 2) := by decide +kernel
theorem dX9_lanes_118 : decode cX9_lanes 118 = .ok (.if_icmp .ge 7, 3) := by decide +kernel
theorem dX9_lanes_121 : decode cX9_lanes 121 = .ok (.iload_n 3, 1) := by decide +kernel
theorem dX9_lanes_122 : decode cX9_lanes 122 = .ok (.goto 5, 3) := by decide +kernel
theorem dX9_lanes_125 : decode cX9_lanes 125 = .ok (.iload 4, 2) := by decide +kernel
theorem dX9_lanes_127 : decode cX9_lanes 127 = .ok (.istore 5, 2) := by decide +kernel
theorem dX9_lanes_129 : decode cX9_lanes 129 = .ok (.aload_n 0, 1) := by decide +kernel
theorem dX9_lanes_130 : decode cX9_lanes 130 = .ok (.getfield 23, 3) := by decide +kernel
theorem dX9_lanes_133 : decode cX9_lanes 133 = .ok (.iconst 0, 1) := by decide +kernel
theorem dX9_lanes_134 : decode cX9_lanes 134 = .ok (.iaload, 1) := by decide +kernel
theorem dX9_lanes_135 : decode cX9_lanes 135 = .ok (.iload_n 1, 1) := by decide +kernel
theorem dX9_lanes_136 : decode cX9_lanes 136 = .ok (.if_icmp .ge 14, 3) := by decide +kernel
theorem dX9_lanes_139 : decode cX9_lanes 139 = .ok (.iload_n 2, 1) := by decide +kernel
theorem dX9_lanes_140 : decode cX9_lanes 140 = .ok (.aload_n 0, 1) := by decide +kernel
theorem dX9_lanes_141 : decode cX9_lanes 141 = .ok (.getfield 23, 3) := by decide +kernel
theorem dX9_lanes_144 : decode cX9_lanes 144 = .ok (.iconst 0, 1) := by decide +kernel
theorem dX9_lanes_145 : decode cX9_lanes 145 = .ok (.iaload, 1) := by decide +kernel
theorem dX9_lanes_146 : decode cX9_lanes 146 = .ok (.isub, 1) := by decide +kernel
theorem dX9_lanes_147 : decode cX9_lanes 147 = .ok (.goto 31, 3) := by decide +kernel
theorem dX9_lanes_150 : decode cX9_lanes 150 = .ok (.aload_n 0, 1) := by decide +kernel
theorem dX9_lanes_151 : decode cX9_lanes 151 = .ok (.getfield 23, 3) := by decide +kernel
theorem dX9_lanes_154 : decode cX9_lanes 154 = .ok (.iconst 0, 1) := by decide +kernel
theorem dX9_lanes_155 : decode cX9_lanes 155 = .ok (.iaload, 1) := by decide +kernel
theorem dX9_lanes_156 : decode cX9_lanes 156 = .ok (.iload_n 2, 1) := by decide +kernel
theorem dX9_lanes_157 : decode cX9_lanes 157 = .ok (.if_icmp .le 14, 3) := by decide +kernel
theorem dX9_lanes_160 : decode cX9_lanes 160 = .ok (.aload_n 0, 1) := by decide +kernel
theorem dX9_lanes_161 : decode cX9_lanes 161 = .ok (.getfield 23, 3) := by decide +kernel
theorem dX9_lanes_164 : decode cX9_lanes 164 = .ok (.iconst 0, 1) := by decide +kernel
theorem dX9_lanes_165 : decode cX9_lanes 165 = .ok (.iaload, 1) := by decide +kernel
theorem dX9_lanes_166 : decode cX9_lanes 166 = .ok (.iload_n 1, 1) := by decide +kernel
theorem dX9_lanes_167 : decode cX9_lanes 167 = .ok (.isub, 1) := by decide +kernel
theorem dX9_lanes_168 : decode cX9_lanes 168 = .ok (.goto 10, 3) := by decide +kernel
theorem dX9_lanes_171 : decode cX9_lanes 171 = .ok (.iload_n 3, 1) := by decide +kernel
theorem dX9_lanes_172 : decode cX9_lanes 172 = .ok (.iload 4, 2) := by decide +kernel
theorem dX9_lanes_174 : decode cX9_lanes 174 = .ok (.iadd, 1) := by decide +kernel
theorem dX9_lanes_175 : decode cX9_lanes 175 = .ok (.iload 5, 2) := by decide +kernel
theorem dX9_lanes_177 : decode cX9_lanes 177 = .ok (.iadd, 1) := by decide +kernel
theorem dX9_lanes_178 : decode cX9_lanes 178 = .ok (.ireturn, 1) := by decide +kernel
set_option maxRecDepth 20000 in
theorem ggX9_judge_X9_in : GoodIn wsX9_judge wsX9_in := goodIn_r _ [8] (by decide +kernel) (by decide +kernel)
set_option maxRecDepth 20000 in
theorem gX9_judge_X9_in : GoodIn wsX9_judge (va_wsS RX9 54 yX9_in wsX9_in) := goodIn_app (goodIn_of _ (by decide +kernel)) ggX9_judge_X9_in
set_option maxRecDepth 20000 in
theorem ggX9_judge_X9_tenTo : GoodIn wsX9_judge wsX9_tenTo := goodIn_r _ [11] (by decide +kernel) (by decide +kernel)
set_option maxRecDepth 20000 in
theorem gX9_judge_X9_tenTo : GoodIn wsX9_judge (va_wsS RX9 163 yX9_tenTo wsX9_tenTo) := goodIn_app (goodIn_of _ (by decide +kernel)) ggX9_judge_X9_tenTo
set_option maxRecDepth 20000 in
theorem ggX9_judge_X9_lay : GoodIn wsX9_judge wsX9_lay := goodIn_r _ [15, 4, 33, 34, 35, 36, 37, 38, 39, 40, 41, 42, 43, 44, 45, 46, 47, 48, 49, 50, 51, 52, 53, 54, 55, 56, 57, 58, 59, 60, 61] (by decide +kernel) (by decide +kernel)
set_option maxRecDepth 20000 in
theorem gX9_judge_X9_lay : GoodIn wsX9_judge (wsV RX9 167 RX9 yX9_lay wsX9_lay) := goodIn_app (goodIn_of _ (by decide +kernel)) ggX9_judge_X9_lay
set_option maxRecDepth 20000 in
theorem ggX9_judge_X9_to : GoodIn wsX9_judge wsX9_to := goodIn_r _ [18] (by decide +kernel) (by decide +kernel)
set_option maxRecDepth 20000 in
theorem gX9_judge_X9_to : GoodIn wsX9_judge (va_wsS RX9 125 yX9_to wsX9_to) := goodIn_app (goodIn_of _ (by decide +kernel)) ggX9_judge_X9_to
set_option maxRecDepth 20000 in
theorem ggX9_judge_X9_lookAt : GoodIn wsX9_judge wsX9_lookAt := goodIn_r _ [22, 23, 24, 4, 33, 34, 35, 36, 37, 38, 39, 40, 41, 42, 43, 44, 45, 46, 47, 48, 49, 50, 51, 52, 53, 54, 55, 56, 57, 58, 59, 60, 61] (by decide +kernel) (by decide +kernel)
set_option maxRecDepth 20000 in
theorem gX9_judge_X9_lookAt : GoodIn wsX9_judge (wsV RX9 135 RX9 yX9_lookAt wsX9_lookAt) := goodIn_app (goodIn_of _ (by decide +kernel)) ggX9_judge_X9_lookAt
set_option maxRecDepth 20000 in
theorem ggX9_judge_X9_drift : GoodIn wsX9_judge wsX9_drift := goodIn_r _ [28, 29, 4, 30, 31, 3, 32, 16, 17, 7, 18, 33, 34, 35, 36, 37, 38, 39, 40, 41, 42, 43, 44, 45, 46, 47, 48, 49, 50, 51, 52, 53, 54, 55, 56, 57, 58, 59, 60, 61] (by decide +kernel) (by decide +kernel)
set_option maxRecDepth 20000 in
theorem gX9_judge_X9_drift : GoodIn wsX9_judge (wsV RX9 139 RX9 yX9_drift wsX9_drift) := goodIn_app (goodIn_of _ (by decide +kernel)) ggX9_judge_X9_drift
theorem dX9_judge_0 : decode cX9_judge 0 = .ok (.iload_n 1, 1) := by decide +kernel
theorem dX9_judge_1 : decode cX9_judge 1 = .ok (.i2l, 1) := by decide +kernel
theorem dX9_judge_2 : decode cX9_judge 2 = .ok (.lconst 1, 1) := by decide +kernel
theorem dX9_judge_3 : decode cX9_judge 3 = .ok (.ldc2_w 207, 3) := by decide +kernel
theorem dX9_judge_6 : decode cX9_judge 6 = .ok (.invokestatic 54, 3) := by decide +kernel
theorem dX9_judge_9 : decode cX9_judge 9 = .ok (.ifCond .eq 19, 3) := by decide +kernel
theorem dX9_judge_12 : decode cX9_judge 12 = .ok (.iload_n 2, 1) := by decide +kernel
theorem dX9_judge_13 : decode cX9_judge 13 = .ok (.i2l, 1) := by decide +kernel
theorem dX9_judge_14 : decode cX9_judge 14 = .ok (.lconst 0, 1) := by decide +kernel
theorem dX9_judge_15 : decode cX9_judge 15 = .ok (.iload_n 1, 1) := by decide +kernel
theorem dX9_judge_16 : decode cX9_judge 16 = .ok (.invokestatic 163, 3) := by decide +kernel
theorem dX9_judge_19 : decode cX9_judge 19 = .ok (.iconst 1, 1) := by decide +kernel
theorem dX9_judge_20 : decode cX9_judge 20 = .ok (.isub, 1) := by decide +kernel
theorem dX9_judge_21 : decode cX9_judge 21 = .ok (.i2l, 1) := by decide +kernel
theorem dX9_judge_22 : decode cX9_judge 22 = .ok (.invokestatic 54, 3) := by decide +kernel
theorem dX9_judge_25 : decode cX9_judge 25 = .ok (.ifCond .ne 6, 3) := by decide +kernel
theorem dX9_judge_28 : decode cX9_judge 28 = .ok (.bipush (-2), 2) := by decide +kernel
theorem dX9_judge_30 : decode cX9_judge 30 = .ok (.ireturn, 1) := by decide +kernel
theorem dX9_judge_31 : decode cX9_judge 31 = .ok (.aload_n 0, 1) := by decide +kernel
theorem dX9_judge_32 : decode cX9_judge 32 = .ok (.iconst 0, 1) := by decide +kernel
theorem dX9_judge_33 : decode cX9_judge 33 = .ok (.iconst 1, 1) := by decide +kernel
theorem dX9_judge_34 : decode cX9_judge 34 = .ok (.invokevirtual 167, 3) := by decide +kernel
theorem dX9_judge_37 : decode cX9_judge 37 = .ok (.aload_n 0, 1) := by decide +kernel
theorem dX9_judge_38 : decode cX9_judge 38 = .ok (.getfield 23, 3) := by decide +kernel
theorem dX9_judge_41 : decode cX9_judge 41 = .ok (.iconst 0, 1) := by decide +kernel
theorem dX9_judge_42 : decode cX9_judge 42 = .ok (.iaload, 1) := by decide +kernel
theorem dX9_judge_43 : decode cX9_judge 43 = .ok (.istore_n 3, 1) := by decide +kernel
theorem dX9_judge_44 : decode cX9_judge 44 = .ok (.iconst 0, 1) := by decide +kernel
theorem dX9_judge_45 : decode cX9_judge 45 = .ok (.istore 4, 2) := by decide +kernel
theorem dX9_judge_47 : decode cX9_judge 47 = .ok (.iload 4, 2) := by decide +kernel
theorem dX9_judge_49 : decode cX9_judge 49 = .ok (.iload_n 1, 1) := by decide +kernel
theorem dX9_judge_50 : decode cX9_judge 50 = .ok (.if_icmp .ge 121, 3) := by decide +kernel
theorem dX9_judge_53 : decode cX9_judge 53 = .ok (.iload_n 2, 1) := by decide +kernel
theorem dX9_judge_54 : decode cX9_judge 54 = .ok (.iload_n 1, 1) := by decide +kernel
theorem dX9_judge_55 : decode cX9_judge 55 = .ok (.iconst 1, 1) := by decide +kernel
theorem dX9_judge_56 : decode cX9_judge 56 = .ok (.isub, 1) := by decide +kernel
theorem dX9_judge_57 : decode cX9_judge 57 = .ok (.iload 4, 2) := by decide +kernel
theorem dX9_judge_59 : decode cX9_judge 59 = .ok (.isub, 1) := by decide +kernel
theorem dX9_judge_60 : decode cX9_judge 60 = .ok (.invokestatic 163, 3) := by decide +kernel
theorem dX9_judge_63 : decode cX9_judge 63 = .ok (.idiv, 1) := by decide +kernel
theorem dX9_judge_64 : decode cX9_judge 64 = .ok (.bipush 10, 2) := by decide +kernel
theorem dX9_judge_66 : decode cX9_judge 66 = .ok (.irem, 1) := by decide +kernel
theorem dX9_judge_67 : decode cX9_judge 67 = .ok (.istore 5, 2) := by decide +kernel
theorem dX9_judge_69 : decode cX9_judge 69 = .ok (.iload 5, 2) := by decide +kernel
theorem dX9_judge_71 : decode cX9_judge 71 = .ok (.iconst 3, 1) := by decide +kernel
theorem dX9_judge_72 : decode cX9_judge 72 = .ok (.if_icmp .gt 19, 3) := by decide +kernel
theorem dX9_judge_75 : decode cX9_judge 75 = .ok (.aload_n 0, 1) := by decide +kernel
theorem dX9_judge_76 : decode cX9_judge 76 = .ok (.getfield 23, 3) := by decide +kernel
theorem dX9_judge_79 : decode cX9_judge 79 = .ok (.iconst 1, 1) := by decide +kernel
theorem dX9_judge_80 : decode cX9_judge 80 = .ok (.iaload, 1) := by decide +kernel
theorem dX9_judge_81 : decode cX9_judge 81 = .ok (.iload 4, 2) := by decide +kernel
theorem dX9_judge_83 : decode cX9_judge 83 = .ok (.iadd, 1) := by decide +kernel
theorem dX9_judge_84 : decode cX9_judge 84 = .ok (.aload_n 0, 1) := by decide +kernel
theorem dX9_judge_85 : decode cX9_judge 85 = .ok (.getfield 48, 3) := by decide +kernel
theorem dX9_judge_88 : decode cX9_judge 88 = .ok (.if_icmp .lt 6, 3) := by decide +kernel
theorem dX9_judge_91 : decode cX9_judge 91 = .ok (.iload 4, 2) := by decide +kernel
theorem dX9_judge_93 : decode cX9_judge 93 = .ok (.ireturn, 1) := by decide +kernel
theorem dX9_judge_94 : decode cX9_judge 94 = .ok (.iload 5, 2) := by decide +kernel
theorem dX9_judge_96 : decode cX9_judge 96 = .ok (.iconst 3, 1) := by decide +kernel
theorem dX9_judge_97 : decode cX9_judge 97 = .ok (.if_icmp .ne 7, 3) := by decide +kernel
theorem dX9_judge_100 : decode cX9_judge 100 = .ok (.iload_n 3, 1) := by decide +kernel
theorem dX9_judge_101 : decode cX9_judge 101 = .ok (.goto 9, 3) := by decide +kernel
theorem dX9_judge_104 : decode cX9_judge 104 = .ok (.iload_n 3, 1) := by decide +kernel
theorem dX9_judge_105 : decode cX9_judge 105 = .ok (.iload 5, 2) := by decide +kernel
theorem dX9_judge_107 : decode cX9_judge 107 = .ok (.invokestatic 125, 3) := by decide +kernel
theorem dX9_judge_110 : decode cX9_judge 110 = .ok (.istore_n 3, 1) := by decide +kernel
theorem dX9_judge_111 : decode cX9_judge 111 = .ok (.iload 5, 2) := by decide +kernel
theorem dX9_judge_113 : decode cX9_judge 113 = .ok (.iconst 3, 1) := by decide +kernel
theorem dX9_judge_114 : decode cX9_judge 114 = .ok (.if_icmp .ne 8, 3) := by decide +kernel
theorem dX9_judge_117 : decode cX9_judge 117 = .ok (.bipush 10, 2) := by decide +kernel
theorem dX9_judge_119 : decode cX9_judge 119 = .ok (.goto 4, 3) := by decide +kernel
theorem dX9_judge_122 : decode cX9_judge 122 = .ok (.iload_n 3, 1) := by decide +kernel
theorem dX9_judge_123 : decode cX9_judge 123 = .ok (.istore 6, 2) := by decide +kernel
theorem dX9_judge_125 : decode cX9_judge 125 = .ok (.aload_n 0, 1) := by decide +kernel
theorem dX9_judge_126 : decode cX9_judge 126 = .ok (.getfield 19, 3) := by decide +kernel
theorem dX9_judge_129 : decode cX9_judge 129 = .ok (.bipush 11, 2) := by decide +kernel
theorem dX9_judge_131 : decode cX9_judge 131 = .ok (.iload 6, 2) := by decide +kernel
theorem dX9_judge_133 : decode cX9_judge 133 = .ok (.iadd, 1) := by decide +kernel
theorem dX9_judge_134 : decode cX9_judge 134 = .ok (.laload, 1) := by decide +kernel
theorem dX9_judge_135 : decode cX9_judge 135 = .ok (.lconst 0, 1) := by decide +kernel
theorem dX9_judge_136 : decode cX9_judge 136 = .ok (.lcmp, 1) := by decide +kernel
theorem dX9_judge_137 : decode cX9_judge 137 = .ok (.ifCond .ne 6, 3) := by decide +kernel
theorem dX9_judge_140 : decode cX9_judge 140 = .ok (.iload 4, 2) := by decide +kernel
theorem dX9_judge_142 : decode cX9_judge 142 = .ok (.ireturn, 1) := by decide +kernel
theorem dX9_judge_143 : decode cX9_judge 143 = .ok (.aload_n 0, 1) := by decide +kernel
theorem dX9_judge_144 : decode cX9_judge 144 = .ok (.iconst 1, 1) := by decide +kernel
theorem dX9_judge_145 : decode cX9_judge 145 = .ok (.iload 6, 2) := by decide +kernel
theorem dX9_judge_147 : decode cX9_judge 147 = .ok (.invokevirtual 135, 3) := by decide +kernel
theorem dX9_judge_150 : decode cX9_judge 150 = .ok (.pop2, 1) := by decide +kernel
theorem dX9_judge_151 : decode cX9_judge 151 = .ok (.aload_n 0, 1) := by decide +kernel
theorem dX9_judge_152 : decode cX9_judge 152 = .ok (.iconst 1, 1) := by decide +kernel
theorem dX9_judge_153 : decode cX9_judge 153 = .ok (.aload_n 0, 1) := by decide +kernel
theorem dX9_judge_154 : decode cX9_judge 154 = .ok (.getfield 23, 3) := by decide +kernel
theorem dX9_judge_157 : decode cX9_judge 157 = .ok (.iconst 1, 1) := by decide +kernel
theorem dX9_judge_158 : decode cX9_judge 158 = .ok (.iaload, 1) := by decide +kernel
theorem dX9_judge_159 : decode cX9_judge 159 = .ok (.iload 4, 2) := by decide +kernel
theorem dX9_judge_161 : decode cX9_judge 161 = .ok (.iadd, 1) := by decide +kernel
theorem dX9_judge_162 : decode cX9_judge 162 = .ok (.invokevirtual 139, 3) := by decide +kernel
theorem dX9_judge_165 : decode cX9_judge 165 = .ok (.iinc 4 1, 3) := by decide +kernel
theorem dX9_judge_168 : decode cX9_judge 168 = .ok (.goto (-121), 3) := by decide +kernel
theorem dX9_judge_171 : decode cX9_judge 171 = .ok (.bipush (-9), 2) := by decide +kernel
theorem dX9_judge_173 : decode cX9_judge 173 = .ok (.ireturn, 1) := by decide +kernel
theorem dX9_partsIn_0 : decode cX9_partsIn 0 = .ok (.iconst 0, 1) := by decide +kernel
theorem dX9_partsIn_1 : decode cX9_partsIn 1 = .ok (.istore_n 3, 1) := by decide +kernel
theorem dX9_partsIn_2 : decode cX9_partsIn 2 = .ok (.iload_n 1, 1) := by decide +kernel
theorem dX9_partsIn_3 : decode cX9_partsIn 3 = .ok (.istore 4, 2) := by decide +kernel
theorem dX9_partsIn_5 : decode cX9_partsIn 5 = .ok (.iload 4, 2) := by decide +kernel
theorem dX9_partsIn_7 : decode cX9_partsIn 7 = .ok (.iload_n 2, 1) := by decide +kernel
theorem dX9_partsIn_8 : decode cX9_partsIn 8 = .ok (.if_icmp .gt 19, 3) := by decide +kernel
theorem dX9_partsIn_11 : decode cX9_partsIn 11 = .ok (.iload_n 3, 1) := by decide +kernel
theorem dX9_partsIn_12 : decode cX9_partsIn 12 = .ok (.aload_n 0, 1) := by decide +kernel
theorem dX9_partsIn_13 : decode cX9_partsIn 13 = .ok (.getfield 7, 3) := by decide +kernel
theorem dX9_partsIn_16 : decode cX9_partsIn 16 = .ok (.iload 4, 2) := by decide +kernel
theorem dX9_partsIn_18 : decode cX9_partsIn 18 = .ok (.iaload, 1) := by decide +kernel
theorem dX9_partsIn_19 : decode cX9_partsIn 19 = .ok (.iadd, 1) := by decide +kernel
theorem dX9_partsIn_20 : decode cX9_partsIn 20 = .ok (.istore_n 3, 1) := by decide +kernel
theorem dX9_partsIn_21 : decode cX9_partsIn 21 = .ok (.iinc 4 1, 3) := by decide +kernel
theorem dX9_partsIn_24 : decode cX9_partsIn 24 = .ok (.goto (-19), 3) := by decide +kernel
theorem dX9_partsIn_27 : decode cX9_partsIn 27 = .ok (.iload_n 3, 1) := by decide +kernel
theorem dX9_partsIn_28 : decode cX9_partsIn 28 = .ok (.ireturn, 1) := by decide +kernel
set_option maxRecDepth 20000 in
theorem ggX9_said_X9_in : GoodIn wsX9_said wsX9_in := goodIn_r _ [5] (by decide +kernel) (by decide +kernel)
set_option maxRecDepth 20000 in
theorem gX9_said_X9_in : GoodIn wsX9_said (va_wsS RX9 54 yX9_in wsX9_in) := goodIn_app (goodIn_of _ (by decide +kernel)) ggX9_said_X9_in
set_option maxRecDepth 20000 in
theorem ggX9_said_X9_partsIn : GoodIn wsX9_said wsX9_partsIn := goodIn_r _ [9, 10, 11, 12, 13, 14, 15, 16, 17, 18, 19, 20, 21, 22, 23, 24, 25, 26, 27, 28, 29, 30, 31, 32, 33, 34, 35, 36, 37, 38, 39] (by decide +kernel) (by decide +kernel)
set_option maxRecDepth 20000 in
theorem gX9_said_X9_partsIn : GoodIn wsX9_said (wsV RX9 209 RX9 yX9_partsIn wsX9_partsIn) := goodIn_app (goodIn_of _ (by decide +kernel)) ggX9_said_X9_partsIn
theorem dX9_said_0 : decode cX9_said 0 = .ok (.iload_n 1, 1) := by decide +kernel
theorem dX9_said_1 : decode cX9_said 1 = .ok (.i2l, 1) := by decide +kernel
theorem dX9_said_2 : decode cX9_said 2 = .ok (.lconst 0, 1) := by decide +kernel
theorem dX9_said_3 : decode cX9_said 3 = .ok (.lconst 1, 1) := by decide +kernel
theorem dX9_said_4 : decode cX9_said 4 = .ok (.invokestatic 54, 3) := by decide +kernel
theorem dX9_said_7 : decode cX9_said 7 = .ok (.ifCond .ne 6, 3) := by decide +kernel
theorem dX9_said_10 : decode cX9_said 10 = .ok (.bipush (-2), 2) := by decide +kernel
theorem dX9_said_12 : decode cX9_said 12 = .ok (.ireturn, 1) := by decide +kernel
theorem dX9_said_13 : decode cX9_said 13 = .ok (.iload_n 1, 1) := by decide +kernel
theorem dX9_said_14 : decode cX9_said 14 = .ok (.aload_n 0, 1) := by decide +kernel
theorem dX9_said_15 : decode cX9_said 15 = .ok (.getfield 23, 3) := by decide +kernel
theorem dX9_said_18 : decode cX9_said 18 = .ok (.iconst 2, 1) := by decide +kernel
theorem dX9_said_19 : decode cX9_said 19 = .ok (.iaload, 1) := by decide +kernel
theorem dX9_said_20 : decode cX9_said 20 = .ok (.if_icmp .lt 5, 3) := by decide +kernel
theorem dX9_said_23 : decode cX9_said 23 = .ok (.iconst 0, 1) := by decide +kernel
theorem dX9_said_24 : decode cX9_said 24 = .ok (.ireturn, 1) := by decide +kernel
theorem dX9_said_25 : decode cX9_said 25 = .ok (.aload_n 0, 1) := by decide +kernel
theorem dX9_said_26 : decode cX9_said 26 = .ok (.aload_n 0, 1) := by decide +kernel
theorem dX9_said_27 : decode cX9_said 27 = .ok (.getfield 23, 3) := by decide +kernel
theorem dX9_said_30 : decode cX9_said 30 = .ok (.iconst 3, 1) := by decide +kernel
theorem dX9_said_31 : decode cX9_said 31 = .ok (.iconst 3, 1) := by decide +kernel
theorem dX9_said_32 : decode cX9_said 32 = .ok (.iload_n 1, 1) := by decide +kernel
theorem dX9_said_33 : decode cX9_said 33 = .ok (.imul, 1) := by decide +kernel
theorem dX9_said_34 : decode cX9_said 34 = .ok (.iadd, 1) := by decide +kernel
theorem dX9_said_35 : decode cX9_said 35 = .ok (.iaload, 1) := by decide +kernel
theorem dX9_said_36 : decode cX9_said 36 = .ok (.aload_n 0, 1) := by decide +kernel
theorem dX9_said_37 : decode cX9_said 37 = .ok (.getfield 23, 3) := by decide +kernel
theorem dX9_said_40 : decode cX9_said 40 = .ok (.iconst 3, 1) := by decide +kernel
theorem dX9_said_41 : decode cX9_said 41 = .ok (.iconst 3, 1) := by decide +kernel
theorem dX9_said_42 : decode cX9_said 42 = .ok (.iload_n 1, 1) := by decide +kernel
theorem dX9_said_43 : decode cX9_said 43 = .ok (.imul, 1) := by decide +kernel
theorem dX9_said_44 : decode cX9_said 44 = .ok (.iadd, 1) := by decide +kernel
theorem dX9_said_45 : decode cX9_said 45 = .ok (.iconst 1, 1) := by decide +kernel
theorem dX9_said_46 : decode cX9_said 46 = .ok (.iadd, 1) := by decide +kernel
theorem dX9_said_47 : decode cX9_said 47 = .ok (.iaload, 1) := by decide +kernel
theorem dX9_said_48 : decode cX9_said 48 = .ok (.invokevirtual 209, 3) := by decide +kernel
theorem dX9_said_51 : decode cX9_said 51 = .ok (.istore_n 2, 1) := by decide +kernel
theorem dX9_said_52 : decode cX9_said 52 = .ok (.iconst 2, 1) := by decide +kernel
theorem dX9_said_53 : decode cX9_said 53 = .ok (.iload_n 2, 1) := by decide +kernel
theorem dX9_said_54 : decode cX9_said 54 = .ok (.imul, 1) := by decide +kernel
theorem dX9_said_55 : decode cX9_said 55 = .ok (.aload_n 0, 1) := by decide +kernel
theorem dX9_said_56 : decode cX9_said 56 = .ok (.iconst 0, 1) := by decide +kernel
theorem dX9_said_57 : decode cX9_said 57 = .ok (.bipush 9, 2) := by decide +kernel
theorem dX9_said_59 : decode cX9_said 59 = .ok (.invokevirtual 209, 3) := by decide +kernel
theorem dX9_said_62 : decode cX9_said 62 = .ok (.isub, 1) := by decide +kernel
theorem dX9_said_63 : decode cX9_said 63 = .ok (.ireturn, 1) := by decide +kernel
set_option maxRecDepth 20000 in
theorem ggX9_trust_X9_isWitness : GoodIn wsX9_trust wsX9_isWitness := goodIn_r _ [7, 8, 9, 10, 6, 11] (by decide +kernel) (by decide +kernel)
set_option maxRecDepth 20000 in
theorem gX9_trust_X9_isWitness : GoodIn wsX9_trust (va_wsS RX9 143 yX9_isWitness wsX9_isWitness) := goodIn_app (goodIn_of _ (by decide +kernel)) ggX9_trust_X9_isWitness
set_option maxRecDepth 20000 in
theorem ggX9_trust_X9_allParts : GoodIn wsX9_trust wsX9_allParts := goodIn_r _ [15, 3, 26, 27, 28, 29, 30, 31, 32, 33, 34, 35, 36, 37, 38, 39, 40, 41, 42, 43, 44, 45, 46, 47, 48, 49, 50, 51, 52, 53, 54] (by decide +kernel) (by decide +kernel)
set_option maxRecDepth 20000 in
theorem gX9_trust_X9_allParts : GoodIn wsX9_trust (wsV RX9 122 RX9 yX9_allParts wsX9_allParts) := goodIn_app (goodIn_of _ (by decide +kernel)) ggX9_trust_X9_allParts
set_option maxRecDepth 20000 in
theorem ggX9_trust_X9_partsIn : GoodIn wsX9_trust wsX9_partsIn := goodIn_r _ [19, 3, 26, 27, 28, 29, 30, 31, 32, 33, 34, 35, 36, 37, 38, 39, 40, 41, 42, 43, 44, 45, 46, 47, 48, 49, 50, 51, 52, 53, 54] (by decide +kernel) (by decide +kernel)
set_option maxRecDepth 20000 in
theorem gX9_trust_X9_partsIn : GoodIn wsX9_trust (wsV RX9 209 RX9 yX9_partsIn wsX9_partsIn) := goodIn_app (goodIn_of _ (by decide +kernel)) ggX9_trust_X9_partsIn
set_option maxRecDepth 20000 in
theorem ggX9_trust_X9_part : GoodIn wsX9_trust wsX9_part := goodIn_r _ [22, 23, 24, 6, 25] (by decide +kernel) (by decide +kernel)
set_option maxRecDepth 20000 in
theorem gX9_trust_X9_part : GoodIn wsX9_trust (va_wsS RX9 186 yX9_part wsX9_part) := goodIn_app (goodIn_of _ (by decide +kernel)) ggX9_trust_X9_part
theorem dX9_trust_0 : decode cX9_trust 0 = .ok (.iload_n 1, 1) := by decide +kernel
theorem dX9_trust_1 : decode cX9_trust 1 = .ok (.iload_n 2, 1) := by decide +kernel
theorem dX9_trust_2 : decode cX9_trust 2 = .ok (.iload_n 3, 1) := by decide +kernel
theorem dX9_trust_3 : decode cX9_trust 3 = .ok (.invokestatic 143, 3) := by decide +kernel
theorem dX9_trust_6 : decode cX9_trust 6 = .ok (.ifCond .ne 7, 3) := by decide +kernel
theorem dX9_trust_9 : decode cX9_trust 9 = .ok (.ldc2_w 149, 3) := by decide +kernel
theorem dX9_trust_12 : decode cX9_trust 12 = .ok (.lreturn, 1) := by decide +kernel
theorem dX9_trust_13 : decode cX9_trust 13 = .ok (.aload_n 0, 1) := by decide +kernel
theorem dX9_trust_14 : decode cX9_trust 14 = .ok (.invokevirtual 122, 3) := by decide +kernel
theorem dX9_trust_17 : decode cX9_trust 17 = .ok (.ifCond .ne 7, 3) := by decide +kernel
theorem dX9_trust_20 : decode cX9_trust 20 = .ok (.ldc2_w 155, 3) := by decide +kernel
theorem dX9_trust_23 : decode cX9_trust 23 = .ok (.lreturn, 1) := by decide +kernel
theorem dX9_trust_24 : decode cX9_trust 24 = .ok (.aload_n 0, 1) := by decide +kernel
theorem dX9_trust_25 : decode cX9_trust 25 = .ok (.iload_n 1, 1) := by decide +kernel
theorem dX9_trust_26 : decode cX9_trust 26 = .ok (.iload_n 2, 1) := by decide +kernel
theorem dX9_trust_27 : decode cX9_trust 27 = .ok (.invokevirtual 209, 3) := by decide +kernel
theorem dX9_trust_30 : decode cX9_trust 30 = .ok (.iload_n 3, 1) := by decide +kernel
theorem dX9_trust_31 : decode cX9_trust 31 = .ok (.imul, 1) := by decide +kernel
theorem dX9_trust_32 : decode cX9_trust 32 = .ok (.istore 5, 2) := by decide +kernel
theorem dX9_trust_34 : decode cX9_trust 34 = .ok (.iload 5, 2) := by decide +kernel
theorem dX9_trust_36 : decode cX9_trust 36 = .ok (.aload_n 0, 1) := by decide +kernel
theorem dX9_trust_37 : decode cX9_trust 37 = .ok (.iconst 0, 1) := by decide +kernel
theorem dX9_trust_38 : decode cX9_trust 38 = .ok (.bipush 9, 2) := by decide +kernel
theorem dX9_trust_40 : decode cX9_trust 40 = .ok (.invokevirtual 209, 3) := by decide +kernel
theorem dX9_trust_43 : decode cX9_trust 43 = .ok (.aload_n 0, 1) := by decide +kernel
theorem dX9_trust_44 : decode cX9_trust 44 = .ok (.iload_n 1, 1) := by decide +kernel
theorem dX9_trust_45 : decode cX9_trust 45 = .ok (.iload_n 2, 1) := by decide +kernel
theorem dX9_trust_46 : decode cX9_trust 46 = .ok (.invokevirtual 209, 3) := by decide +kernel
theorem dX9_trust_49 : decode cX9_trust 49 = .ok (.isub, 1) := by decide +kernel
theorem dX9_trust_50 : decode cX9_trust 50 = .ok (.bipush 10, 2) := by decide +kernel
theorem dX9_trust_52 : decode cX9_trust 52 = .ok (.iload_n 3, 1) := by decide +kernel
theorem dX9_trust_53 : decode cX9_trust 53 = .ok (.isub, 1) := by decide +kernel
theorem dX9_trust_54 : decode cX9_trust 54 = .ok (.imul, 1) := by decide +kernel
theorem dX9_trust_55 : decode cX9_trust 55 = .ok (.iadd, 1) := by decide +kernel
theorem dX9_trust_56 : decode cX9_trust 56 = .ok (.iconst 5, 1) := by decide +kernel
theorem dX9_trust_57 : decode cX9_trust 57 = .ok (.aload_n 0, 1) := by decide +kernel
theorem dX9_trust_58 : decode cX9_trust 58 = .ok (.getfield 7, 3) := by decide +kernel
theorem dX9_trust_61 : decode cX9_trust 61 = .ok (.bipush 10, 2) := by decide +kernel
theorem dX9_trust_63 : decode cX9_trust 63 = .ok (.iaload, 1) := by decide +kernel
theorem dX9_trust_64 : decode cX9_trust 64 = .ok (.imul, 1) := by decide +kernel
theorem dX9_trust_65 : decode cX9_trust 65 = .ok (.iadd, 1) := by decide +kernel
theorem dX9_trust_66 : decode cX9_trust 66 = .ok (.istore 6, 2) := by decide +kernel
theorem dX9_trust_68 : decode cX9_trust 68 = .ok (.iload 5, 2) := by decide +kernel
theorem dX9_trust_70 : decode cX9_trust 70 = .ok (.i2l, 1) := by decide +kernel
theorem dX9_trust_71 : decode cX9_trust 71 = .ok (.iload 6, 2) := by decide +kernel
theorem dX9_trust_73 : decode cX9_trust 73 = .ok (.i2l, 1) := by decide +kernel
theorem dX9_trust_74 : decode cX9_trust 74 = .ok (.iload 4, 2) := by decide +kernel
theorem dX9_trust_76 : decode cX9_trust 76 = .ok (.invokestatic 186, 3) := by decide +kernel
theorem dX9_trust_79 : decode cX9_trust 79 = .ok (.lreturn, 1) := by decide +kernel
theorem dX9_seed_0 : decode cX9_seed 0 = .ok (.aload_n 0, 1) := by decide +kernel
theorem dX9_seed_1 : decode cX9_seed 1 = .ok (.getfield 212, 3) := by decide +kernel
theorem dX9_seed_4 : decode cX9_seed 4 = .ok (.lstore_n 3, 1) := by decide +kernel
theorem dX9_seed_5 : decode cX9_seed 5 = .ok (.aload_n 0, 1) := by decide +kernel
theorem dX9_seed_6 : decode cX9_seed 6 = .ok (.lload_n 1, 1) := by decide +kernel
theorem dX9_seed_7 : decode cX9_seed 7 = .ok (.putfield 212, 3) := by decide +kernel
theorem dX9_seed_10 : decode cX9_seed 10 = .ok (.lload_n 3, 1) := by decide +kernel
theorem dX9_seed_11 : decode cX9_seed 11 = .ok (.lreturn, 1) := by decide +kernel
theorem dX9_drawn_0 : decode cX9_drawn 0 = .ok (.aload_n 0, 1) := by decide +kernel
theorem dX9_drawn_1 : decode cX9_drawn 1 = .ok (.aload_n 0, 1) := by decide +kernel
theorem dX9_drawn_2 : decode cX9_drawn 2 = .ok (.getfield 212, 3) := by decide +kernel
theorem dX9_drawn_5 : decode cX9_drawn 5 = .ok (.ldc2_w 216, 3) := by decide +kernel
theorem dX9_drawn_8 : decode cX9_drawn 8 = .ok (.lmul, 1) := by decide +kernel
theorem dX9_drawn_9 : decode cX9_drawn 9 = .ok (.ldc2_w 218, 3) := by decide +kernel
theorem dX9_drawn_12 : decode cX9_drawn 12 = .ok (.ladd, 1) := by decide +kernel
theorem dX9_drawn_13 : decode cX9_drawn 13 = .ok (.putfield 212, 3) := by decide +kernel
theorem dX9_drawn_16 : decode cX9_drawn 16 = .ok (.aload_n 0, 1) := by decide +kernel
theorem dX9_drawn_17 : decode cX9_drawn 17 = .ok (.getfield 212, 3) := by decide +kernel
theorem dX9_drawn_20 : decode cX9_drawn 20 = .ok (.bipush 33, 2) := by decide +kernel
theorem dX9_drawn_22 : decode cX9_drawn 22 = .ok (.lushr, 1) := by decide +kernel
theorem dX9_drawn_23 : decode cX9_drawn 23 = .ok (.iload_n 1, 1) := by decide +kernel
theorem dX9_drawn_24 : decode cX9_drawn 24 = .ok (.i2l, 1) := by decide +kernel
theorem dX9_drawn_25 : decode cX9_drawn 25 = .ok (.lrem, 1) := by decide +kernel
theorem dX9_drawn_26 : decode cX9_drawn 26 = .ok (.l2i, 1) := by decide +kernel
theorem dX9_drawn_27 : decode cX9_drawn 27 = .ok (.ireturn, 1) := by decide +kernel
set_option maxRecDepth 20000 in
theorem ggX9_isFound_X9_allParts : GoodIn wsX9_isFound wsX9_allParts := goodIn_r _ [12, 1, 26, 27, 28, 29, 30, 31, 32, 33, 34, 35, 36, 37, 38, 39, 40, 41, 42, 43, 44, 45, 46, 47, 48, 49, 50, 51, 52, 53, 54] (by decide +kernel) (by decide +kernel)
set_option maxRecDepth 20000 in
theorem gX9_isFound_X9_allParts : GoodIn wsX9_isFound (wsV RX9 122 RX9 yX9_allParts wsX9_allParts) := goodIn_app (goodIn_of _ (by decide +kernel)) ggX9_isFound_X9_allParts
set_option maxRecDepth 20000 in
theorem ggX9_isFound_X9_drawn : GoodIn wsX9_isFound wsX9_drawn := goodIn_r _ [16, 17, 18, 19, 26, 27, 28, 29, 30, 31, 32, 33, 34, 35, 36, 37, 38, 39, 40, 41, 42, 43, 44, 45, 46, 47, 48, 49, 50, 51, 52, 53, 54] (by decide +kernel) (by decide +kernel)
set_option maxRecDepth 20000 in
theorem gX9_isFound_X9_drawn : GoodIn wsX9_isFound (wsV RX9 220 RX9 yX9_drawn wsX9_drawn) := goodIn_app (goodIn_of _ (by decide +kernel)) ggX9_isFound_X9_drawn
set_option maxRecDepth 20000 in
theorem ggX9_isFound_X9_tenTo : GoodIn wsX9_isFound wsX9_tenTo := goodIn_r _ [22] (by decide +kernel) (by decide +kernel)
set_option maxRecDepth 20000 in
theorem gX9_isFound_X9_tenTo : GoodIn wsX9_isFound (va_wsS RX9 163 yX9_tenTo wsX9_tenTo) := goodIn_app (goodIn_of _ (by decide +kernel)) ggX9_isFound_X9_tenTo
set_option maxRecDepth 20000 in
theorem ggX9_isFound_X9_to : GoodIn wsX9_isFound wsX9_to := goodIn_r _ [25] (by decide +kernel) (by decide +kernel)
set_option maxRecDepth 20000 in
theorem gX9_isFound_X9_to : GoodIn wsX9_isFound (va_wsS RX9 125 yX9_to wsX9_to) := goodIn_app (goodIn_of _ (by decide +kernel)) ggX9_isFound_X9_to
theorem dX9_isFound_0 : decode cX9_isFound 0 = .ok (.iconst 0, 1) := by decide +kernel
theorem dX9_isFound_1 : decode cX9_isFound 1 = .ok (.istore_n 3, 1) := by decide +kernel
theorem dX9_isFound_2 : decode cX9_isFound 2 = .ok (.aload_n 0, 1) := by decide +kernel
theorem dX9_isFound_3 : decode cX9_isFound 3 = .ok (.aload_n 0, 1) := by decide +kernel
theorem dX9_isFound_4 : decode cX9_isFound 4 = .ok (.invokevirtual 122, 3) := by decide +kernel
theorem dX9_isFound_7 : decode cX9_isFound 7 = .ok (.invokevirtual 220, 3) := by decide +kernel
theorem dX9_isFound_10 : decode cX9_isFound 10 = .ok (.istore 4, 2) := by decide +kernel
theorem dX9_isFound_12 : decode cX9_isFound 12 = .ok (.iload 4, 2) := by decide +kernel
theorem dX9_isFound_14 : decode cX9_isFound 14 = .ok (.aload_n 0, 1) := by decide +kernel
theorem dX9_isFound_15 : decode cX9_isFound 15 = .ok (.getfield 7, 3) := by decide +kernel
theorem dX9_isFound_18 : decode cX9_isFound 18 = .ok (.iload_n 3, 1) := by decide +kernel
theorem dX9_isFound_19 : decode cX9_isFound 19 = .ok (.iaload, 1) := by decide +kernel
theorem dX9_isFound_20 : decode cX9_isFound 20 = .ok (.if_icmp .lt 20, 3) := by decide +kernel
theorem dX9_isFound_23 : decode cX9_isFound 23 = .ok (.iload 4, 2) := by decide +kernel
theorem dX9_isFound_25 : decode cX9_isFound 25 = .ok (.aload_n 0, 1) := by decide +kernel
theorem dX9_isFound_26 : decode cX9_isFound 26 = .ok (.getfield 7, 3) := by decide +kernel
theorem dX9_isFound_29 : decode cX9_isFound 29 = .ok (.iload_n 3, 1) := by decide +kernel
theorem dX9_isFound_30 : decode cX9_isFound 30 = .ok (.iaload, 1) := by decide +kernel
theorem dX9_isFound_31 : decode cX9_isFound 31 = .ok (.isub, 1) := by decide +kernel
theorem dX9_isFound_32 : decode cX9_isFound 32 = .ok (.istore 4, 2) := by decide +kernel
theorem dX9_isFound_34 : decode cX9_isFound 34 = .ok (.iinc 3 1, 3) := by decide +kernel
theorem dX9_isFound_37 : decode cX9_isFound 37 = .ok (.goto (-25), 3) := by decide +kernel
theorem dX9_isFound_40 : decode cX9_isFound 40 = .ok (.aload_n 0, 1) := by decide +kernel
theorem dX9_isFound_41 : decode cX9_isFound 41 = .ok (.getfield 106, 3) := by decide +kernel
theorem dX9_isFound_44 : decode cX9_isFound 44 = .ok (.istore 5, 2) := by decide +kernel
theorem dX9_isFound_46 : decode cX9_isFound 46 = .ok (.iconst 0, 1) := by decide +kernel
theorem dX9_isFound_47 : decode cX9_isFound 47 = .ok (.istore 6, 2) := by decide +kernel
theorem dX9_isFound_49 : decode cX9_isFound 49 = .ok (.iload 6, 2) := by decide +kernel
theorem dX9_isFound_51 : decode cX9_isFound 51 = .ok (.iload_n 1, 1) := by decide +kernel
theorem dX9_isFound_52 : decode cX9_isFound 52 = .ok (.if_icmp .ge 162, 3) := by decide +kernel
theorem dX9_isFound_55 : decode cX9_isFound 55 = .ok (.iload 6, 2) := by decide +kernel
theorem dX9_isFound_57 : decode cX9_isFound 57 = .ok (.aload_n 0, 1) := by decide +kernel
theorem dX9_isFound_58 : decode cX9_isFound 58 = .ok (.getfield 48, 3) := by decide +kernel
theorem dX9_isFound_61 : decode cX9_isFound 61 = .ok (.if_icmp .ge 153, 3) := by decide +kernel
theorem dX9_isFound_64 : decode cX9_isFound 64 = .ok (.iload_n 2, 1) := by decide +kernel
theorem dX9_isFound_65 : decode cX9_isFound 65 = .ok (.iload_n 1, 1) := by decide +kernel
theorem dX9_isFound_66 : decode cX9_isFound 66 = .ok (.iconst 1, 1) := by decide +kernel
theorem dX9_isFound_67 : decode cX9_isFound 67 = .ok (.isub, 1) := by decide +kernel
theorem dX9_isFound_68 : decode cX9_isFound 68 = .ok (.iload 6, 2) := by decide +kernel
theorem dX9_isFound_70 : decode cX9_isFound 70 = .ok (.isub, 1) := by decide +kernel
theorem dX9_isFound_71 : decode cX9_isFound 71 = .ok (.invokestatic 163, 3) := by decide +kernel
theorem dX9_isFound_74 : decode cX9_isFound 74 = .ok (.idiv, 1) := by decide +kernel
theorem dX9_isFound_75 : decode cX9_isFound 75 = .ok (.bipush 10, 2) := by decide +kernel
theorem dX9_isFound_77 : decode cX9_isFound 77 = .ok (.irem, 1) := by decide +kernel
theorem dX9_isFound_78 : decode cX9_isFound 78 = .ok (.istore 7, 2) := by decide +kernel
theorem dX9_isFound_80 : decode cX9_isFound 80 = .ok (.iload 7, 2) := by decide +kernel
theorem dX9_isFound_82 : decode cX9_isFound 82 = .ok (.iconst 3, 1) := by decide +kernel
theorem dX9_isFound_83 : decode cX9_isFound 83 = .ok (.if_icmp .ne 8, 3) := by decide +kernel
theorem dX9_isFound_86 : decode cX9_isFound 86 = .ok (.iload 5, 2) := by decide +kernel
theorem dX9_isFound_88 : decode cX9_isFound 88 = .ok (.goto 10, 3) := by decide +kernel
theorem dX9_isFound_91 : decode cX9_isFound 91 = .ok (.iload 5, 2) := by decide +kernel
theorem dX9_isFound_93 : decode cX9_isFound 93 = .ok (.iload 7, 2) := by decide +kernel
theorem dX9_isFound_95 : decode cX9_isFound 95 = .ok (.invokestatic 125, 3) := by decide +kernel
theorem dX9_isFound_98 : decode cX9_isFound 98 = .ok (.istore 5, 2) := by decide +kernel
theorem dX9_isFound_100 : decode cX9_isFound 100 = .ok (.iload_n 3, 1) := by decide +kernel
theorem dX9_isFound_101 : decode cX9_isFound 101 = .ok (.iload 7, 2) := by decide +kernel
theorem dX9_isFound_103 : decode cX9_isFound 103 = .ok (.iconst 3, 1) := by decide +kernel
theorem dX9_isFound_104 : decode cX9_isFound 104 = .ok (.if_icmp .ne 8, 3) := by decide +kernel
theorem dX9_isFound_107 : decode cX9_isFound 107 = .ok (.bipush 10, 2) := by decide +kernel
theorem dX9_isFound_109 : decode cX9_isFound 109 = .ok (.goto 5, 3) := by decide +kernel
theorem dX9_isFound_112 : decode cX9_isFound 112 = .ok (.iload 5, 2) := by decide +kernel
theorem dX9_isFound_114 : decode cX9_isFound 114 = .ok (.if_icmp .ne 7, 3) := by decide +kernel
theorem dX9_isFound_117 : decode cX9_isFound 117 = .ok (.iconst 1, 1) := by decide +kernel
theorem dX9_isFound_118 : decode cX9_isFound 118 = .ok (.goto 4, 3) := by decide +kernel
theorem dX9_isFound_121 : decode cX9_isFound 121 = .ok (.iconst 0, 1) := by decide +kernel
theorem dX9_isFound_122 : decode cX9_isFound 122 = .ok (.istore 8, 2) := by decide +kernel
theorem dX9_isFound_124 : decode cX9_isFound 124 = .ok (.aload_n 0, 1) := by decide +kernel
theorem dX9_isFound_125 : decode cX9_isFound 125 = .ok (.bipush 10, 2) := by decide +kernel
theorem dX9_isFound_127 : decode cX9_isFound 127 = .ok (.invokevirtual 220, 3) := by decide +kernel
theorem dX9_isFound_130 : decode cX9_isFound 130 = .ok (.iload 7, 2) := by decide +kernel
theorem dX9_isFound_132 : decode cX9_isFound 132 = .ok (.iconst 3, 1) := by decide +kernel
theorem dX9_isFound_133 : decode cX9_isFound 133 = .ok (.if_icmp .ne 10, 3) := by decide +kernel
theorem dX9_isFound_136 : decode cX9_isFound 136 = .ok (.aload_n 0, 1) := by decide +kernel
theorem dX9_isFound_137 : decode cX9_isFound 137 = .ok (.getfield 103, 3) := by decide +kernel
theorem dX9_isFound_140 : decode cX9_isFound 140 = .ok (.goto 7, 3) := by decide +kernel
theorem dX9_isFound_143 : decode cX9_isFound 143 = .ok (.aload_n 0, 1) := by decide +kernel
theorem dX9_isFound_144 : decode cX9_isFound 144 = .ok (.getfield 100, 3) := by decide +kernel
theorem dX9_isFound_147 : decode cX9_isFound 147 = .ok (.if_icmp .ge 10, 3) := by decide +kernel
theorem dX9_isFound_150 : decode cX9_isFound 150 = .ok (.iload 8, 2) := by decide +kernel
theorem dX9_isFound_152 : decode cX9_isFound 152 = .ok (.ifCond .eq 5, 3) := by decide +kernel
theorem dX9_isFound_155 : decode cX9_isFound 155 = .ok (.iconst 1, 1) := by decide +kernel
theorem dX9_isFound_156 : decode cX9_isFound 156 = .ok (.ireturn, 1) := by decide +kernel
theorem dX9_isFound_157 : decode cX9_isFound 157 = .ok (.iload_n 3, 1) := by decide +kernel
theorem dX9_isFound_158 : decode cX9_isFound 158 = .ok (.bipush 10, 2) := by decide +kernel
theorem dX9_isFound_160 : decode cX9_isFound 160 = .ok (.if_icmp .ge 48, 3) := by decide +kernel
theorem dX9_isFound_163 : decode cX9_isFound 163 = .ok (.aload_n 0, 1) := by decide +kernel
theorem dX9_isFound_164 : decode cX9_isFound 164 = .ok (.bipush 10, 2) := by decide +kernel
theorem dX9_isFound_166 : decode cX9_isFound 166 = .ok (.invokevirtual 220, 3) := by decide +kernel
theorem dX9_isFound_169 : decode cX9_isFound 169 = .ok (.istore 9, 2) := by decide +kernel
theorem dX9_isFound_171 : decode cX9_isFound 171 = .ok (.iload_n 3, 1) := by decide +kernel
theorem dX9_isFound_172 : decode cX9_isFound 172 = .ok (.iload 9, 2) := by decide +kernel
theorem dX9_isFound_174 : decode cX9_isFound 174 = .ok (.aload_n 0, 1) := by decide +kernel
theorem dX9_isFound_175 : decode cX9_isFound 175 = .ok (.getfield 94, 3) := by decide +kernel
theorem dX9_isFound_178 : decode cX9_isFound 178 = .ok (.if_icmp .ge 7, 3) := by decide +kernel
theorem dX9_isFound_181 : decode cX9_isFound 181 = .ok (.iconst 1, 1) := by decide +kernel
theorem dX9_isFound_182 : decode cX9_isFound 182 = .ok (.goto 22, 3) := by decide +kernel
theorem dX9_isFound_185 : decode cX9_isFound 185 = .ok (.iload 9, 2) := by decide +kernel
theorem dX9_isFound_187 : decode cX9_isFound 187 = .ok (.aload_n 0, 1) := by decide +kernel
theorem dX9_isFound_188 : decode cX9_isFound 188 = .ok (.getfield 94, 3) := by decide +kernel
theorem dX9_isFound_191 : decode cX9_isFound 191 = .ok (.aload_n 0, 1) := by decide +kernel
theorem dX9_isFound_192 : decode cX9_isFound 192 = .ok (.getfield 97, 3) := by decide +kernel
theorem dX9_isFound_195 : decode cX9_isFound 195 = .ok (.iadd, 1) := by decide +kernel
theorem dX9_isFound_196 : decode cX9_isFound 196 = .ok (.if_icmp .ge 7, 3) := by decide +kernel
theorem dX9_isFound_199 : decode cX9_isFound 199 = .ok (.iconst 2, 1) := by decide +kernel
theorem dX9_isFound_200 : decode cX9_isFound 200 = .ok (.goto 4, 3) := by decide +kernel
theorem dX9_isFound_203 : decode cX9_isFound 203 = .ok (.iconst 0, 1) := by decide +kernel
theorem dX9_isFound_204 : decode cX9_isFound 204 = .ok (.invokestatic 125, 3) := by decide +kernel
theorem dX9_isFound_207 : decode cX9_isFound 207 = .ok (.istore_n 3, 1) := by decide +kernel
theorem dX9_isFound_208 : decode cX9_isFound 208 = .ok (.iinc 6 1, 3) := by decide +kernel
theorem dX9_isFound_211 : decode cX9_isFound 211 = .ok (.goto (-162), 3) := by decide +kernel
theorem dX9_isFound_214 : decode cX9_isFound 214 = .ok (.iconst 0, 1) := by decide +kernel
theorem dX9_isFound_215 : decode cX9_isFound 215 = .ok (.ireturn, 1) := by decide +kernel
set_option maxRecDepth 20000 in
theorem ggX9_trials_X9_in : GoodIn wsX9_trials wsX9_in := goodIn_r _ [5] (by decide +kernel) (by decide +kernel)
set_option maxRecDepth 20000 in
theorem gX9_trials_X9_in : GoodIn wsX9_trials (va_wsS RX9 54 yX9_in wsX9_in) := goodIn_app (goodIn_of _ (by decide +kernel)) ggX9_trials_X9_in
set_option maxRecDepth 20000 in
theorem ggX9_trials_X9_isRow : GoodIn wsX9_trials wsX9_isRow := goodIn_r _ [8, 9, 2, 3, 4, 5, 10, 11, 12] (by decide +kernel) (by decide +kernel)
set_option maxRecDepth 20000 in
theorem gX9_trials_X9_isRow : GoodIn wsX9_trials (va_wsS RX9 172 yX9_isRow wsX9_isRow) := goodIn_app (goodIn_of _ (by decide +kernel)) ggX9_trials_X9_isRow
set_option maxRecDepth 20000 in
theorem ggX9_trials_X9_allParts : GoodIn wsX9_trials wsX9_allParts := goodIn_r _ [16, 17, 38, 39, 40, 41, 42, 43, 44, 45, 46, 47, 48, 49, 50, 51, 52, 53, 54, 55, 56, 57, 58, 59, 60, 61, 62, 63, 64, 65, 66] (by decide +kernel) (by decide +kernel)
set_option maxRecDepth 20000 in
theorem gX9_trials_X9_allParts : GoodIn wsX9_trials (wsV RX9 122 RX9 yX9_allParts wsX9_allParts) := goodIn_app (goodIn_of _ (by decide +kernel)) ggX9_trials_X9_allParts
set_option maxRecDepth 20000 in
theorem ggX9_trials_X9_isFound : GoodIn wsX9_trials wsX9_isFound := goodIn_r _ [21, 17, 22, 23, 24, 25, 26, 27, 13, 14, 15, 4, 16, 28, 29, 30, 31, 32, 33, 34, 10, 11, 12, 35, 36, 37, 38, 39, 40, 41, 42, 43, 44, 45, 46, 47, 48, 49, 50, 51, 52, 53, 54, 55, 56, 57, 58, 59, 60, 61, 62, 63, 64, 65, 66] (by decide +kernel) (by decide +kernel)
set_option maxRecDepth 20000 in
theorem gX9_trials_X9_isFound : GoodIn wsX9_trials (wsV RX9 225 RX9 yX9_isFound wsX9_isFound) := goodIn_app (goodIn_of _ (by decide +kernel)) ggX9_trials_X9_isFound
theorem dX9_trials_0 : decode cX9_trials 0 = .ok (.iload_n 1, 1) := by decide +kernel
theorem dX9_trials_1 : decode cX9_trials 1 = .ok (.i2l, 1) := by decide +kernel
theorem dX9_trials_2 : decode cX9_trials 2 = .ok (.lconst 1, 1) := by decide +kernel
theorem dX9_trials_3 : decode cX9_trials 3 = .ok (.ldc2_w 223, 3) := by decide +kernel
theorem dX9_trials_6 : decode cX9_trials 6 = .ok (.invokestatic 54, 3) := by decide +kernel
theorem dX9_trials_9 : decode cX9_trials 9 = .ok (.ifCond .eq 11, 3) := by decide +kernel
theorem dX9_trials_12 : decode cX9_trials 12 = .ok (.iload_n 2, 1) := by decide +kernel
theorem dX9_trials_13 : decode cX9_trials 13 = .ok (.iload_n 3, 1) := by decide +kernel
theorem dX9_trials_14 : decode cX9_trials 14 = .ok (.invokestatic 172, 3) := by decide +kernel
theorem dX9_trials_17 : decode cX9_trials 17 = .ok (.ifCond .ne 6, 3) := by decide +kernel
theorem dX9_trials_20 : decode cX9_trials 20 = .ok (.bipush (-2), 2) := by decide +kernel
theorem dX9_trials_22 : decode cX9_trials 22 = .ok (.ireturn, 1) := by decide +kernel
theorem dX9_trials_23 : decode cX9_trials 23 = .ok (.iconst 0, 1) := by decide +kernel
theorem dX9_trials_24 : decode cX9_trials 24 = .ok (.istore 4, 2) := by decide +kernel
theorem dX9_trials_26 : decode cX9_trials 26 = .ok (.iconst 0, 1) := by decide +kernel
theorem dX9_trials_27 : decode cX9_trials 27 = .ok (.istore 5, 2) := by decide +kernel
theorem dX9_trials_29 : decode cX9_trials 29 = .ok (.iload 5, 2) := by decide +kernel
theorem dX9_trials_31 : decode cX9_trials 31 = .ok (.iload_n 1, 1) := by decide +kernel
theorem dX9_trials_32 : decode cX9_trials 32 = .ok (.if_icmp .ge 35, 3) := by decide +kernel
theorem dX9_trials_35 : decode cX9_trials 35 = .ok (.aload_n 0, 1) := by decide +kernel
theorem dX9_trials_36 : decode cX9_trials 36 = .ok (.invokevirtual 122, 3) := by decide +kernel
theorem dX9_trials_39 : decode cX9_trials 39 = .ok (.ifCond .le 28, 3) := by decide +kernel
theorem dX9_trials_42 : decode cX9_trials 42 = .ok (.iload 4, 2) := by decide +kernel
theorem dX9_trials_44 : decode cX9_trials 44 = .ok (.aload_n 0, 1) := by decide +kernel
theorem dX9_trials_45 : decode cX9_trials 45 = .ok (.iload_n 2, 1) := by decide +kernel
theorem dX9_trials_46 : decode cX9_trials 46 = .ok (.iload_n 3, 1) := by decide +kernel
theorem dX9_trials_47 : decode cX9_trials 47 = .ok (.invokevirtual 225, 3) := by decide +kernel
theorem dX9_trials_50 : decode cX9_trials 50 = .ok (.ifCond .eq 7, 3) := by decide +kernel
theorem dX9_trials_53 : decode cX9_trials 53 = .ok (.iconst 1, 1) := by decide +kernel
theorem dX9_trials_54 : decode cX9_trials 54 = .ok (.goto 4, 3) := by decide +kernel
theorem dX9_trials_57 : decode cX9_trials 57 = .ok (.iconst 0, 1) := by decide +kernel
theorem dX9_trials_58 : decode cX9_trials 58 = .ok (.iadd, 1) := by decide +kernel
theorem dX9_trials_59 : decode cX9_trials 59 = .ok (.istore 4, 2) := by decide +kernel
theorem dX9_trials_61 : decode cX9_trials 61 = .ok (.iinc 5 1, 3) := by decide +kernel
theorem dX9_trials_64 : decode cX9_trials 64 = .ok (.goto (-35), 3) := by decide +kernel
theorem dX9_trials_67 : decode cX9_trials 67 = .ok (.iload 4, 2) := by decide +kernel
theorem dX9_trials_69 : decode cX9_trials 69 = .ok (.ireturn, 1) := by decide +kernel
set_option maxRecDepth 20000 in
theorem ggX9_keep_X9_in : GoodIn wsX9_keep wsX9_in := goodIn_r _ [9] (by decide +kernel) (by decide +kernel)
set_option maxRecDepth 20000 in
theorem gX9_keep_X9_in : GoodIn wsX9_keep (va_wsS RX9 54 yX9_in wsX9_in) := goodIn_app (goodIn_of _ (by decide +kernel)) ggX9_keep_X9_in
theorem dX9_keep_0 : decode cX9_keep 0 = .ok (.iload_n 1, 1) := by decide +kernel
theorem dX9_keep_1 : decode cX9_keep 1 = .ok (.i2l, 1) := by decide +kernel
theorem dX9_keep_2 : decode cX9_keep 2 = .ok (.lconst 0, 1) := by decide +kernel
theorem dX9_keep_3 : decode cX9_keep 3 = .ok (.lconst 1, 1) := by decide +kernel
theorem dX9_keep_4 : decode cX9_keep 4 = .ok (.invokestatic 54, 3) := by decide +kernel
theorem dX9_keep_7 : decode cX9_keep 7 = .ok (.ifCond .ne 5, 3) := by decide +kernel
theorem dX9_keep_10 : decode cX9_keep 10 = .ok (.iconst (-1), 1) := by decide +kernel
theorem dX9_keep_11 : decode cX9_keep 11 = .ok (.ireturn, 1) := by decide +kernel
theorem dX9_keep_12 : decode cX9_keep 12 = .ok (.aload_n 0, 1) := by decide +kernel
theorem dX9_keep_13 : decode cX9_keep 13 = .ok (.getfield 38, 3) := by decide +kernel
theorem dX9_keep_16 : decode cX9_keep 16 = .ok (.iload_n 1, 1) := by decide +kernel
theorem dX9_keep_17 : decode cX9_keep 17 = .ok (.iconst 1, 1) := by decide +kernel
theorem dX9_keep_18 : decode cX9_keep 18 = .ok (.bastore, 1) := by decide +kernel
theorem dX9_keep_19 : decode cX9_keep 19 = .ok (.iconst 0, 1) := by decide +kernel
theorem dX9_keep_20 : decode cX9_keep 20 = .ok (.istore_n 2, 1) := by decide +kernel
theorem dX9_keep_21 : decode cX9_keep 21 = .ok (.iload_n 2, 1) := by decide +kernel
theorem dX9_keep_22 : decode cX9_keep 22 = .ok (.bipush 11, 2) := by decide +kernel
theorem dX9_keep_24 : decode cX9_keep 24 = .ok (.if_icmp .ge 26, 3) := by decide +kernel
theorem dX9_keep_27 : decode cX9_keep 27 = .ok (.aload_n 0, 1) := by decide +kernel
theorem dX9_keep_28 : decode cX9_keep 28 = .ok (.getfield 42, 3) := by decide +kernel
theorem dX9_keep_31 : decode cX9_keep 31 = .ok (.bipush 11, 2) := by decide +kernel
theorem dX9_keep_33 : decode cX9_keep 33 = .ok (.iload_n 1, 1) := by decide +kernel
theorem dX9_keep_34 : decode cX9_keep 34 = .ok (.imul, 1) := by decide +kernel
theorem dX9_keep_35 : decode cX9_keep 35 = .ok (.iload_n 2, 1) := by decide +kernel
theorem dX9_keep_36 : decode cX9_keep 36 = .ok (.iadd, 1) := by decide +kernel
theorem dX9_keep_37 : decode cX9_keep 37 = .ok (.aload_n 0, 1) := by decide +kernel
theorem dX9_keep_38 : decode cX9_keep 38 = .ok (.getfield 19, 3) := by decide +kernel
theorem dX9_keep_41 : decode cX9_keep 41 = .ok (.iload_n 2, 1) := by decide +kernel
theorem dX9_keep_42 : decode cX9_keep 42 = .ok (.laload, 1) := by decide +kernel
theorem dX9_keep_43 : decode cX9_keep 43 = .ok (.lastore, 1) := by decide +kernel
theorem dX9_keep_44 : decode cX9_keep 44 = .ok (.iinc 2 1, 3) := by decide +kernel
theorem dX9_keep_47 : decode cX9_keep 47 = .ok (.goto (-26), 3) := by decide +kernel
theorem dX9_keep_50 : decode cX9_keep 50 = .ok (.iconst 0, 1) := by decide +kernel
theorem dX9_keep_51 : decode cX9_keep 51 = .ok (.istore_n 2, 1) := by decide +kernel
theorem dX9_keep_52 : decode cX9_keep 52 = .ok (.iload_n 2, 1) := by decide +kernel
theorem dX9_keep_53 : decode cX9_keep 53 = .ok (.bipush 9, 2) := by decide +kernel
theorem dX9_keep_55 : decode cX9_keep 55 = .ok (.if_icmp .ge 26, 3) := by decide +kernel
theorem dX9_keep_58 : decode cX9_keep 58 = .ok (.aload_n 0, 1) := by decide +kernel
theorem dX9_keep_59 : decode cX9_keep 59 = .ok (.getfield 45, 3) := by decide +kernel
theorem dX9_keep_62 : decode cX9_keep 62 = .ok (.bipush 9, 2) := by decide +kernel
theorem dX9_keep_64 : decode cX9_keep 64 = .ok (.iload_n 1, 1) := by decide +kernel
theorem dX9_keep_65 : decode cX9_keep 65 = .ok (.imul, 1) := by decide +kernel
theorem dX9_keep_66 : decode cX9_keep 66 = .ok (.iload_n 2, 1) := by decide +kernel
theorem dX9_keep_67 : decode cX9_keep 67 = .ok (.iadd, 1) := by decide +kernel
theorem dX9_keep_68 : decode cX9_keep 68 = .ok (.aload_n 0, 1) := by decide +kernel
theorem dX9_keep_69 : decode cX9_keep 69 = .ok (.getfield 23, 3) := by decide +kernel
theorem dX9_keep_72 : decode cX9_keep 72 = .ok (.iload_n 2, 1) := by decide +kernel
theorem dX9_keep_73 : decode cX9_keep 73 = .ok (.iaload, 1) := by decide +kernel
theorem dX9_keep_74 : decode cX9_keep 74 = .ok (.iastore, 1) := by decide +kernel
theorem dX9_keep_75 : decode cX9_keep 75 = .ok (.iinc 2 1, 3) := by decide +kernel
theorem dX9_keep_78 : decode cX9_keep 78 = .ok (.goto (-26), 3) := by decide +kernel
theorem dX9_keep_81 : decode cX9_keep 81 = .ok (.aload_n 0, 1) := by decide +kernel
theorem dX9_keep_82 : decode cX9_keep 82 = .ok (.getfield 23, 3) := by decide +kernel
theorem dX9_keep_85 : decode cX9_keep 85 = .ok (.iconst 1, 1) := by decide +kernel
theorem dX9_keep_86 : decode cX9_keep 86 = .ok (.iaload, 1) := by decide +kernel
theorem dX9_keep_87 : decode cX9_keep 87 = .ok (.ireturn, 1) := by decide +kernel
set_option maxRecDepth 20000 in
theorem ggX9_again_X9_in : GoodIn wsX9_again wsX9_in := goodIn_r _ [10] (by decide +kernel) (by decide +kernel)
set_option maxRecDepth 20000 in
theorem gX9_again_X9_in : GoodIn wsX9_again (va_wsS RX9 54 yX9_in wsX9_in) := goodIn_app (goodIn_of _ (by decide +kernel)) ggX9_again_X9_in
theorem dX9_again_0 : decode cX9_again 0 = .ok (.iload_n 1, 1) := by decide +kernel
theorem dX9_again_1 : decode cX9_again 1 = .ok (.i2l, 1) := by decide +kernel
theorem dX9_again_2 : decode cX9_again 2 = .ok (.lconst 0, 1) := by decide +kernel
theorem dX9_again_3 : decode cX9_again 3 = .ok (.lconst 1, 1) := by decide +kernel
theorem dX9_again_4 : decode cX9_again 4 = .ok (.invokestatic 54, 3) := by decide +kernel
theorem dX9_again_7 : decode cX9_again 7 = .ok (.ifCond .ne 5, 3) := by decide +kernel
theorem dX9_again_10 : decode cX9_again 10 = .ok (.iconst (-1), 1) := by decide +kernel
theorem dX9_again_11 : decode cX9_again 11 = .ok (.ireturn, 1) := by decide +kernel
theorem dX9_again_12 : decode cX9_again 12 = .ok (.aload_n 0, 1) := by decide +kernel
theorem dX9_again_13 : decode cX9_again 13 = .ok (.getfield 38, 3) := by decide +kernel
theorem dX9_again_16 : decode cX9_again 16 = .ok (.iload_n 1, 1) := by decide +kernel
theorem dX9_again_17 : decode cX9_again 17 = .ok (.baload, 1) := by decide +kernel
theorem dX9_again_18 : decode cX9_again 18 = .ok (.ifCond .ne 6, 3) := by decide +kernel
theorem dX9_again_21 : decode cX9_again 21 = .ok (.bipush (-3), 2) := by decide +kernel
theorem dX9_again_23 : decode cX9_again 23 = .ok (.ireturn, 1) := by decide +kernel
theorem dX9_again_24 : decode cX9_again 24 = .ok (.iconst 0, 1) := by decide +kernel
theorem dX9_again_25 : decode cX9_again 25 = .ok (.istore_n 2, 1) := by decide +kernel
theorem dX9_again_26 : decode cX9_again 26 = .ok (.iload_n 2, 1) := by decide +kernel
theorem dX9_again_27 : decode cX9_again 27 = .ok (.bipush 11, 2) := by decide +kernel
theorem dX9_again_29 : decode cX9_again 29 = .ok (.if_icmp .ge 26, 3) := by decide +kernel
theorem dX9_again_32 : decode cX9_again 32 = .ok (.aload_n 0, 1) := by decide +kernel
theorem dX9_again_33 : decode cX9_again 33 = .ok (.getfield 19, 3) := by decide +kernel
theorem dX9_again_36 : decode cX9_again 36 = .ok (.iload_n 2, 1) := by decide +kernel
theorem dX9_again_37 : decode cX9_again 37 = .ok (.aload_n 0, 1) := by decide +kernel
theorem dX9_again_38 : decode cX9_again 38 = .ok (.getfield 42, 3) := by decide +kernel
theorem dX9_again_41 : decode cX9_again 41 = .ok (.bipush 11, 2) := by decide +kernel
theorem dX9_again_43 : decode cX9_again 43 = .ok (.iload_n 1, 1) := by decide +kernel
theorem dX9_again_44 : decode cX9_again 44 = .ok (.imul, 1) := by decide +kernel
theorem dX9_again_45 : decode cX9_again 45 = .ok (.iload_n 2, 1) := by decide +kernel
theorem dX9_again_46 : decode cX9_again 46 = .ok (.iadd, 1) := by decide +kernel
theorem dX9_again_47 : decode cX9_again 47 = .ok (.laload, 1) := by decide +kernel
theorem dX9_again_48 : decode cX9_again 48 = .ok (.lastore, 1) := by decide +kernel
theorem dX9_again_49 : decode cX9_again 49 = .ok (.iinc 2 1, 3) := by decide +kernel
theorem dX9_again_52 : decode cX9_again 52 = .ok (.goto (-26), 3) := by decide +kernel
theorem dX9_again_55 : decode cX9_again 55 = .ok (.iconst 0, 1) := by decide +kernel
theorem dX9_again_56 : decode cX9_again 56 = .ok (.istore_n 2, 1) := by decide +kernel
theorem dX9_again_57 : decode cX9_again 57 = .ok (.iload_n 2, 1) := by decide +kernel
theorem dX9_again_58 : decode cX9_again 58 = .ok (.bipush 9, 2) := by decide +kernel
theorem dX9_again_60 : decode cX9_again 60 = .ok (.if_icmp .ge 26, 3) := by decide +kernel
theorem dX9_again_63 : decode cX9_again 63 = .ok (.aload_n 0, 1) := by decide +kernel
theorem dX9_again_64 : decode cX9_again 64 = .ok (.getfield 23, 3) := by decide +kernel
theorem dX9_again_67 : decode cX9_again 67 = .ok (.iload_n 2, 1) := by decide +kernel
theorem dX9_again_68 : decode cX9_again 68 = .ok (.aload_n 0, 1) := by decide +kernel
theorem dX9_again_69 : decode cX9_again 69 = .ok (.getfield 45, 3) := by decide +kernel
theorem dX9_again_72 : decode cX9_again 72 = .ok (.bipush 9, 2) := by decide +kernel
theorem dX9_again_74 : decode cX9_again 74 = .ok (.iload_n 1, 1) := by decide +kernel
theorem dX9_again_75 : decode cX9_again 75 = .ok (.imul, 1) := by decide +kernel
theorem dX9_again_76 : decode cX9_again 76 = .ok (.iload_n 2, 1) := by decide +kernel
theorem dX9_again_77 : decode cX9_again 77 = .ok (.iadd, 1) := by decide +kernel
theorem dX9_again_78 : decode cX9_again 78 = .ok (.iaload, 1) := by decide +kernel
theorem dX9_again_79 : decode cX9_again 79 = .ok (.iastore, 1) := by decide +kernel
theorem dX9_again_80 : decode cX9_again 80 = .ok (.iinc 2 1, 3) := by decide +kernel
theorem dX9_again_83 : decode cX9_again 83 = .ok (.goto (-26), 3) := by decide +kernel
theorem dX9_again_86 : decode cX9_again 86 = .ok (.aload_n 0, 1) := by decide +kernel
theorem dX9_again_87 : decode cX9_again 87 = .ok (.iconst 0, 1) := by decide +kernel
theorem dX9_again_88 : decode cX9_again 88 = .ok (.putfield 119, 3) := by decide +kernel
theorem dX9_again_91 : decode cX9_again 91 = .ok (.aload_n 0, 1) := by decide +kernel
theorem dX9_again_92 : decode cX9_again 92 = .ok (.getfield 23, 3) := by decide +kernel
theorem dX9_again_95 : decode cX9_again 95 = .ok (.iconst 1, 1) := by decide +kernel
theorem dX9_again_96 : decode cX9_again 96 = .ok (.iaload, 1) := by decide +kernel
theorem dX9_again_97 : decode cX9_again 97 = .ok (.ireturn, 1) := by decide +kernel
theorem dX9_count_0 : decode cX9_count 0 = .ok (.iconst 0, 1) := by decide +kernel
theorem dX9_count_1 : decode cX9_count 1 = .ok (.istore_n 2, 1) := by decide +kernel
theorem dX9_count_2 : decode cX9_count 2 = .ok (.iconst 0, 1) := by decide +kernel
theorem dX9_count_3 : decode cX9_count 3 = .ok (.istore_n 3, 1) := by decide +kernel
theorem dX9_count_4 : decode cX9_count 4 = .ok (.iload_n 3, 1) := by decide +kernel
theorem dX9_count_5 : decode cX9_count 5 = .ok (.bipush 10, 2) := by decide +kernel
theorem dX9_count_7 : decode cX9_count 7 = .ok (.if_icmp .ge 30, 3) := by decide +kernel
theorem dX9_count_10 : decode cX9_count 10 = .ok (.iload_n 2, 1) := by decide +kernel
theorem dX9_count_11 : decode cX9_count 11 = .ok (.aload_n 0, 1) := by decide +kernel
theorem dX9_count_12 : decode cX9_count 12 = .ok (.getfield 19, 3) := by decide +kernel
theorem dX9_count_15 : decode cX9_count 15 = .ok (.iload_n 3, 1) := by decide +kernel
theorem dX9_count_16 : decode cX9_count 16 = .ok (.laload, 1) := by decide +kernel
theorem dX9_count_17 : decode cX9_count 17 = .ok (.lconst 0, 1) := by decide +kernel
theorem dX9_count_18 : decode cX9_count 18 = .ok (.lcmp, 1) := by decide +kernel
theorem dX9_count_19 : decode cX9_count 19 = .ok (.ifCond .le 9, 3) := by decide +kernel
theorem dX9_count_22 : decode cX9_count 22 = .ok (.iconst 1, 1) := by decide +kernel
theorem dX9_count_23 : decode cX9_count 23 = .ok (.iload_n 3, 1) := by decide +kernel
theorem dX9_count_24 : decode cX9_count 24 = .ok (.ishl, 1) := by decide +kernel
theorem dX9_count_25 : decode cX9_count 25 = .ok (.goto 4, 3) := by decide +kernel
theorem dX9_count_28 : decode cX9_count 28 = .ok (.iconst 0, 1) := by decide +kernel
theorem dX9_count_29 : decode cX9_count 29 = .ok (.ior, 1) := by decide +kernel
theorem dX9_count_30 : decode cX9_count 30 = .ok (.istore_n 2, 1) := by decide +kernel
theorem dX9_count_31 : decode cX9_count 31 = .ok (.iinc 3 1, 3) := by decide +kernel
theorem dX9_count_34 : decode cX9_count 34 = .ok (.goto (-30), 3) := by decide +kernel
theorem dX9_count_37 : decode cX9_count 37 = .ok (.iload_n 1, 1) := by decide +kernel
theorem dX9_count_38 : decode cX9_count 38 = .ok (.tableswitch 137 0 11 #[62, 67, 72, 77, 82, 87, 92, 99, 106, 113, 118, 120], 62) := by decide +kernel
theorem dX9_count_100 : decode cX9_count 100 = .ok (.aload_n 0, 1) := by decide +kernel
theorem dX9_count_101 : decode cX9_count 101 = .ok (.getfield 58, 3) := by decide +kernel
theorem dX9_count_104 : decode cX9_count 104 = .ok (.ireturn, 1) := by decide +kernel
theorem dX9_count_105 : decode cX9_count 105 = .ok (.aload_n 0, 1) := by decide +kernel
theorem dX9_count_106 : decode cX9_count 106 = .ok (.getfield 94, 3) := by decide +kernel
theorem dX9_count_109 : decode cX9_count 109 = .ok (.ireturn, 1) := by decide +kernel
theorem dX9_count_110 : decode cX9_count 110 = .ok (.aload_n 0, 1) := by decide +kernel
theorem dX9_count_111 : decode cX9_count 111 = .ok (.getfield 97, 3) := by decide +kernel
theorem dX9_count_114 : decode cX9_count 114 = .ok (.ireturn, 1) := by decide +kernel
theorem dX9_count_115 : decode cX9_count 115 = .ok (.aload_n 0, 1) := by decide +kernel
theorem dX9_count_116 : decode cX9_count 116 = .ok (.getfield 100, 3) := by decide +kernel
theorem dX9_count_119 : decode cX9_count 119 = .ok (.ireturn, 1) := by decide +kernel
theorem dX9_count_120 : decode cX9_count 120 = .ok (.aload_n 0, 1) := by decide +kernel
theorem dX9_count_121 : decode cX9_count 121 = .ok (.getfield 103, 3) := by decide +kernel
theorem dX9_count_124 : decode cX9_count 124 = .ok (.ireturn, 1) := by decide +kernel
theorem dX9_count_125 : decode cX9_count 125 = .ok (.aload_n 0, 1) := by decide +kernel
theorem dX9_count_126 : decode cX9_count 126 = .ok (.getfield 48, 3) := by decide +kernel
theorem dX9_count_129 : decode cX9_count 129 = .ok (.ireturn, 1) := by decide +kernel
theorem dX9_count_130 : decode cX9_count 130 = .ok (.aload_n 0, 1) := by decide +kernel
theorem dX9_count_131 : decode cX9_count 131 = .ok (.getfield 23, 3) := by decide +kernel
theorem dX9_count_134 : decode cX9_count 134 = .ok (.iconst 0, 1) := by decide +kernel
theorem dX9_count_135 : decode cX9_count 135 = .ok (.iaload, 1) := by decide +kernel
theorem dX9_count_136 : decode cX9_count 136 = .ok (.ireturn, 1) := by decide +kernel
theorem dX9_count_137 : decode cX9_count 137 = .ok (.aload_n 0, 1) := by decide +kernel
theorem dX9_count_138 : decode cX9_count 138 = .ok (.getfield 23, 3) := by decide +kernel
theorem dX9_count_141 : decode cX9_count 141 = .ok (.iconst 1, 1) := by decide +kernel
theorem dX9_count_142 : decode cX9_count 142 = .ok (.iaload, 1) := by decide +kernel
theorem dX9_count_143 : decode cX9_count 143 = .ok (.ireturn, 1) := by decide +kernel
theorem dX9_count_144 : decode cX9_count 144 = .ok (.aload_n 0, 1) := by decide +kernel
theorem dX9_count_145 : decode cX9_count 145 = .ok (.getfield 23, 3) := by decide +kernel
theorem dX9_count_148 : decode cX9_count 148 = .ok (.iconst 2, 1) := by decide +kernel
theorem dX9_count_149 : decode cX9_count 149 = .ok (.iaload, 1) := by decide +kernel
theorem dX9_count_150 : decode cX9_count 150 = .ok (.ireturn, 1) := by decide +kernel
theorem dX9_count_151 : decode cX9_count 151 = .ok (.aload_n 0, 1) := by decide +kernel
theorem dX9_count_152 : decode cX9_count 152 = .ok (.getfield 119, 3) := by decide +kernel
theorem dX9_count_155 : decode cX9_count 155 = .ok (.ireturn, 1) := by decide +kernel
theorem dX9_count_156 : decode cX9_count 156 = .ok (.iload_n 2, 1) := by decide +kernel
theorem dX9_count_157 : decode cX9_count 157 = .ok (.ireturn, 1) := by decide +kernel
theorem dX9_count_158 : decode cX9_count 158 = .ok (.aload_n 0, 1) := by decide +kernel
theorem dX9_count_159 : decode cX9_count 159 = .ok (.getfield 112, 3) := by decide +kernel
theorem dX9_count_162 : decode cX9_count 162 = .ok (.ifCond .eq 10, 3) := by decide +kernel
theorem dX9_count_165 : decode cX9_count 165 = .ok (.aload_n 0, 1) := by decide +kernel
theorem dX9_count_166 : decode cX9_count 166 = .ok (.getfield 109, 3) := by decide +kernel
theorem dX9_count_169 : decode cX9_count 169 = .ok (.goto 5, 3) := by decide +kernel
theorem dX9_count_172 : decode cX9_count 172 = .ok (.bipush (-9), 2) := by decide +kernel
theorem dX9_count_174 : decode cX9_count 174 = .ok (.ireturn, 1) := by decide +kernel
theorem dX9_count_175 : decode cX9_count 175 = .ok (.bipush (-2), 2) := by decide +kernel
theorem dX9_count_177 : decode cX9_count 177 = .ok (.ireturn, 1) := by decide +kernel
theorem dJ9_abs_067f4_0 : decode cJ9_abs_067f4 0 = .ok (.lload_n 0, 1) := by decide +kernel
theorem dJ9_abs_067f4_1 : decode cJ9_abs_067f4 1 = .ok (.lconst 0, 1) := by decide +kernel
theorem dJ9_abs_067f4_2 : decode cJ9_abs_067f4 2 = .ok (.lcmp, 1) := by decide +kernel
theorem dJ9_abs_067f4_3 : decode cJ9_abs_067f4 3 = .ok (.ifCond .ge 8, 3) := by decide +kernel
theorem dJ9_abs_067f4_6 : decode cJ9_abs_067f4 6 = .ok (.lload_n 0, 1) := by decide +kernel
theorem dJ9_abs_067f4_7 : decode cJ9_abs_067f4 7 = .ok (.lneg, 1) := by decide +kernel
theorem dJ9_abs_067f4_8 : decode cJ9_abs_067f4 8 = .ok (.goto 4, 3) := by decide +kernel
theorem dJ9_abs_067f4_11 : decode cJ9_abs_067f4 11 = .ok (.lload_n 0, 1) := by decide +kernel
theorem dJ9_abs_067f4_12 : decode cJ9_abs_067f4 12 = .ok (.lreturn, 1) := by decide +kernel
theorem dJ9_max_7cf53_0 : decode cJ9_max_7cf53 0 = .ok (.iload_n 0, 1) := by decide +kernel
theorem dJ9_max_7cf53_1 : decode cJ9_max_7cf53 1 = .ok (.iload_n 1, 1) := by decide +kernel
theorem dJ9_max_7cf53_2 : decode cJ9_max_7cf53 2 = .ok (.if_icmp .lt 7, 3) := by decide +kernel
theorem dJ9_max_7cf53_5 : decode cJ9_max_7cf53 5 = .ok (.iload_n 0, 1) := by decide +kernel
theorem dJ9_max_7cf53_6 : decode cJ9_max_7cf53 6 = .ok (.goto 4, 3) := by decide +kernel
theorem dJ9_max_7cf53_9 : decode cJ9_max_7cf53 9 = .ok (.iload_n 1, 1) := by decide +kernel
theorem dJ9_max_7cf53_10 : decode cJ9_max_7cf53 10 = .ok (.ireturn, 1) := by decide +kernel
theorem dJ9_min_7cf53_0 : decode cJ9_min_7cf53 0 = .ok (.iload_n 0, 1) := by decide +kernel
theorem dJ9_min_7cf53_1 : decode cJ9_min_7cf53 1 = .ok (.iload_n 1, 1) := by decide +kernel
theorem dJ9_min_7cf53_2 : decode cJ9_min_7cf53 2 = .ok (.if_icmp .gt 7, 3) := by decide +kernel
theorem dJ9_min_7cf53_5 : decode cJ9_min_7cf53 5 = .ok (.iload_n 0, 1) := by decide +kernel
theorem dJ9_min_7cf53_6 : decode cJ9_min_7cf53 6 = .ok (.goto 4, 3) := by decide +kernel
theorem dJ9_min_7cf53_9 : decode cJ9_min_7cf53 9 = .ok (.iload_n 1, 1) := by decide +kernel
theorem dJ9_min_7cf53_10 : decode cJ9_min_7cf53 10 = .ok (.ireturn, 1) := by decide +kernel
