theorem dX0_init_0 : decode cX0_init 0 = .ok (.aload_n 0, 1) := by decide +kernel
theorem dX0_init_1 : decode cX0_init 1 = .ok (.invokespecial 3, 3) := by decide +kernel
theorem dX0_init_4 : decode cX0_init 4 = .ok (.aload_n 0, 1) := by decide +kernel
theorem dX0_init_5 : decode cX0_init 5 = .ok (.new 9, 3) := by decide +kernel
theorem dX0_init_8 : decode cX0_init 8 = .ok (.dup, 1) := by decide +kernel
theorem dX0_init_9 : decode cX0_init 9 = .ok (.invokespecial 11, 3) := by decide +kernel
theorem dX0_init_12 : decode cX0_init 12 = .ok (.putfield 12, 3) := by decide +kernel
theorem dX0_init_15 : decode cX0_init 15 = .ok (.aload_n 0, 1) := by decide +kernel
theorem dX0_init_16 : decode cX0_init 16 = .ok (.bipush 64, 2) := by decide +kernel
theorem dX0_init_18 : decode cX0_init 18 = .ok (.newarray .long, 2) := by decide +kernel
theorem dX0_init_20 : decode cX0_init 20 = .ok (.putfield 18, 3) := by decide +kernel
theorem dX0_init_23 : decode cX0_init 23 = .ok (.return_, 1) := by decide +kernel
set_option maxRecDepth 20000 in
theorem ggX0_find_J7_fill_d0a16 : GoodIn wsX0_find wsJ7_fill_d0a16 := goodIn_r _ [7] (by decide +kernel) (by decide +kernel)
set_option maxRecDepth 20000 in
theorem gX0_find_J7_fill_d0a16 : GoodIn wsX0_find (va_wsS RX0 22 yJ7_fill_d0a16 wsJ7_fill_d0a16) := goodIn_app (goodIn_of _ (by decide +kernel)) ggX0_find_J7_fill_d0a16
set_option maxRecDepth 20000 in
theorem ggX0_find_X8_start : GoodIn wsX0_find wsX8_start := goodIn_r _ [12, 13, 14, 15, 16, 17, 18, 19, 20, 21, 22, 23, 24, 25, 26, 27, 28, 29, 30, 31, 32, 33, 34, 35, 36, 37, 38, 39, 40, 41, 42, 43, 44, 45, 46, 47, 48, 49, 50, 51, 52, 53, 54, 55, 56, 57, 58, 59, 60, 61, 62, 63, 64, 65, 66, 67, 68, 69, 70, 71, 72, 11, 73, 74, 75, 76, 77, 140, 141, 142, 143, 144, 145, 146, 147, 148, 149, 150, 151, 152, 153, 154] (by decide +kernel) (by decide +kernel)
set_option maxRecDepth 20000 in
theorem gX0_find_X8_start : GoodIn wsX0_find (wsV RX0 32 RX8 yX8_start wsX8_start) := goodIn_app (goodIn_of _ (by decide +kernel)) ggX0_find_X8_start
set_option maxRecDepth 20000 in
theorem ggX0_find_X8_advance : GoodIn wsX0_find wsX8_advance := goodIn_r _ [81, 20, 82, 75, 16, 14, 83, 84, 85, 11, 86, 15, 13, 76, 74, 18, 17, 87, 33, 34, 35, 36, 37, 88, 89, 90, 24, 91, 26, 31, 32, 67, 68, 40, 69, 92, 93, 94, 27, 28, 29, 30, 95, 96, 97, 98, 99, 100, 101, 102, 103, 104, 105, 106, 107, 108, 109, 110, 111, 112, 113, 114, 115, 116, 117, 118, 119, 120, 121, 122, 123, 124, 125, 126, 127, 128, 62, 48, 49, 50, 129, 130, 131, 132, 77, 19, 133, 134, 135, 70, 71, 72, 73, 140, 141, 142, 143, 144, 145, 146, 147, 148, 149, 150, 151, 154, 152, 153, 155] (by decide +kernel) (by decide +kernel)
set_option maxRecDepth 20000 in
theorem gX0_find_X8_advance : GoodIn wsX0_find (wsV RX0 36 RX8 yX8_advance wsX8_advance) := goodIn_app (goodIn_of _ (by decide +kernel)) ggX0_find_X8_advance
theorem dX0_find_0 : decode cX0_find 0 = .ok (.aload_n 0, 1) := by decide +kernel
theorem dX0_find_1 : decode cX0_find 1 = .ok (.getfield 18, 3) := by decide +kernel
theorem dX0_find_4 : decode cX0_find 4 = .ok (.lconst 0, 1) := by decide +kernel
theorem dX0_find_5 : decode cX0_find 5 = .ok (.invokestatic 22, 3) := by decide +kernel
theorem dX0_find_8 : decode cX0_find 8 = .ok (.aload_n 0, 1) := by decide +kernel
theorem dX0_find_9 : decode cX0_find 9 = .ok (.iconst 0, 1) := by decide +kernel
theorem dX0_find_10 : decode cX0_find 10 = .ok (.putfield 28, 3) := by decide +kernel
theorem dX0_find_13 : decode cX0_find 13 = .ok (.aload_n 0, 1) := by decide +kernel
theorem dX0_find_14 : decode cX0_find 14 = .ok (.getfield 12, 3) := by decide +kernel
theorem dX0_find_17 : decode cX0_find 17 = .ok (.aload_n 1, 1) := by decide +kernel
theorem dX0_find_18 : decode cX0_find 18 = .ok (.iload_n 2, 1) := by decide +kernel
theorem dX0_find_19 : decode cX0_find 19 = .ok (.invokevirtual 32, 3) := by decide +kernel
theorem dX0_find_22 : decode cX0_find 22 = .ok (.iconst 0, 1) := by decide +kernel
theorem dX0_find_23 : decode cX0_find 23 = .ok (.istore 4, 2) := by decide +kernel
theorem dX0_find_25 : decode cX0_find 25 = .ok (.iload 4, 2) := by decide +kernel
theorem dX0_find_27 : decode cX0_find 27 = .ok (.sipush 4096, 3) := by decide +kernel
theorem dX0_find_30 : decode cX0_find 30 = .ok (.if_icmp .gt 79, 3) := by decide +kernel
theorem dX0_find_33 : decode cX0_find 33 = .ok (.aload_n 0, 1) := by decide +kernel
theorem dX0_find_34 : decode cX0_find 34 = .ok (.getfield 12, 3) := by decide +kernel
theorem dX0_find_37 : decode cX0_find 37 = .ok (.aload_n 3, 1) := by decide +kernel
theorem dX0_find_38 : decode cX0_find 38 = .ok (.invokevirtual 36, 3) := by decide +kernel
theorem dX0_find_41 : decode cX0_find 41 = .ok (.ifCond .eq 68, 3) := by decide +kernel
theorem dX0_find_44 : decode cX0_find 44 = .ok (.aload_n 0, 1) := by decide +kernel
theorem dX0_find_45 : decode cX0_find 45 = .ok (.getfield 12, 3) := by decide +kernel
theorem dX0_find_48 : decode cX0_find 48 = .ok (.getfield 40, 3) := by decide +kernel
theorem dX0_find_51 : decode cX0_find 51 = .ok (.bipush 6, 2) := by decide +kernel
theorem dX0_find_53 : decode cX0_find 53 = .ok (.ishr, 1) := by decide +kernel
theorem dX0_find_54 : decode cX0_find 54 = .ok (.istore 5, 2) := by decide +kernel
theorem dX0_find_56 : decode cX0_find 56 = .ok (.iload 5, 2) := by decide +kernel
theorem dX0_find_58 : decode cX0_find 58 = .ok (.ifCond .lt 45, 3) := by decide +kernel
theorem dX0_find_61 : decode cX0_find 61 = .ok (.iload 5, 2) := by decide +kernel
theorem dX0_find_63 : decode cX0_find 63 = .ok (.aload_n 0, 1) := by decide +kernel
theorem dX0_find_64 : decode cX0_find 64 = .ok (.getfield 18, 3) := by decide +kernel
theorem dX0_find_67 : decode cX0_find 67 = .ok (.arraylength, 1) := by decide +kernel
theorem dX0_find_68 : decode cX0_find 68 = .ok (.if_icmp .ge 35, 3) := by decide +kernel
theorem dX0_find_71 : decode cX0_find 71 = .ok (.aload_n 0, 1) := by decide +kernel
theorem dX0_find_72 : decode cX0_find 72 = .ok (.getfield 18, 3) := by decide +kernel
theorem dX0_find_75 : decode cX0_find 75 = .ok (.iload 5, 2) := by decide +kernel
theorem dX0_find_77 : decode cX0_find 77 = .ok (.dup2, 1) := by decide +kernel
theorem dX0_find_78 : decode cX0_find 78 = .ok (.laload, 1) := by decide +kernel
theorem dX0_find_79 : decode cX0_find 79 = .ok (.lconst 1, 1) := by decide +kernel
theorem dX0_find_80 : decode cX0_find 80 = .ok (.aload_n 0, 1) := by decide +kernel
theorem dX0_find_81 : decode cX0_find 81 = .ok (.getfield 12, 3) := by decide +kernel
theorem dX0_find_84 : decode cX0_find 84 = .ok (.getfield 40, 3) := by decide +kernel
theorem dX0_find_87 : decode cX0_find 87 = .ok (.bipush 63, 2) := by decide +kernel
theorem dX0_find_89 : decode cX0_find 89 = .ok (.iand, 1) := by decide +kernel
theorem dX0_find_90 : decode cX0_find 90 = .ok (.lshl, 1) := by decide +kernel
theorem dX0_find_91 : decode cX0_find 91 = .ok (.lor, 1) := by decide +kernel
theorem dX0_find_92 : decode cX0_find 92 = .ok (.lastore, 1) := by decide +kernel
theorem dX0_find_93 : decode cX0_find 93 = .ok (.aload_n 0, 1) := by decide +kernel
theorem dX0_find_94 : decode cX0_find 94 = .ok (.dup, 1) := by decide +kernel
theorem dX0_find_95 : decode cX0_find 95 = .ok (.getfield 28, 3) := by decide +kernel
theorem dX0_find_98 : decode cX0_find 98 = .ok (.iconst 1, 1) := by decide +kernel
theorem dX0_find_99 : decode cX0_find 99 = .ok (.iadd, 1) := by decide +kernel
theorem dX0_find_100 : decode cX0_find 100 = .ok (.putfield 28, 3) := by decide +kernel
theorem dX0_find_103 : decode cX0_find 103 = .ok (.iinc 4 1, 3) := by decide +kernel
theorem dX0_find_106 : decode cX0_find 106 = .ok (.goto (-81), 3) := by decide +kernel
theorem dX0_find_109 : decode cX0_find 109 = .ok (.return_, 1) := by decide +kernel
theorem dX0_after_0 : decode cX0_after 0 = .ok (.iload_n 1, 1) := by decide +kernel
theorem dX0_after_1 : decode cX0_after 1 = .ok (.iconst 1, 1) := by decide +kernel
theorem dX0_after_2 : decode cX0_after 2 = .ok (.iadd, 1) := by decide +kernel
theorem dX0_after_3 : decode cX0_after 3 = .ok (.istore_n 2, 1) := by decide +kernel
theorem dX0_after_4 : decode cX0_after 4 = .ok (.iconst 0, 1) := by decide +kernel
theorem dX0_after_5 : decode cX0_after 5 = .ok (.istore_n 3, 1) := by decide +kernel
theorem dX0_after_6 : decode cX0_after 6 = .ok (.iload_n 3, 1) := by decide +kernel
theorem dX0_after_7 : decode cX0_after 7 = .ok (.sipush 4096, 3) := by decide +kernel
theorem dX0_after_10 : decode cX0_after 10 = .ok (.if_icmp .ge 86, 3) := by decide +kernel
theorem dX0_after_13 : decode cX0_after 13 = .ok (.iload_n 2, 1) := by decide +kernel
theorem dX0_after_14 : decode cX0_after 14 = .ok (.ifCond .lt 82, 3) := by decide +kernel
theorem dX0_after_17 : decode cX0_after 17 = .ok (.iload_n 2, 1) := by decide +kernel
theorem dX0_after_18 : decode cX0_after 18 = .ok (.sipush 4096, 3) := by decide +kernel
theorem dX0_after_21 : decode cX0_after 21 = .ok (.if_icmp .ge 75, 3) := by decide +kernel
theorem dX0_after_24 : decode cX0_after 24 = .ok (.iload_n 2, 1) := by decide +kernel
theorem dX0_after_25 : decode cX0_after 25 = .ok (.bipush 6, 2) := by decide +kernel
theorem dX0_after_27 : decode cX0_after 27 = .ok (.ishr, 1) := by decide +kernel
theorem dX0_after_28 : decode cX0_after 28 = .ok (.istore 4, 2) := by decide +kernel
theorem dX0_after_30 : decode cX0_after 30 = .ok (.iload 4, 2) := by decide +kernel
theorem dX0_after_32 : decode cX0_after 32 = .ok (.aload_n 0, 1) := by decide +kernel
theorem dX0_after_33 : decode cX0_after 33 = .ok (.getfield 18, 3) := by decide +kernel
theorem dX0_after_36 : decode cX0_after 36 = .ok (.arraylength, 1) := by decide +kernel
theorem dX0_after_37 : decode cX0_after 37 = .ok (.if_icmp .ge 18, 3) := by decide +kernel
theorem dX0_after_40 : decode cX0_after 40 = .ok (.aload_n 0, 1) := by decide +kernel
theorem dX0_after_41 : decode cX0_after 41 = .ok (.getfield 18, 3) := by decide +kernel
theorem dX0_after_44 : decode cX0_after 44 = .ok (.iload 4, 2) := by decide +kernel
theorem dX0_after_46 : decode cX0_after 46 = .ok (.laload, 1) := by decide +kernel
theorem dX0_after_47 : decode cX0_after 47 = .ok (.iload_n 2, 1) := by decide +kernel
theorem dX0_after_48 : decode cX0_after 48 = .ok (.bipush 63, 2) := by decide +kernel
theorem dX0_after_50 : decode cX0_after 50 = .ok (.iand, 1) := by decide +kernel
theorem dX0_after_51 : decode cX0_after 51 = .ok (.lushr, 1) := by decide +kernel
theorem dX0_after_52 : decode cX0_after 52 = .ok (.goto 4, 3) := by decide +kernel
theorem dX0_after_55 : decode cX0_after 55 = .ok (.lconst 0, 1) := by decide +kernel
theorem dX0_after_56 : decode cX0_after 56 = .ok (.lstore 5, 2) := by decide +kernel
theorem dX0_after_58 : decode cX0_after 58 = .ok (.lload 5, 2) := by decide +kernel
theorem dX0_after_60 : decode cX0_after 60 = .ok (.lconst 1, 1) := by decide +kernel
theorem dX0_after_61 : decode cX0_after 61 = .ok (.land, 1) := by decide +kernel
theorem dX0_after_62 : decode cX0_after 62 = .ok (.lconst 0, 1) := by decide +kernel
theorem dX0_after_63 : decode cX0_after 63 = .ok (.lcmp, 1) := by decide +kernel
theorem dX0_after_64 : decode cX0_after 64 = .ok (.ifCond .eq 5, 3) := by decide +kernel
theorem dX0_after_67 : decode cX0_after 67 = .ok (.iload_n 2, 1) := by decide +kernel
theorem dX0_after_68 : decode cX0_after 68 = .ok (.ireturn, 1) := by decide +kernel
theorem dX0_after_69 : decode cX0_after 69 = .ok (.lload 5, 2) := by decide +kernel
theorem dX0_after_71 : decode cX0_after 71 = .ok (.lconst 0, 1) := by decide +kernel
theorem dX0_after_72 : decode cX0_after 72 = .ok (.lcmp, 1) := by decide +kernel
theorem dX0_after_73 : decode cX0_after 73 = .ok (.ifCond .ne 13, 3) := by decide +kernel
theorem dX0_after_76 : decode cX0_after 76 = .ok (.iload 4, 2) := by decide +kernel
theorem dX0_after_78 : decode cX0_after 78 = .ok (.iconst 1, 1) := by decide +kernel
theorem dX0_after_79 : decode cX0_after 79 = .ok (.iadd, 1) := by decide +kernel
theorem dX0_after_80 : decode cX0_after 80 = .ok (.bipush 64, 2) := by decide +kernel
theorem dX0_after_82 : decode cX0_after 82 = .ok (.imul, 1) := by decide +kernel
theorem dX0_after_83 : decode cX0_after 83 = .ok (.goto 6, 3) := by decide +kernel
theorem dX0_after_86 : decode cX0_after 86 = .ok (.iload_n 2, 1) := by decide +kernel
theorem dX0_after_87 : decode cX0_after 87 = .ok (.iconst 1, 1) := by decide +kernel
theorem dX0_after_88 : decode cX0_after 88 = .ok (.iadd, 1) := by decide +kernel
theorem dX0_after_89 : decode cX0_after 89 = .ok (.istore_n 2, 1) := by decide +kernel
theorem dX0_after_90 : decode cX0_after 90 = .ok (.iinc 3 1, 3) := by decide +kernel
theorem dX0_after_93 : decode cX0_after 93 = .ok (.goto (-87), 3) := by decide +kernel
theorem dX0_after_96 : decode cX0_after 96 = .ok (.iconst (-1), 1) := by decide +kernel
theorem dX0_after_97 : decode cX0_after 97 = .ok (.ireturn, 1) := by decide +kernel
set_option maxRecDepth 20000 in
theorem ggX0_countBelow_X0_after : GoodIn wsX0_countBelow wsX0_after := goodIn_r _ [6, 7, 8, 9, 10, 11] (by decide +kernel) (by decide +kernel)
set_option maxRecDepth 20000 in
theorem gX0_countBelow_X0_after : GoodIn wsX0_countBelow (wsV RX0 43 RX0 yX0_after wsX0_after) := goodIn_app (goodIn_of _ (by decide +kernel)) ggX0_countBelow_X0_after
theorem dX0_countBelow_0 : decode cX0_countBelow 0 = .ok (.iconst (-1), 1) := by decide +kernel
theorem dX0_countBelow_1 : decode cX0_countBelow 1 = .ok (.istore_n 2, 1) := by decide +kernel
theorem dX0_countBelow_2 : decode cX0_countBelow 2 = .ok (.iconst 0, 1) := by decide +kernel
theorem dX0_countBelow_3 : decode cX0_countBelow 3 = .ok (.istore_n 3, 1) := by decide +kernel
theorem dX0_countBelow_4 : decode cX0_countBelow 4 = .ok (.iload_n 3, 1) := by decide +kernel
theorem dX0_countBelow_5 : decode cX0_countBelow 5 = .ok (.aload_n 0, 1) := by decide +kernel
theorem dX0_countBelow_6 : decode cX0_countBelow 6 = .ok (.getfield 28, 3) := by decide +kernel
theorem dX0_countBelow_9 : decode cX0_countBelow 9 = .ok (.if_icmp .ge 22, 3) := by decide +kernel
theorem dX0_countBelow_12 : decode cX0_countBelow 12 = .ok (.aload_n 0, 1) := by decide +kernel
theorem dX0_countBelow_13 : decode cX0_countBelow 13 = .ok (.iload_n 2, 1) := by decide +kernel
theorem dX0_countBelow_14 : decode cX0_countBelow 14 = .ok (.invokevirtual 43, 3) := by decide +kernel
theorem dX0_countBelow_17 : decode cX0_countBelow 17 = .ok (.istore_n 2, 1) := by decide +kernel
theorem dX0_countBelow_18 : decode cX0_countBelow 18 = .ok (.iload_n 2, 1) := by decide +kernel
theorem dX0_countBelow_19 : decode cX0_countBelow 19 = .ok (.iload_n 1, 1) := by decide +kernel
theorem dX0_countBelow_20 : decode cX0_countBelow 20 = .ok (.if_icmp .lt 5, 3) := by decide +kernel
theorem dX0_countBelow_23 : decode cX0_countBelow 23 = .ok (.iload_n 3, 1) := by decide +kernel
theorem dX0_countBelow_24 : decode cX0_countBelow 24 = .ok (.ireturn, 1) := by decide +kernel
theorem dX0_countBelow_25 : decode cX0_countBelow 25 = .ok (.iinc 3 1, 3) := by decide +kernel
theorem dX0_countBelow_28 : decode cX0_countBelow 28 = .ok (.goto (-24), 3) := by decide +kernel
theorem dX0_countBelow_31 : decode cX0_countBelow 31 = .ok (.aload_n 0, 1) := by decide +kernel
theorem dX0_countBelow_32 : decode cX0_countBelow 32 = .ok (.getfield 28, 3) := by decide +kernel
theorem dX0_countBelow_35 : decode cX0_countBelow 35 = .ok (.ireturn, 1) := by decide +kernel
set_option maxRecDepth 20000 in
theorem ggX0_pickAfter_X0_after : GoodIn wsX0_pickAfter wsX0_after := goodIn_r _ [7, 8, 19, 20, 21, 22] (by decide +kernel) (by decide +kernel)
set_option maxRecDepth 20000 in
theorem gX0_pickAfter_X0_after : GoodIn wsX0_pickAfter (wsV RX0 43 RX0 yX0_after wsX0_after) := goodIn_app (goodIn_of _ (by decide +kernel)) ggX0_pickAfter_X0_after
set_option maxRecDepth 20000 in
theorem ggX0_pickAfter_X6_at : GoodIn wsX0_pickAfter wsX6_at := goodIn_r _ [13, 14, 35] (by decide +kernel) (by decide +kernel)
set_option maxRecDepth 20000 in
theorem gX0_pickAfter_X6_at : GoodIn wsX0_pickAfter (wsV RX0 57 RX6 yX6_at wsX6_at) := goodIn_app (goodIn_of _ (by decide +kernel)) ggX0_pickAfter_X6_at
set_option maxRecDepth 20000 in
theorem ggX0_pickAfter_X1_withValue : GoodIn wsX0_pickAfter wsX1_withValue := goodIn_r _ [18] (by decide +kernel) (by decide +kernel)
set_option maxRecDepth 20000 in
theorem gX0_pickAfter_X1_withValue : GoodIn wsX0_pickAfter (va_wsS RX0 62 yX1_withValue wsX1_withValue) := goodIn_app (goodIn_of _ (by decide +kernel)) ggX0_pickAfter_X1_withValue
theorem dX0_pickAfter_0 : decode cX0_pickAfter 0 = .ok (.aload_n 0, 1) := by decide +kernel
theorem dX0_pickAfter_1 : decode cX0_pickAfter 1 = .ok (.iload_n 1, 1) := by decide +kernel
theorem dX0_pickAfter_2 : decode cX0_pickAfter 2 = .ok (.invokevirtual 43, 3) := by decide +kernel
theorem dX0_pickAfter_5 : decode cX0_pickAfter 5 = .ok (.istore_n 2, 1) := by decide +kernel
theorem dX0_pickAfter_6 : decode cX0_pickAfter 6 = .ok (.aload_n 0, 1) := by decide +kernel
theorem dX0_pickAfter_7 : decode cX0_pickAfter 7 = .ok (.iconst 0, 1) := by decide +kernel
theorem dX0_pickAfter_8 : decode cX0_pickAfter 8 = .ok (.putfield 47, 3) := by decide +kernel
theorem dX0_pickAfter_11 : decode cX0_pickAfter 11 = .ok (.iload_n 2, 1) := by decide +kernel
theorem dX0_pickAfter_12 : decode cX0_pickAfter 12 = .ok (.istore_n 3, 1) := by decide +kernel
theorem dX0_pickAfter_13 : decode cX0_pickAfter 13 = .ok (.aload_n 0, 1) := by decide +kernel
theorem dX0_pickAfter_14 : decode cX0_pickAfter 14 = .ok (.getfield 12, 3) := by decide +kernel
theorem dX0_pickAfter_17 : decode cX0_pickAfter 17 = .ok (.getfield 50, 3) := by decide +kernel
theorem dX0_pickAfter_20 : decode cX0_pickAfter 20 = .ok (.iconst 1, 1) := by decide +kernel
theorem dX0_pickAfter_21 : decode cX0_pickAfter 21 = .ok (.isub, 1) := by decide +kernel
theorem dX0_pickAfter_22 : decode cX0_pickAfter 22 = .ok (.istore 4, 2) := by decide +kernel
theorem dX0_pickAfter_24 : decode cX0_pickAfter 24 = .ok (.iload 4, 2) := by decide +kernel
theorem dX0_pickAfter_26 : decode cX0_pickAfter 26 = .ok (.ifCond .lt 40, 3) := by decide +kernel
theorem dX0_pickAfter_29 : decode cX0_pickAfter 29 = .ok (.aload_n 0, 1) := by decide +kernel
theorem dX0_pickAfter_30 : decode cX0_pickAfter 30 = .ok (.aload_n 0, 1) := by decide +kernel
theorem dX0_pickAfter_31 : decode cX0_pickAfter 31 = .ok (.getfield 47, 3) := by decide +kernel
theorem dX0_pickAfter_34 : decode cX0_pickAfter 34 = .ok (.aload_n 0, 1) := by decide +kernel
theorem dX0_pickAfter_35 : decode cX0_pickAfter 35 = .ok (.getfield 12, 3) := by decide +kernel
theorem dX0_pickAfter_38 : decode cX0_pickAfter 38 = .ok (.getfield 53, 3) := by decide +kernel
theorem dX0_pickAfter_41 : decode cX0_pickAfter 41 = .ok (.iload 4, 2) := by decide +kernel
theorem dX0_pickAfter_43 : decode cX0_pickAfter 43 = .ok (.invokevirtual 57, 3) := by decide +kernel
theorem dX0_pickAfter_46 : decode cX0_pickAfter 46 = .ok (.iload_n 3, 1) := by decide +kernel
theorem dX0_pickAfter_47 : decode cX0_pickAfter 47 = .ok (.bipush 7, 2) := by decide +kernel
theorem dX0_pickAfter_49 : decode cX0_pickAfter 49 = .ok (.iand, 1) := by decide +kernel
theorem dX0_pickAfter_50 : decode cX0_pickAfter 50 = .ok (.invokestatic 62, 3) := by decide +kernel
theorem dX0_pickAfter_53 : decode cX0_pickAfter 53 = .ok (.putfield 47, 3) := by decide +kernel
theorem dX0_pickAfter_56 : decode cX0_pickAfter 56 = .ok (.iload_n 3, 1) := by decide +kernel
theorem dX0_pickAfter_57 : decode cX0_pickAfter 57 = .ok (.iconst 3, 1) := by decide +kernel
theorem dX0_pickAfter_58 : decode cX0_pickAfter 58 = .ok (.ishr, 1) := by decide +kernel
theorem dX0_pickAfter_59 : decode cX0_pickAfter 59 = .ok (.istore_n 3, 1) := by decide +kernel
theorem dX0_pickAfter_60 : decode cX0_pickAfter 60 = .ok (.iinc 4 (-1), 3) := by decide +kernel
theorem dX0_pickAfter_63 : decode cX0_pickAfter 63 = .ok (.goto (-39), 3) := by decide +kernel
theorem dX0_pickAfter_66 : decode cX0_pickAfter 66 = .ok (.iload_n 2, 1) := by decide +kernel
theorem dX0_pickAfter_67 : decode cX0_pickAfter 67 = .ok (.ireturn, 1) := by decide +kernel
theorem dX0_keyOf_0 : decode cX0_keyOf 0 = .ok (.iload_n 1, 1) := by decide +kernel
theorem dX0_keyOf_1 : decode cX0_keyOf 1 = .ok (.bipush 9, 2) := by decide +kernel
theorem dX0_keyOf_3 : decode cX0_keyOf 3 = .ok (.ishl, 1) := by decide +kernel
theorem dX0_keyOf_4 : decode cX0_keyOf 4 = .ok (.iload_n 2, 1) := by decide +kernel
theorem dX0_keyOf_5 : decode cX0_keyOf 5 = .ok (.bipush 6, 2) := by decide +kernel
theorem dX0_keyOf_7 : decode cX0_keyOf 7 = .ok (.ishl, 1) := by decide +kernel
theorem dX0_keyOf_8 : decode cX0_keyOf 8 = .ok (.ior, 1) := by decide +kernel
theorem dX0_keyOf_9 : decode cX0_keyOf 9 = .ok (.iload_n 3, 1) := by decide +kernel
theorem dX0_keyOf_10 : decode cX0_keyOf 10 = .ok (.iconst 3, 1) := by decide +kernel
theorem dX0_keyOf_11 : decode cX0_keyOf 11 = .ok (.ishl, 1) := by decide +kernel
theorem dX0_keyOf_12 : decode cX0_keyOf 12 = .ok (.ior, 1) := by decide +kernel
theorem dX0_keyOf_13 : decode cX0_keyOf 13 = .ok (.iload 4, 2) := by decide +kernel
theorem dX0_keyOf_15 : decode cX0_keyOf 15 = .ok (.ior, 1) := by decide +kernel
theorem dX0_keyOf_16 : decode cX0_keyOf 16 = .ok (.istore 5, 2) := by decide +kernel
theorem dX0_keyOf_18 : decode cX0_keyOf 18 = .ok (.iload 5, 2) := by decide +kernel
theorem dX0_keyOf_20 : decode cX0_keyOf 20 = .ok (.iconst 3, 1) := by decide +kernel
theorem dX0_keyOf_21 : decode cX0_keyOf 21 = .ok (.iconst 4, 1) := by decide +kernel
theorem dX0_keyOf_22 : decode cX0_keyOf 22 = .ok (.aload_n 0, 1) := by decide +kernel
theorem dX0_keyOf_23 : decode cX0_keyOf 23 = .ok (.getfield 12, 3) := by decide +kernel
theorem dX0_keyOf_26 : decode cX0_keyOf 26 = .ok (.getfield 50, 3) := by decide +kernel
theorem dX0_keyOf_29 : decode cX0_keyOf 29 = .ok (.isub, 1) := by decide +kernel
theorem dX0_keyOf_30 : decode cX0_keyOf 30 = .ok (.imul, 1) := by decide +kernel
theorem dX0_keyOf_31 : decode cX0_keyOf 31 = .ok (.ishr, 1) := by decide +kernel
theorem dX0_keyOf_32 : decode cX0_keyOf 32 = .ok (.ireturn, 1) := by decide +kernel
set_option maxRecDepth 20000 in
theorem ggX0_sizeWith_X0_pickAfter : GoodIn wsX0_sizeWith wsX0_pickAfter := goodIn_r _ [7, 2, 8, 9, 10, 11, 6, 12, 13, 14, 15, 16, 17, 18, 19, 20, 21, 22, 23, 27, 28, 29, 30, 31, 32, 33, 34, 35, 36, 37, 38, 39, 40, 41, 42, 43] (by decide +kernel) (by decide +kernel)
set_option maxRecDepth 20000 in
theorem gX0_sizeWith_X0_pickAfter : GoodIn wsX0_sizeWith (wsV RX0 68 RX0 yX0_pickAfter wsX0_pickAfter) := goodIn_app (goodIn_of _ (by decide +kernel)) ggX0_sizeWith_X0_pickAfter
set_option maxRecDepth 20000 in
theorem ggX0_sizeWith_X1_valueOf : GoodIn wsX0_sizeWith wsX1_valueOf := goodIn_r _ [26] (by decide +kernel) (by decide +kernel)
set_option maxRecDepth 20000 in
theorem gX0_sizeWith_X1_valueOf : GoodIn wsX0_sizeWith (va_wsS RX0 71 yX1_valueOf wsX1_valueOf) := goodIn_app (goodIn_of _ (by decide +kernel)) ggX0_sizeWith_X1_valueOf
theorem dX0_sizeWith_0 : decode cX0_sizeWith 0 = .ok (.iconst 0, 1) := by decide +kernel
theorem dX0_sizeWith_1 : decode cX0_sizeWith 1 = .ok (.istore_n 3, 1) := by decide +kernel
theorem dX0_sizeWith_2 : decode cX0_sizeWith 2 = .ok (.iconst (-1), 1) := by decide +kernel
theorem dX0_sizeWith_3 : decode cX0_sizeWith 3 = .ok (.istore 4, 2) := by decide +kernel
theorem dX0_sizeWith_5 : decode cX0_sizeWith 5 = .ok (.iconst 0, 1) := by decide +kernel
theorem dX0_sizeWith_6 : decode cX0_sizeWith 6 = .ok (.istore 5, 2) := by decide +kernel
theorem dX0_sizeWith_8 : decode cX0_sizeWith 8 = .ok (.iload 5, 2) := by decide +kernel
theorem dX0_sizeWith_10 : decode cX0_sizeWith 10 = .ok (.aload_n 0, 1) := by decide +kernel
theorem dX0_sizeWith_11 : decode cX0_sizeWith 11 = .ok (.getfield 28, 3) := by decide +kernel
theorem dX0_sizeWith_14 : decode cX0_sizeWith 14 = .ok (.if_icmp .ge 37, 3) := by decide +kernel
theorem dX0_sizeWith_17 : decode cX0_sizeWith 17 = .ok (.aload_n 0, 1) := by decide +kernel
theorem dX0_sizeWith_18 : decode cX0_sizeWith 18 = .ok (.iload 4, 2) := by decide +kernel
theorem dX0_sizeWith_20 : decode cX0_sizeWith 20 = .ok (.invokevirtual 68, 3) := by decide +kernel
theorem dX0_sizeWith_23 : decode cX0_sizeWith 23 = .ok (.istore 4, 2) := by decide +kernel
theorem dX0_sizeWith_25 : decode cX0_sizeWith 25 = .ok (.iload_n 3, 1) := by decide +kernel
theorem dX0_sizeWith_26 : decode cX0_sizeWith 26 = .ok (.iload_n 1, 1) := by decide +kernel
theorem dX0_sizeWith_27 : decode cX0_sizeWith 27 = .ok (.aload_n 0, 1) := by decide +kernel
theorem dX0_sizeWith_28 : decode cX0_sizeWith 28 = .ok (.getfield 47, 3) := by decide +kernel
theorem dX0_sizeWith_31 : decode cX0_sizeWith 31 = .ok (.invokestatic 71, 3) := by decide +kernel
theorem dX0_sizeWith_34 : decode cX0_sizeWith 34 = .ok (.iload_n 2, 1) := by decide +kernel
theorem dX0_sizeWith_35 : decode cX0_sizeWith 35 = .ok (.if_icmp .ne 7, 3) := by decide +kernel
theorem dX0_sizeWith_38 : decode cX0_sizeWith 38 = .ok (.iconst 1, 1) := by decide +kernel
theorem dX0_sizeWith_39 : decode cX0_sizeWith 39 = .ok (.goto 4, 3) := by decide +kernel
theorem dX0_sizeWith_42 : decode cX0_sizeWith 42 = .ok (.iconst 0, 1) := by decide +kernel
theorem dX0_sizeWith_43 : decode cX0_sizeWith 43 = .ok (.iadd, 1) := by decide +kernel
theorem dX0_sizeWith_44 : decode cX0_sizeWith 44 = .ok (.istore_n 3, 1) := by decide +kernel
theorem dX0_sizeWith_45 : decode cX0_sizeWith 45 = .ok (.iinc 5 1, 3) := by decide +kernel
theorem dX0_sizeWith_48 : decode cX0_sizeWith 48 = .ok (.goto (-40), 3) := by decide +kernel
theorem dX0_sizeWith_51 : decode cX0_sizeWith 51 = .ok (.iload_n 3, 1) := by decide +kernel
theorem dX0_sizeWith_52 : decode cX0_sizeWith 52 = .ok (.ireturn, 1) := by decide +kernel
theorem dX1_code_0 : decode cX1_code 0 = .ok (.iconst 1, 1) := by decide +kernel
theorem dX1_code_1 : decode cX1_code 1 = .ok (.iload_n 2, 1) := by decide +kernel
theorem dX1_code_2 : decode cX1_code 2 = .ok (.ishl, 1) := by decide +kernel
theorem dX1_code_3 : decode cX1_code 3 = .ok (.istore 5, 2) := by decide +kernel
theorem dX1_code_5 : decode cX1_code 5 = .ok (.iload 5, 2) := by decide +kernel
theorem dX1_code_7 : decode cX1_code 7 = .ok (.iload_n 1, 1) := by decide +kernel
theorem dX1_code_8 : decode cX1_code 8 = .ok (.iconst 1, 1) := by decide +kernel
theorem dX1_code_9 : decode cX1_code 9 = .ok (.if_icmp .le 9, 3) := by decide +kernel
theorem dX1_code_12 : decode cX1_code 12 = .ok (.iconst 1, 1) := by decide +kernel
theorem dX1_code_13 : decode cX1_code 13 = .ok (.iload_n 3, 1) := by decide +kernel
theorem dX1_code_14 : decode cX1_code 14 = .ok (.ishl, 1) := by decide +kernel
theorem dX1_code_15 : decode cX1_code 15 = .ok (.goto 4, 3) := by decide +kernel
theorem dX1_code_18 : decode cX1_code 18 = .ok (.iconst 0, 1) := by decide +kernel
theorem dX1_code_19 : decode cX1_code 19 = .ok (.ior, 1) := by decide +kernel
theorem dX1_code_20 : decode cX1_code 20 = .ok (.istore 5, 2) := by decide +kernel
theorem dX1_code_22 : decode cX1_code 22 = .ok (.iload 5, 2) := by decide +kernel
theorem dX1_code_24 : decode cX1_code 24 = .ok (.iload_n 1, 1) := by decide +kernel
theorem dX1_code_25 : decode cX1_code 25 = .ok (.iconst 2, 1) := by decide +kernel
theorem dX1_code_26 : decode cX1_code 26 = .ok (.if_icmp .le 10, 3) := by decide +kernel
theorem dX1_code_29 : decode cX1_code 29 = .ok (.iconst 1, 1) := by decide +kernel
theorem dX1_code_30 : decode cX1_code 30 = .ok (.iload 4, 2) := by decide +kernel
theorem dX1_code_32 : decode cX1_code 32 = .ok (.ishl, 1) := by decide +kernel
theorem dX1_code_33 : decode cX1_code 33 = .ok (.goto 4, 3) := by decide +kernel
theorem dX1_code_36 : decode cX1_code 36 = .ok (.iconst 0, 1) := by decide +kernel
theorem dX1_code_37 : decode cX1_code 37 = .ok (.ior, 1) := by decide +kernel
theorem dX1_code_38 : decode cX1_code 38 = .ok (.istore 5, 2) := by decide +kernel
theorem dX1_code_40 : decode cX1_code 40 = .ok (.iload_n 0, 1) := by decide +kernel
theorem dX1_code_41 : decode cX1_code 41 = .ok (.iload_n 1, 1) := by decide +kernel
theorem dX1_code_42 : decode cX1_code 42 = .ok (.iconst 3, 1) := by decide +kernel
theorem dX1_code_43 : decode cX1_code 43 = .ok (.ishl, 1) := by decide +kernel
theorem dX1_code_44 : decode cX1_code 44 = .ok (.ior, 1) := by decide +kernel
theorem dX1_code_45 : decode cX1_code 45 = .ok (.iload_n 2, 1) := by decide +kernel
theorem dX1_code_46 : decode cX1_code 46 = .ok (.iconst 5, 1) := by decide +kernel
theorem dX1_code_47 : decode cX1_code 47 = .ok (.ishl, 1) := by decide +kernel
theorem dX1_code_48 : decode cX1_code 48 = .ok (.ior, 1) := by decide +kernel
theorem dX1_code_49 : decode cX1_code 49 = .ok (.iload_n 3, 1) := by decide +kernel
theorem dX1_code_50 : decode cX1_code 50 = .ok (.bipush 7, 2) := by decide +kernel
theorem dX1_code_52 : decode cX1_code 52 = .ok (.ishl, 1) := by decide +kernel
theorem dX1_code_53 : decode cX1_code 53 = .ok (.ior, 1) := by decide +kernel
theorem dX1_code_54 : decode cX1_code 54 = .ok (.iload 4, 2) := by decide +kernel
theorem dX1_code_56 : decode cX1_code 56 = .ok (.bipush 9, 2) := by decide +kernel
theorem dX1_code_58 : decode cX1_code 58 = .ok (.ishl, 1) := by decide +kernel
theorem dX1_code_59 : decode cX1_code 59 = .ok (.ior, 1) := by decide +kernel
theorem dX1_code_60 : decode cX1_code 60 = .ok (.iload 5, 2) := by decide +kernel
theorem dX1_code_62 : decode cX1_code 62 = .ok (.bipush 11, 2) := by decide +kernel
theorem dX1_code_64 : decode cX1_code 64 = .ok (.ishl, 1) := by decide +kernel
theorem dX1_code_65 : decode cX1_code 65 = .ok (.ior, 1) := by decide +kernel
theorem dX1_code_66 : decode cX1_code 66 = .ok (.ireturn, 1) := by decide +kernel
theorem dX1_withNot_0 : decode cX1_withNot 0 = .ok (.iload_n 0, 1) := by decide +kernel
theorem dX1_withNot_1 : decode cX1_withNot 1 = .ok (.ldc 11, 2) := by decide +kernel
theorem dX1_withNot_3 : decode cX1_withNot 3 = .ok (.ior, 1) := by decide +kernel
theorem dX1_withNot_4 : decode cX1_withNot 4 = .ok (.ireturn, 1) := by decide +kernel
theorem dX1_isNot_0 : decode cX1_isNot 0 = .ok (.iload_n 0, 1) := by decide +kernel
theorem dX1_isNot_1 : decode cX1_isNot 1 = .ok (.ldc 11, 2) := by decide +kernel
theorem dX1_isNot_3 : decode cX1_isNot 3 = .ok (.iand, 1) := by decide +kernel
theorem dX1_isNot_4 : decode cX1_isNot 4 = .ok (.ifCond .eq 7, 3) := by decide +kernel
theorem dX1_isNot_7 : decode cX1_isNot 7 = .ok (.iconst 1, 1) := by decide +kernel
theorem dX1_isNot_8 : decode cX1_isNot 8 = .ok (.goto 4, 3) := by decide +kernel
theorem dX1_isNot_11 : decode cX1_isNot 11 = .ok (.iconst 0, 1) := by decide +kernel
theorem dX1_isNot_12 : decode cX1_isNot 12 = .ok (.ireturn, 1) := by decide +kernel
theorem dX1_table_0 : decode cX1_table 0 = .ok (.iload_n 0, 1) := by decide +kernel
theorem dX1_table_1 : decode cX1_table 1 = .ok (.bipush 7, 2) := by decide +kernel
theorem dX1_table_3 : decode cX1_table 3 = .ok (.iand, 1) := by decide +kernel
theorem dX1_table_4 : decode cX1_table 4 = .ok (.ireturn, 1) := by decide +kernel
theorem dX1_width_0 : decode cX1_width 0 = .ok (.iload_n 0, 1) := by decide +kernel
theorem dX1_width_1 : decode cX1_width 1 = .ok (.iconst 3, 1) := by decide +kernel
theorem dX1_width_2 : decode cX1_width 2 = .ok (.ishr, 1) := by decide +kernel
theorem dX1_width_3 : decode cX1_width 3 = .ok (.iconst 3, 1) := by decide +kernel
theorem dX1_width_4 : decode cX1_width 4 = .ok (.iand, 1) := by decide +kernel
theorem dX1_width_5 : decode cX1_width 5 = .ok (.ireturn, 1) := by decide +kernel
theorem dX1_variable_0 : decode cX1_variable 0 = .ok (.iload_n 1, 1) := by decide +kernel
theorem dX1_variable_1 : decode cX1_variable 1 = .ok (.ifCond .lt 16, 3) := by decide +kernel
theorem dX1_variable_4 : decode cX1_variable 4 = .ok (.iload_n 1, 1) := by decide +kernel
theorem dX1_variable_5 : decode cX1_variable 5 = .ok (.iload_n 0, 1) := by decide +kernel
theorem dX1_variable_6 : decode cX1_variable 6 = .ok (.iconst 3, 1) := by decide +kernel
theorem dX1_variable_7 : decode cX1_variable 7 = .ok (.ishr, 1) := by decide +kernel
theorem dX1_variable_8 : decode cX1_variable 8 = .ok (.iconst 3, 1) := by decide +kernel
theorem dX1_variable_9 : decode cX1_variable 9 = .ok (.iand, 1) := by decide +kernel
theorem dX1_variable_10 : decode cX1_variable 10 = .ok (.if_icmp .ge 7, 3) := by decide +kernel
theorem dX1_variable_13 : decode cX1_variable 13 = .ok (.iconst 1, 1) := by decide +kernel
theorem dX1_variable_14 : decode cX1_variable 14 = .ok (.goto 4, 3) := by decide +kernel
theorem dX1_variable_17 : decode cX1_variable 17 = .ok (.iconst 0, 1) := by decide +kernel
theorem dX1_variable_18 : decode cX1_variable 18 = .ok (.istore_n 2, 1) := by decide +kernel
theorem dX1_variable_19 : decode cX1_variable 19 = .ok (.iload_n 2, 1) := by decide +kernel
theorem dX1_variable_20 : decode cX1_variable 20 = .ok (.ifCond .eq 15, 3) := by decide +kernel
theorem dX1_variable_23 : decode cX1_variable 23 = .ok (.iload_n 0, 1) := by decide +kernel
theorem dX1_variable_24 : decode cX1_variable 24 = .ok (.iconst 5, 1) := by decide +kernel
theorem dX1_variable_25 : decode cX1_variable 25 = .ok (.iconst 2, 1) := by decide +kernel
theorem dX1_variable_26 : decode cX1_variable 26 = .ok (.iload_n 1, 1) := by decide +kernel
theorem dX1_variable_27 : decode cX1_variable 27 = .ok (.imul, 1) := by decide +kernel
theorem dX1_variable_28 : decode cX1_variable 28 = .ok (.iadd, 1) := by decide +kernel
theorem dX1_variable_29 : decode cX1_variable 29 = .ok (.ishr, 1) := by decide +kernel
theorem dX1_variable_30 : decode cX1_variable 30 = .ok (.iconst 3, 1) := by decide +kernel
theorem dX1_variable_31 : decode cX1_variable 31 = .ok (.iand, 1) := by decide +kernel
theorem dX1_variable_32 : decode cX1_variable 32 = .ok (.goto 4, 3) := by decide +kernel
theorem dX1_variable_35 : decode cX1_variable 35 = .ok (.iconst (-1), 1) := by decide +kernel
theorem dX1_variable_36 : decode cX1_variable 36 = .ok (.ireturn, 1) := by decide +kernel
theorem dX1_variables_0 : decode cX1_variables 0 = .ok (.iload_n 0, 1) := by decide +kernel
theorem dX1_variables_1 : decode cX1_variables 1 = .ok (.bipush 11, 2) := by decide +kernel
theorem dX1_variables_3 : decode cX1_variables 3 = .ok (.ishr, 1) := by decide +kernel
theorem dX1_variables_4 : decode cX1_variables 4 = .ok (.bipush 15, 2) := by decide +kernel
theorem dX1_variables_6 : decode cX1_variables 6 = .ok (.iand, 1) := by decide +kernel
theorem dX1_variables_7 : decode cX1_variables 7 = .ok (.ireturn, 1) := by decide +kernel
theorem dX1_stands_0 : decode cX1_stands 0 = .ok (.iload_n 0, 1) := by decide +kernel
theorem dX1_stands_1 : decode cX1_stands 1 = .ok (.bipush 11, 2) := by decide +kernel
theorem dX1_stands_3 : decode cX1_stands 3 = .ok (.iload_n 1, 1) := by decide +kernel
theorem dX1_stands_4 : decode cX1_stands 4 = .ok (.iadd, 1) := by decide +kernel
theorem dX1_stands_5 : decode cX1_stands 5 = .ok (.ishr, 1) := by decide +kernel
theorem dX1_stands_6 : decode cX1_stands 6 = .ok (.iconst 1, 1) := by decide +kernel
theorem dX1_stands_7 : decode cX1_stands 7 = .ok (.iand, 1) := by decide +kernel
theorem dX1_stands_8 : decode cX1_stands 8 = .ok (.ifCond .eq 7, 3) := by decide +kernel
theorem dX1_stands_11 : decode cX1_stands 11 = .ok (.iconst 1, 1) := by decide +kernel
theorem dX1_stands_12 : decode cX1_stands 12 = .ok (.goto 4, 3) := by decide +kernel
theorem dX1_stands_15 : decode cX1_stands 15 = .ok (.iconst 0, 1) := by decide +kernel
theorem dX1_stands_16 : decode cX1_stands 16 = .ok (.ireturn, 1) := by decide +kernel
theorem dX1_withValue_0 : decode cX1_withValue 0 = .ok (.iload_n 0, 1) := by decide +kernel
theorem dX1_withValue_1 : decode cX1_withValue 1 = .ok (.bipush 15, 2) := by decide +kernel
theorem dX1_withValue_3 : decode cX1_withValue 3 = .ok (.iconst 4, 1) := by decide +kernel
theorem dX1_withValue_4 : decode cX1_withValue 4 = .ok (.iload_n 1, 1) := by decide +kernel
theorem dX1_withValue_5 : decode cX1_withValue 5 = .ok (.imul, 1) := by decide +kernel
theorem dX1_withValue_6 : decode cX1_withValue 6 = .ok (.ishl, 1) := by decide +kernel
theorem dX1_withValue_7 : decode cX1_withValue 7 = .ok (.iconst (-1), 1) := by decide +kernel
theorem dX1_withValue_8 : decode cX1_withValue 8 = .ok (.ixor, 1) := by decide +kernel
theorem dX1_withValue_9 : decode cX1_withValue 9 = .ok (.iand, 1) := by decide +kernel
theorem dX1_withValue_10 : decode cX1_withValue 10 = .ok (.bipush 8, 2) := by decide +kernel
theorem dX1_withValue_12 : decode cX1_withValue 12 = .ok (.iload_n 2, 1) := by decide +kernel
theorem dX1_withValue_13 : decode cX1_withValue 13 = .ok (.ior, 1) := by decide +kernel
theorem dX1_withValue_14 : decode cX1_withValue 14 = .ok (.iconst 4, 1) := by decide +kernel
theorem dX1_withValue_15 : decode cX1_withValue 15 = .ok (.iload_n 1, 1) := by decide +kernel
theorem dX1_withValue_16 : decode cX1_withValue 16 = .ok (.imul, 1) := by decide +kernel
theorem dX1_withValue_17 : decode cX1_withValue 17 = .ok (.ishl, 1) := by decide +kernel
theorem dX1_withValue_18 : decode cX1_withValue 18 = .ok (.ior, 1) := by decide +kernel
theorem dX1_withValue_19 : decode cX1_withValue 19 = .ok (.ireturn, 1) := by decide +kernel
theorem dX1_withoutValue_0 : decode cX1_withoutValue 0 = .ok (.iload_n 0, 1) := by decide +kernel
theorem dX1_withoutValue_1 : decode cX1_withoutValue 1 = .ok (.bipush 15, 2) := by decide +kernel
theorem dX1_withoutValue_3 : decode cX1_withoutValue 3 = .ok (.iconst 4, 1) := by decide +kernel
theorem dX1_withoutValue_4 : decode cX1_withoutValue 4 = .ok (.iload_n 1, 1) := by decide +kernel
theorem dX1_withoutValue_5 : decode cX1_withoutValue 5 = .ok (.imul, 1) := by decide +kernel
theorem dX1_withoutValue_6 : decode cX1_withoutValue 6 = .ok (.ishl, 1) := by decide +kernel
theorem dX1_withoutValue_7 : decode cX1_withoutValue 7 = .ok (.iconst (-1), 1) := by decide +kernel
theorem dX1_withoutValue_8 : decode cX1_withoutValue 8 = .ok (.ixor, 1) := by decide +kernel
theorem dX1_withoutValue_9 : decode cX1_withoutValue 9 = .ok (.iand, 1) := by decide +kernel
theorem dX1_withoutValue_10 : decode cX1_withoutValue 10 = .ok (.ireturn, 1) := by decide +kernel
theorem dX1_hasValue_0 : decode cX1_hasValue 0 = .ok (.iload_n 1, 1) := by decide +kernel
theorem dX1_hasValue_1 : decode cX1_hasValue 1 = .ok (.iconst 4, 1) := by decide +kernel
theorem dX1_hasValue_2 : decode cX1_hasValue 2 = .ok (.iload_n 0, 1) := by decide +kernel
theorem dX1_hasValue_3 : decode cX1_hasValue 3 = .ok (.imul, 1) := by decide +kernel
theorem dX1_hasValue_4 : decode cX1_hasValue 4 = .ok (.ishr, 1) := by decide +kernel
theorem dX1_hasValue_5 : decode cX1_hasValue 5 = .ok (.bipush 8, 2) := by decide +kernel
theorem dX1_hasValue_7 : decode cX1_hasValue 7 = .ok (.iand, 1) := by decide +kernel
theorem dX1_hasValue_8 : decode cX1_hasValue 8 = .ok (.ifCond .eq 7, 3) := by decide +kernel
theorem dX1_hasValue_11 : decode cX1_hasValue 11 = .ok (.iconst 1, 1) := by decide +kernel
theorem dX1_hasValue_12 : decode cX1_hasValue 12 = .ok (.goto 4, 3) := by decide +kernel
theorem dX1_hasValue_15 : decode cX1_hasValue 15 = .ok (.iconst 0, 1) := by decide +kernel
theorem dX1_hasValue_16 : decode cX1_hasValue 16 = .ok (.ireturn, 1) := by decide +kernel
theorem dX1_valueOf_0 : decode cX1_valueOf 0 = .ok (.iload_n 1, 1) := by decide +kernel
theorem dX1_valueOf_1 : decode cX1_valueOf 1 = .ok (.iconst 4, 1) := by decide +kernel
theorem dX1_valueOf_2 : decode cX1_valueOf 2 = .ok (.iload_n 0, 1) := by decide +kernel
theorem dX1_valueOf_3 : decode cX1_valueOf 3 = .ok (.imul, 1) := by decide +kernel
theorem dX1_valueOf_4 : decode cX1_valueOf 4 = .ok (.ishr, 1) := by decide +kernel
theorem dX1_valueOf_5 : decode cX1_valueOf 5 = .ok (.bipush 7, 2) := by decide +kernel
theorem dX1_valueOf_7 : decode cX1_valueOf 7 = .ok (.iand, 1) := by decide +kernel
theorem dX1_valueOf_8 : decode cX1_valueOf 8 = .ok (.ireturn, 1) := by decide +kernel
set_option maxRecDepth 20000 in
theorem ggX1_spread_X1_withValue : GoodIn wsX1_spread wsX1_withValue := goodIn_r _ [4] (by decide +kernel) (by decide +kernel)
set_option maxRecDepth 20000 in
theorem gX1_spread_X1_withValue : GoodIn wsX1_spread (va_wsS RX1 12 yX1_withValue wsX1_withValue) := goodIn_app (goodIn_of _ (by decide +kernel)) ggX1_spread_X1_withValue
theorem dX1_spread_0 : decode cX1_spread 0 = .ok (.iload_n 0, 1) := by decide +kernel
theorem dX1_spread_1 : decode cX1_spread 1 = .ok (.istore_n 2, 1) := by decide +kernel
theorem dX1_spread_2 : decode cX1_spread 2 = .ok (.iconst 0, 1) := by decide +kernel
theorem dX1_spread_3 : decode cX1_spread 3 = .ok (.istore_n 3, 1) := by decide +kernel
theorem dX1_spread_4 : decode cX1_spread 4 = .ok (.iconst 0, 1) := by decide +kernel
theorem dX1_spread_5 : decode cX1_spread 5 = .ok (.istore 4, 2) := by decide +kernel
theorem dX1_spread_7 : decode cX1_spread 7 = .ok (.iload 4, 2) := by decide +kernel
theorem dX1_spread_9 : decode cX1_spread 9 = .ok (.iconst 4, 1) := by decide +kernel
theorem dX1_spread_10 : decode cX1_spread 10 = .ok (.if_icmp .ge 33, 3) := by decide +kernel
theorem dX1_spread_13 : decode cX1_spread 13 = .ok (.iload_n 1, 1) := by decide +kernel
theorem dX1_spread_14 : decode cX1_spread 14 = .ok (.iconst 1, 1) := by decide +kernel
theorem dX1_spread_15 : decode cX1_spread 15 = .ok (.iload 4, 2) := by decide +kernel
theorem dX1_spread_17 : decode cX1_spread 17 = .ok (.ishl, 1) := by decide +kernel
theorem dX1_spread_18 : decode cX1_spread 18 = .ok (.iand, 1) := by decide +kernel
theorem dX1_spread_19 : decode cX1_spread 19 = .ok (.ifCond .eq 18, 3) := by decide +kernel
theorem dX1_spread_22 : decode cX1_spread 22 = .ok (.iload_n 3, 1) := by decide +kernel
theorem dX1_spread_23 : decode cX1_spread 23 = .ok (.iload 4, 2) := by decide +kernel
theorem dX1_spread_25 : decode cX1_spread 25 = .ok (.iload_n 2, 1) := by decide +kernel
theorem dX1_spread_26 : decode cX1_spread 26 = .ok (.bipush 7, 2) := by decide +kernel
theorem dX1_spread_28 : decode cX1_spread 28 = .ok (.iand, 1) := by decide +kernel
theorem dX1_spread_29 : decode cX1_spread 29 = .ok (.invokestatic 12, 3) := by decide +kernel
theorem dX1_spread_32 : decode cX1_spread 32 = .ok (.istore_n 3, 1) := by decide +kernel
theorem dX1_spread_33 : decode cX1_spread 33 = .ok (.iload_n 2, 1) := by decide +kernel
theorem dX1_spread_34 : decode cX1_spread 34 = .ok (.iconst 3, 1) := by decide +kernel
theorem dX1_spread_35 : decode cX1_spread 35 = .ok (.ishr, 1) := by decide +kernel
theorem dX1_spread_36 : decode cX1_spread 36 = .ok (.istore_n 2, 1) := by decide +kernel
theorem dX1_spread_37 : decode cX1_spread 37 = .ok (.iinc 4 1, 3) := by decide +kernel
theorem dX1_spread_40 : decode cX1_spread 40 = .ok (.goto (-33), 3) := by decide +kernel
theorem dX1_spread_43 : decode cX1_spread 43 = .ok (.iload_n 3, 1) := by decide +kernel
theorem dX1_spread_44 : decode cX1_spread 44 = .ok (.ireturn, 1) := by decide +kernel
set_option maxRecDepth 20000 in
theorem ggX1_row_X1_variable : GoodIn wsX1_row wsX1_variable := goodIn_r _ [4] (by decide +kernel) (by decide +kernel)
set_option maxRecDepth 20000 in
theorem gX1_row_X1_variable : GoodIn wsX1_row (va_wsS RX1 16 yX1_variable wsX1_variable) := goodIn_app (goodIn_of _ (by decide +kernel)) ggX1_row_X1_variable
set_option maxRecDepth 20000 in
theorem ggX1_row_X1_valueOf : GoodIn wsX1_row wsX1_valueOf := goodIn_r _ [7] (by decide +kernel) (by decide +kernel)
set_option maxRecDepth 20000 in
theorem gX1_row_X1_valueOf : GoodIn wsX1_row (va_wsS RX1 20 yX1_valueOf wsX1_valueOf) := goodIn_app (goodIn_of _ (by decide +kernel)) ggX1_row_X1_valueOf
theorem dX1_row_0 : decode cX1_row 0 = .ok (.iconst 0, 1) := by decide +kernel
theorem dX1_row_1 : decode cX1_row 1 = .ok (.istore_n 2, 1) := by decide +kernel
theorem dX1_row_2 : decode cX1_row 2 = .ok (.iconst 0, 1) := by decide +kernel
theorem dX1_row_3 : decode cX1_row 3 = .ok (.istore_n 3, 1) := by decide +kernel
theorem dX1_row_4 : decode cX1_row 4 = .ok (.iload_n 3, 1) := by decide +kernel
theorem dX1_row_5 : decode cX1_row 5 = .ok (.iconst 3, 1) := by decide +kernel
theorem dX1_row_6 : decode cX1_row 6 = .ok (.if_icmp .ge 37, 3) := by decide +kernel
theorem dX1_row_9 : decode cX1_row 9 = .ok (.iload_n 0, 1) := by decide +kernel
theorem dX1_row_10 : decode cX1_row 10 = .ok (.iload_n 3, 1) := by decide +kernel
theorem dX1_row_11 : decode cX1_row 11 = .ok (.invokestatic 16, 3) := by decide +kernel
theorem dX1_row_14 : decode cX1_row 14 = .ok (.istore 4, 2) := by decide +kernel
theorem dX1_row_16 : decode cX1_row 16 = .ok (.iload_n 2, 1) := by decide +kernel
theorem dX1_row_17 : decode cX1_row 17 = .ok (.iconst 3, 1) := by decide +kernel
theorem dX1_row_18 : decode cX1_row 18 = .ok (.ishl, 1) := by decide +kernel
theorem dX1_row_19 : decode cX1_row 19 = .ok (.iload 4, 2) := by decide +kernel
theorem dX1_row_21 : decode cX1_row 21 = .ok (.iconst (-1), 1) := by decide +kernel
theorem dX1_row_22 : decode cX1_row 22 = .ok (.if_icmp .ne 7, 3) := by decide +kernel
theorem dX1_row_25 : decode cX1_row 25 = .ok (.iconst 0, 1) := by decide +kernel
theorem dX1_row_26 : decode cX1_row 26 = .ok (.goto 9, 3) := by decide +kernel
theorem dX1_row_29 : decode cX1_row 29 = .ok (.iload 4, 2) := by decide +kernel
theorem dX1_row_31 : decode cX1_row 31 = .ok (.iload_n 1, 1) := by decide +kernel
theorem dX1_row_32 : decode cX1_row 32 = .ok (.invokestatic 20, 3) := by decide +kernel
theorem dX1_row_35 : decode cX1_row 35 = .ok (.ior, 1) := by decide +kernel
theorem dX1_row_36 : decode cX1_row 36 = .ok (.istore_n 2, 1) := by decide +kernel
theorem dX1_row_37 : decode cX1_row 37 = .ok (.iinc 3 1, 3) := by decide +kernel
theorem dX1_row_40 : decode cX1_row 40 = .ok (.goto (-36), 3) := by decide +kernel
theorem dX1_row_43 : decode cX1_row 43 = .ok (.iload_n 2, 1) := by decide +kernel
theorem dX1_row_44 : decode cX1_row 44 = .ok (.ireturn, 1) := by decide +kernel
set_option maxRecDepth 20000 in
theorem ggX1_agrees_X1_width : GoodIn wsX1_agrees wsX1_width := goodIn_r _ [4] (by decide +kernel) (by decide +kernel)
set_option maxRecDepth 20000 in
theorem gX1_agrees_X1_width : GoodIn wsX1_agrees (va_wsS RX1 23 yX1_width wsX1_width) := goodIn_app (goodIn_of _ (by decide +kernel)) ggX1_agrees_X1_width
set_option maxRecDepth 20000 in
theorem ggX1_agrees_X1_variable : GoodIn wsX1_agrees wsX1_variable := goodIn_r _ [7] (by decide +kernel) (by decide +kernel)
set_option maxRecDepth 20000 in
theorem gX1_agrees_X1_variable : GoodIn wsX1_agrees (va_wsS RX1 16 yX1_variable wsX1_variable) := goodIn_app (goodIn_of _ (by decide +kernel)) ggX1_agrees_X1_variable
set_option maxRecDepth 20000 in
theorem ggX1_agrees_X11_valueIn : GoodIn wsX1_agrees wsX11_valueIn := goodIn_r _ [10] (by decide +kernel) (by decide +kernel)
set_option maxRecDepth 20000 in
theorem gX1_agrees_X11_valueIn_n27 : GoodIn wsX1_agrees (wsX11_valueIn) := ggX1_agrees_X11_valueIn
set_option maxRecDepth 20000 in
theorem ggX1_agrees_X1_withValue : GoodIn wsX1_agrees wsX1_withValue := goodIn_r _ [13] (by decide +kernel) (by decide +kernel)
set_option maxRecDepth 20000 in
theorem gX1_agrees_X1_withValue : GoodIn wsX1_agrees (va_wsS RX1 12 yX1_withValue wsX1_withValue) := goodIn_app (goodIn_of _ (by decide +kernel)) ggX1_agrees_X1_withValue
set_option maxRecDepth 20000 in
theorem ggX1_agrees_X1_row : GoodIn wsX1_agrees wsX1_row := goodIn_r _ [16, 5, 6, 3, 7, 17, 18, 19] (by decide +kernel) (by decide +kernel)
set_option maxRecDepth 20000 in
theorem gX1_agrees_X1_row : GoodIn wsX1_agrees (va_wsS RX1 30 yX1_row wsX1_row) := goodIn_app (goodIn_of _ (by decide +kernel)) ggX1_agrees_X1_row
theorem dX1_agrees_0 : decode cX1_agrees 0 = .ok (.iconst 0, 1) := by decide +kernel
theorem dX1_agrees_1 : decode cX1_agrees 1 = .ok (.istore_n 2, 1) := by decide +kernel
theorem dX1_agrees_2 : decode cX1_agrees 2 = .ok (.iconst 0, 1) := by decide +kernel
theorem dX1_agrees_3 : decode cX1_agrees 3 = .ok (.istore_n 3, 1) := by decide +kernel
theorem dX1_agrees_4 : decode cX1_agrees 4 = .ok (.iload_n 3, 1) := by decide +kernel
theorem dX1_agrees_5 : decode cX1_agrees 5 = .ok (.iload_n 0, 1) := by decide +kernel
theorem dX1_agrees_6 : decode cX1_agrees 6 = .ok (.invokestatic 23, 3) := by decide +kernel
theorem dX1_agrees_9 : decode cX1_agrees 9 = .ok (.if_icmp .ge 24, 3) := by decide +kernel
theorem dX1_agrees_12 : decode cX1_agrees 12 = .ok (.iload_n 2, 1) := by decide +kernel
theorem dX1_agrees_13 : decode cX1_agrees 13 = .ok (.iload_n 0, 1) := by decide +kernel
theorem dX1_agrees_14 : decode cX1_agrees 14 = .ok (.iload_n 3, 1) := by decide +kernel
theorem dX1_agrees_15 : decode cX1_agrees 15 = .ok (.invokestatic 16, 3) := by decide +kernel
theorem dX1_agrees_18 : decode cX1_agrees 18 = .ok (.iload_n 1, 1) := by decide +kernel
theorem dX1_agrees_19 : decode cX1_agrees 19 = .ok (.iload_n 3, 1) := by decide +kernel
theorem dX1_agrees_20 : decode cX1_agrees 20 = .ok (.invokestatic 27, 3) := by decide +kernel
theorem dX1_agrees_23 : decode cX1_agrees 23 = .ok (.invokestatic 12, 3) := by decide +kernel
theorem dX1_agrees_26 : decode cX1_agrees 26 = .ok (.istore_n 2, 1) := by decide +kernel
theorem dX1_agrees_27 : decode cX1_agrees 27 = .ok (.iinc 3 1, 3) := by decide +kernel
theorem dX1_agrees_30 : decode cX1_agrees 30 = .ok (.goto (-26), 3) := by decide +kernel
theorem dX1_agrees_33 : decode cX1_agrees 33 = .ok (.iload_n 0, 1) := by decide +kernel
theorem dX1_agrees_34 : decode cX1_agrees 34 = .ok (.iload_n 2, 1) := by decide +kernel
theorem dX1_agrees_35 : decode cX1_agrees 35 = .ok (.invokestatic 30, 3) := by decide +kernel
theorem dX1_agrees_38 : decode cX1_agrees 38 = .ok (.iload_n 1, 1) := by decide +kernel
theorem dX1_agrees_39 : decode cX1_agrees 39 = .ok (.if_icmp .ne 7, 3) := by decide +kernel
theorem dX1_agrees_42 : decode cX1_agrees 42 = .ok (.iconst 1, 1) := by decide +kernel
theorem dX1_agrees_43 : decode cX1_agrees 43 = .ok (.goto 4, 3) := by decide +kernel
theorem dX1_agrees_46 : decode cX1_agrees 46 = .ok (.iconst 0, 1) := by decide +kernel
theorem dX1_agrees_47 : decode cX1_agrees 47 = .ok (.ireturn, 1) := by decide +kernel
set_option maxRecDepth 20000 in
theorem ggX2_init_X6_init : GoodIn wsX2_init wsX6_init := goodIn_r _ [10, 11, 2, 3, 12, 13, 14] (by decide +kernel) (by decide +kernel)
set_option maxRecDepth 20000 in
theorem gX2_init_X6_init : GoodIn wsX2_init (wsX6_init) := ggX2_init_X6_init
theorem dX2_init_0 : decode cX2_init 0 = .ok (.aload_n 0, 1) := by decide +kernel
theorem dX2_init_1 : decode cX2_init 1 = .ok (.invokespecial 3, 3) := by decide +kernel
theorem dX2_init_4 : decode cX2_init 4 = .ok (.aload_n 0, 1) := by decide +kernel
theorem dX2_init_5 : decode cX2_init 5 = .ok (.new 9, 3) := by decide +kernel
theorem dX2_init_8 : decode cX2_init 8 = .ok (.dup, 1) := by decide +kernel
theorem dX2_init_9 : decode cX2_init 9 = .ok (.iconst 5, 1) := by decide +kernel
theorem dX2_init_10 : decode cX2_init 10 = .ok (.invokespecial 11, 3) := by decide +kernel
theorem dX2_init_13 : decode cX2_init 13 = .ok (.putfield 14, 3) := by decide +kernel
theorem dX2_init_16 : decode cX2_init 16 = .ok (.return_, 1) := by decide +kernel
set_option maxRecDepth 20000 in
theorem ggX2_at_X6_at : GoodIn wsX2_at wsX6_at := goodIn_r _ [6, 7, 10] (by decide +kernel) (by decide +kernel)
set_option maxRecDepth 20000 in
theorem gX2_at_X6_at : GoodIn wsX2_at (wsV RX2 20 RX6 yX6_at wsX6_at) := goodIn_app (goodIn_of _ (by decide +kernel)) ggX2_at_X6_at
theorem dX2_at_0 : decode cX2_at 0 = .ok (.aload_n 0, 1) := by decide +kernel
theorem dX2_at_1 : decode cX2_at 1 = .ok (.getfield 14, 3) := by decide +kernel
theorem dX2_at_4 : decode cX2_at 4 = .ok (.iload_n 1, 1) := by decide +kernel
theorem dX2_at_5 : decode cX2_at 5 = .ok (.invokevirtual 20, 3) := by decide +kernel
theorem dX2_at_8 : decode cX2_at 8 = .ok (.ireturn, 1) := by decide +kernel
set_option maxRecDepth 20000 in
theorem ggX2_add_X6_put : GoodIn wsX2_add wsX6_put := goodIn_r _ [7, 8, 11] (by decide +kernel) (by decide +kernel)
set_option maxRecDepth 20000 in
theorem gX2_add_X6_put : GoodIn wsX2_add (wsV RX2 28 RX6 yX6_put wsX6_put) := goodIn_app (goodIn_of _ (by decide +kernel)) ggX2_add_X6_put
theorem dX2_add_0 : decode cX2_add 0 = .ok (.aload_n 0, 1) := by decide +kernel
theorem dX2_add_1 : decode cX2_add 1 = .ok (.getfield 24, 3) := by decide +kernel
theorem dX2_add_4 : decode cX2_add 4 = .ok (.iconst 5, 1) := by decide +kernel
theorem dX2_add_5 : decode cX2_add 5 = .ok (.if_icmp .ge 25, 3) := by decide +kernel
theorem dX2_add_8 : decode cX2_add 8 = .ok (.aload_n 0, 1) := by decide +kernel
theorem dX2_add_9 : decode cX2_add 9 = .ok (.getfield 14, 3) := by decide +kernel
theorem dX2_add_12 : decode cX2_add 12 = .ok (.aload_n 0, 1) := by decide +kernel
theorem dX2_add_13 : decode cX2_add 13 = .ok (.getfield 24, 3) := by decide +kernel
theorem dX2_add_16 : decode cX2_add 16 = .ok (.iload_n 1, 1) := by decide +kernel
theorem dX2_add_17 : decode cX2_add 17 = .ok (.invokevirtual 28, 3) := by decide +kernel
theorem dX2_add_20 : decode cX2_add 20 = .ok (.aload_n 0, 1) := by decide +kernel
theorem dX2_add_21 : decode cX2_add 21 = .ok (.dup, 1) := by decide +kernel
theorem dX2_add_22 : decode cX2_add 22 = .ok (.getfield 24, 3) := by decide +kernel
theorem dX2_add_25 : decode cX2_add 25 = .ok (.iconst 1, 1) := by decide +kernel
theorem dX2_add_26 : decode cX2_add 26 = .ok (.iadd, 1) := by decide +kernel
theorem dX2_add_27 : decode cX2_add 27 = .ok (.putfield 24, 3) := by decide +kernel
theorem dX2_add_30 : decode cX2_add 30 = .ok (.return_, 1) := by decide +kernel
theorem dX2_clear_0 : decode cX2_clear 0 = .ok (.aload_n 0, 1) := by decide +kernel
theorem dX2_clear_1 : decode cX2_clear 1 = .ok (.iconst 0, 1) := by decide +kernel
theorem dX2_clear_2 : decode cX2_clear 2 = .ok (.putfield 24, 3) := by decide +kernel
theorem dX2_clear_5 : decode cX2_clear 5 = .ok (.return_, 1) := by decide +kernel
set_option maxRecDepth 20000 in
theorem ggX2_copyFrom_X6_copyFrom : GoodIn wsX2_copyFrom wsX6_copyFrom := goodIn_r _ [7, 8, 11] (by decide +kernel) (by decide +kernel)
set_option maxRecDepth 20000 in
theorem gX2_copyFrom_X6_copyFrom : GoodIn wsX2_copyFrom (wsV RX2 32 RX6 yX6_copyFrom wsX6_copyFrom) := goodIn_app (goodIn_of _ (by decide +kernel)) ggX2_copyFrom_X6_copyFrom
theorem dX2_copyFrom_0 : decode cX2_copyFrom 0 = .ok (.aload_n 0, 1) := by decide +kernel
theorem dX2_copyFrom_1 : decode cX2_copyFrom 1 = .ok (.getfield 14, 3) := by decide +kernel
theorem dX2_copyFrom_4 : decode cX2_copyFrom 4 = .ok (.aload_n 1, 1) := by decide +kernel
theorem dX2_copyFrom_5 : decode cX2_copyFrom 5 = .ok (.getfield 14, 3) := by decide +kernel
theorem dX2_copyFrom_8 : decode cX2_copyFrom 8 = .ok (.invokevirtual 32, 3) := by decide +kernel
theorem dX2_copyFrom_11 : decode cX2_copyFrom 11 = .ok (.aload_n 0, 1) := by decide +kernel
theorem dX2_copyFrom_12 : decode cX2_copyFrom 12 = .ok (.aload_n 1, 1) := by decide +kernel
theorem dX2_copyFrom_13 : decode cX2_copyFrom 13 = .ok (.getfield 24, 3) := by decide +kernel
theorem dX2_copyFrom_16 : decode cX2_copyFrom 16 = .ok (.putfield 24, 3) := by decide +kernel
theorem dX2_copyFrom_19 : decode cX2_copyFrom 19 = .ok (.return_, 1) := by decide +kernel
set_option maxRecDepth 20000 in
theorem ggX2_variables_X6_at : GoodIn wsX2_variables wsX6_at := goodIn_r _ [7, 8, 19] (by decide +kernel) (by decide +kernel)
set_option maxRecDepth 20000 in
theorem gX2_variables_X6_at : GoodIn wsX2_variables (wsV RX2 20 RX6 yX6_at wsX6_at) := goodIn_app (goodIn_of _ (by decide +kernel)) ggX2_variables_X6_at
set_option maxRecDepth 20000 in
theorem ggX2_variables_X1_isNot : GoodIn wsX2_variables wsX1_isNot := goodIn_r _ [12, 13] (by decide +kernel) (by decide +kernel)
set_option maxRecDepth 20000 in
theorem gX2_variables_X1_isNot : GoodIn wsX2_variables (va_wsS RX2 36 yX1_isNot wsX1_isNot) := goodIn_app (goodIn_of _ (by decide +kernel)) ggX2_variables_X1_isNot
set_option maxRecDepth 20000 in
theorem ggX2_variables_X1_variables : GoodIn wsX2_variables wsX1_variables := goodIn_r _ [16] (by decide +kernel) (by decide +kernel)
set_option maxRecDepth 20000 in
theorem gX2_variables_X1_variables : GoodIn wsX2_variables (va_wsS RX2 42 yX1_variables wsX1_variables) := goodIn_app (goodIn_of _ (by decide +kernel)) ggX2_variables_X1_variables
theorem dX2_variables_0 : decode cX2_variables 0 = .ok (.iconst 0, 1) := by decide +kernel
theorem dX2_variables_1 : decode cX2_variables 1 = .ok (.istore_n 2, 1) := by decide +kernel
theorem dX2_variables_2 : decode cX2_variables 2 = .ok (.iconst 0, 1) := by decide +kernel
theorem dX2_variables_3 : decode cX2_variables 3 = .ok (.istore_n 3, 1) := by decide +kernel
theorem dX2_variables_4 : decode cX2_variables 4 = .ok (.iload_n 3, 1) := by decide +kernel
theorem dX2_variables_5 : decode cX2_variables 5 = .ok (.aload_n 0, 1) := by decide +kernel
theorem dX2_variables_6 : decode cX2_variables 6 = .ok (.getfield 24, 3) := by decide +kernel
theorem dX2_variables_9 : decode cX2_variables 9 = .ok (.if_icmp .ge 40, 3) := by decide +kernel
theorem dX2_variables_12 : decode cX2_variables 12 = .ok (.aload_n 0, 1) := by decide +kernel
theorem dX2_variables_13 : decode cX2_variables 13 = .ok (.getfield 14, 3) := by decide +kernel
theorem dX2_variables_16 : decode cX2_variables 16 = .ok (.iload_n 3, 1) := by decide +kernel
theorem dX2_variables_17 : decode cX2_variables 17 = .ok (.invokevirtual 20, 3) := by decide +kernel
theorem dX2_variables_20 : decode cX2_variables 20 = .ok (.istore 4, 2) := by decide +kernel
theorem dX2_variables_22 : decode cX2_variables 22 = .ok (.iload_n 2, 1) := by decide +kernel
theorem dX2_variables_23 : decode cX2_variables 23 = .ok (.iload 4, 2) := by decide +kernel
theorem dX2_variables_25 : decode cX2_variables 25 = .ok (.invokestatic 36, 3) := by decide +kernel
theorem dX2_variables_28 : decode cX2_variables 28 = .ok (.iload_n 1, 1) := by decide +kernel
theorem dX2_variables_29 : decode cX2_variables 29 = .ok (.if_icmp .ne 11, 3) := by decide +kernel
theorem dX2_variables_32 : decode cX2_variables 32 = .ok (.iload 4, 2) := by decide +kernel
theorem dX2_variables_34 : decode cX2_variables 34 = .ok (.invokestatic 42, 3) := by decide +kernel
theorem dX2_variables_37 : decode cX2_variables 37 = .ok (.goto 4, 3) := by decide +kernel
theorem dX2_variables_40 : decode cX2_variables 40 = .ok (.iconst 0, 1) := by decide +kernel
theorem dX2_variables_41 : decode cX2_variables 41 = .ok (.ior, 1) := by decide +kernel
theorem dX2_variables_42 : decode cX2_variables 42 = .ok (.istore_n 2, 1) := by decide +kernel
theorem dX2_variables_43 : decode cX2_variables 43 = .ok (.iinc 3 1, 3) := by decide +kernel
theorem dX2_variables_46 : decode cX2_variables 46 = .ok (.goto (-42), 3) := by decide +kernel
theorem dX2_variables_49 : decode cX2_variables 49 = .ok (.iload_n 2, 1) := by decide +kernel
theorem dX2_variables_50 : decode cX2_variables 50 = .ok (.ireturn, 1) := by decide +kernel
set_option maxRecDepth 20000 in
theorem ggX2_standing_X6_at : GoodIn wsX2_standing wsX6_at := goodIn_r _ [7, 8, 15] (by decide +kernel) (by decide +kernel)
set_option maxRecDepth 20000 in
theorem gX2_standing_X6_at : GoodIn wsX2_standing (wsV RX2 20 RX6 yX6_at wsX6_at) := goodIn_app (goodIn_of _ (by decide +kernel)) ggX2_standing_X6_at
set_option maxRecDepth 20000 in
theorem ggX2_standing_X1_stands : GoodIn wsX2_standing wsX1_stands := goodIn_r _ [12] (by decide +kernel) (by decide +kernel)
set_option maxRecDepth 20000 in
theorem gX2_standing_X1_stands : GoodIn wsX2_standing (va_wsS RX2 45 yX1_stands wsX1_stands) := goodIn_app (goodIn_of _ (by decide +kernel)) ggX2_standing_X1_stands
theorem dX2_standing_0 : decode cX2_standing 0 = .ok (.iconst 0, 1) := by decide +kernel
theorem dX2_standing_1 : decode cX2_standing 1 = .ok (.istore_n 2, 1) := by decide +kernel
theorem dX2_standing_2 : decode cX2_standing 2 = .ok (.iconst 0, 1) := by decide +kernel
theorem dX2_standing_3 : decode cX2_standing 3 = .ok (.istore_n 3, 1) := by decide +kernel
theorem dX2_standing_4 : decode cX2_standing 4 = .ok (.iload_n 3, 1) := by decide +kernel
theorem dX2_standing_5 : decode cX2_standing 5 = .ok (.aload_n 0, 1) := by decide +kernel
theorem dX2_standing_6 : decode cX2_standing 6 = .ok (.getfield 24, 3) := by decide +kernel
theorem dX2_standing_9 : decode cX2_standing 9 = .ok (.if_icmp .ge 32, 3) := by decide +kernel
theorem dX2_standing_12 : decode cX2_standing 12 = .ok (.iload_n 2, 1) := by decide +kernel
theorem dX2_standing_13 : decode cX2_standing 13 = .ok (.aload_n 0, 1) := by decide +kernel
theorem dX2_standing_14 : decode cX2_standing 14 = .ok (.getfield 14, 3) := by decide +kernel
theorem dX2_standing_17 : decode cX2_standing 17 = .ok (.iload_n 3, 1) := by decide +kernel
theorem dX2_standing_18 : decode cX2_standing 18 = .ok (.invokevirtual 20, 3) := by decide +kernel
theorem dX2_standing_21 : decode cX2_standing 21 = .ok (.iload_n 1, 1) := by decide +kernel
theorem dX2_standing_22 : decode cX2_standing 22 = .ok (.invokestatic 45, 3) := by decide +kernel
theorem dX2_standing_25 : decode cX2_standing 25 = .ok (.ifCond .eq 7, 3) := by decide +kernel
theorem dX2_standing_28 : decode cX2_standing 28 = .ok (.iconst 1, 1) := by decide +kernel
theorem dX2_standing_29 : decode cX2_standing 29 = .ok (.goto 4, 3) := by decide +kernel
theorem dX2_standing_32 : decode cX2_standing 32 = .ok (.iconst 0, 1) := by decide +kernel
theorem dX2_standing_33 : decode cX2_standing 33 = .ok (.iadd, 1) := by decide +kernel
theorem dX2_standing_34 : decode cX2_standing 34 = .ok (.istore_n 2, 1) := by decide +kernel
theorem dX2_standing_35 : decode cX2_standing 35 = .ok (.iinc 3 1, 3) := by decide +kernel
theorem dX2_standing_38 : decode cX2_standing 38 = .ok (.goto (-34), 3) := by decide +kernel
theorem dX2_standing_41 : decode cX2_standing 41 = .ok (.iload_n 2, 1) := by decide +kernel
theorem dX2_standing_42 : decode cX2_standing 42 = .ok (.ireturn, 1) := by decide +kernel
set_option maxRecDepth 20000 in
theorem ggX2_nextWith_X6_at : GoodIn wsX2_nextWith wsX6_at := goodIn_r _ [7, 8, 15] (by decide +kernel) (by decide +kernel)
set_option maxRecDepth 20000 in
theorem gX2_nextWith_X6_at : GoodIn wsX2_nextWith (wsV RX2 20 RX6 yX6_at wsX6_at) := goodIn_app (goodIn_of _ (by decide +kernel)) ggX2_nextWith_X6_at
set_option maxRecDepth 20000 in
theorem ggX2_nextWith_X1_stands : GoodIn wsX2_nextWith wsX1_stands := goodIn_r _ [12] (by decide +kernel) (by decide +kernel)
set_option maxRecDepth 20000 in
theorem gX2_nextWith_X1_stands : GoodIn wsX2_nextWith (va_wsS RX2 45 yX1_stands wsX1_stands) := goodIn_app (goodIn_of _ (by decide +kernel)) ggX2_nextWith_X1_stands
theorem dX2_nextWith_0 : decode cX2_nextWith 0 = .ok (.iload_n 2, 1) := by decide +kernel
theorem dX2_nextWith_1 : decode cX2_nextWith 1 = .ok (.istore_n 3, 1) := by decide +kernel
theorem dX2_nextWith_2 : decode cX2_nextWith 2 = .ok (.iconst 0, 1) := by decide +kernel
theorem dX2_nextWith_3 : decode cX2_nextWith 3 = .ok (.istore 4, 2) := by decide +kernel
theorem dX2_nextWith_5 : decode cX2_nextWith 5 = .ok (.iload 4, 2) := by decide +kernel
theorem dX2_nextWith_7 : decode cX2_nextWith 7 = .ok (.aload_n 0, 1) := by decide +kernel
theorem dX2_nextWith_8 : decode cX2_nextWith 8 = .ok (.getfield 24, 3) := by decide +kernel
theorem dX2_nextWith_11 : decode cX2_nextWith 11 = .ok (.if_icmp .ge 44, 3) := by decide +kernel
theorem dX2_nextWith_14 : decode cX2_nextWith 14 = .ok (.iload_n 3, 1) := by decide +kernel
theorem dX2_nextWith_15 : decode cX2_nextWith 15 = .ok (.iconst 1, 1) := by decide +kernel
theorem dX2_nextWith_16 : decode cX2_nextWith 16 = .ok (.iadd, 1) := by decide +kernel
theorem dX2_nextWith_17 : decode cX2_nextWith 17 = .ok (.aload_n 0, 1) := by decide +kernel
theorem dX2_nextWith_18 : decode cX2_nextWith 18 = .ok (.getfield 24, 3) := by decide +kernel
theorem dX2_nextWith_21 : decode cX2_nextWith 21 = .ok (.if_icmp .lt 7, 3) := by decide +kernel
theorem dX2_nextWith_24 : decode cX2_nextWith 24 = .ok (.iconst 0, 1) := by decide +kernel
theorem dX2_nextWith_25 : decode cX2_nextWith 25 = .ok (.goto 6, 3) := by decide +kernel
theorem dX2_nextWith_28 : decode cX2_nextWith 28 = .ok (.iload_n 3, 1) := by decide +kernel
theorem dX2_nextWith_29 : decode cX2_nextWith 29 = .ok (.iconst 1, 1) := by decide +kernel
theorem dX2_nextWith_30 : decode cX2_nextWith 30 = .ok (.iadd, 1) := by decide +kernel
theorem dX2_nextWith_31 : decode cX2_nextWith 31 = .ok (.istore_n 3, 1) := by decide +kernel
theorem dX2_nextWith_32 : decode cX2_nextWith 32 = .ok (.aload_n 0, 1) := by decide +kernel
theorem dX2_nextWith_33 : decode cX2_nextWith 33 = .ok (.getfield 14, 3) := by decide +kernel
theorem dX2_nextWith_36 : decode cX2_nextWith 36 = .ok (.iload_n 3, 1) := by decide +kernel
theorem dX2_nextWith_37 : decode cX2_nextWith 37 = .ok (.invokevirtual 20, 3) := by decide +kernel
theorem dX2_nextWith_40 : decode cX2_nextWith 40 = .ok (.iload_n 1, 1) := by decide +kernel
theorem dX2_nextWith_41 : decode cX2_nextWith 41 = .ok (.invokestatic 45, 3) := by decide +kernel
theorem dX2_nextWith_44 : decode cX2_nextWith 44 = .ok (.ifCond .eq 5, 3) := by decide +kernel
theorem dX2_nextWith_47 : decode cX2_nextWith 47 = .ok (.iload_n 3, 1) := by decide +kernel
theorem dX2_nextWith_48 : decode cX2_nextWith 48 = .ok (.ireturn, 1) := by decide +kernel
theorem dX2_nextWith_49 : decode cX2_nextWith 49 = .ok (.iinc 4 1, 3) := by decide +kernel
theorem dX2_nextWith_52 : decode cX2_nextWith 52 = .ok (.goto (-47), 3) := by decide +kernel
theorem dX2_nextWith_55 : decode cX2_nextWith 55 = .ok (.iload_n 3, 1) := by decide +kernel
theorem dX2_nextWith_56 : decode cX2_nextWith 56 = .ok (.ireturn, 1) := by decide +kernel
set_option maxRecDepth 20000 in
theorem ggX3_init_X6_init : GoodIn wsX3_init wsX6_init := goodIn_r _ [10, 11, 2, 3, 12, 13, 14] (by decide +kernel) (by decide +kernel)
set_option maxRecDepth 20000 in
theorem gX3_init_X6_init : GoodIn wsX3_init (wsX6_init) := ggX3_init_X6_init
theorem dX3_init_0 : decode cX3_init 0 = .ok (.aload_n 0, 1) := by decide +kernel
theorem dX3_init_1 : decode cX3_init 1 = .ok (.invokespecial 3, 3) := by decide +kernel
theorem dX3_init_4 : decode cX3_init 4 = .ok (.aload_n 0, 1) := by decide +kernel
theorem dX3_init_5 : decode cX3_init 5 = .ok (.new 9, 3) := by decide +kernel
theorem dX3_init_8 : decode cX3_init 8 = .ok (.dup, 1) := by decide +kernel
theorem dX3_init_9 : decode cX3_init 9 = .ok (.iconst 5, 1) := by decide +kernel
theorem dX3_init_10 : decode cX3_init 10 = .ok (.invokespecial 11, 3) := by decide +kernel
theorem dX3_init_13 : decode cX3_init 13 = .ok (.putfield 14, 3) := by decide +kernel
theorem dX3_init_16 : decode cX3_init 16 = .ok (.return_, 1) := by decide +kernel
set_option maxRecDepth 20000 in
theorem ggX3_weighAll_X2_at : GoodIn wsX3_weighAll wsX2_at := goodIn_r _ [9, 10, 11, 12, 13, 14, 15, 16, 84, 85, 89] (by decide +kernel) (by decide +kernel)
set_option maxRecDepth 20000 in
theorem gX3_weighAll_X2_at : GoodIn wsX3_weighAll (wsV RX3 26 RX2 yX2_at wsX2_at) := goodIn_app (goodIn_of _ (by decide +kernel)) ggX3_weighAll_X2_at
set_option maxRecDepth 20000 in
theorem ggX3_weighAll_X3_sizeOf : GoodIn wsX3_weighAll wsX3_sizeOf := goodIn_r _ [20, 21, 22, 23, 24, 25, 26, 27, 28, 29, 30, 31, 32, 33, 34, 35, 36, 37, 38, 39, 40, 41, 42, 43, 44, 45, 46, 47, 48, 49, 50, 51, 90] (by decide +kernel) (by decide +kernel)
set_option maxRecDepth 20000 in
theorem gX3_weighAll_X3_sizeOf : GoodIn wsX3_weighAll (va_wsS RX3 30 yX3_sizeOf wsX3_sizeOf) := goodIn_app (goodIn_of _ (by decide +kernel)) ggX3_weighAll_X3_sizeOf
set_option maxRecDepth 20000 in
theorem ggX3_weighAll_X6_put : GoodIn wsX3_weighAll wsX6_put := goodIn_r _ [55, 16, 89] (by decide +kernel) (by decide +kernel)
set_option maxRecDepth 20000 in
theorem gX3_weighAll_X6_put : GoodIn wsX3_weighAll (wsV RX3 34 RX6 yX6_put wsX6_put) := goodIn_app (goodIn_of _ (by decide +kernel)) ggX3_weighAll_X6_put
set_option maxRecDepth 20000 in
theorem ggX3_weighAll_X3_weigh : GoodIn wsX3_weighAll wsX3_weigh := goodIn_r _ [59, 1, 2, 60, 61, 62, 63, 4, 64, 65, 66, 5, 6, 7, 8, 9, 10, 11, 12, 13, 14, 15, 16, 67, 68, 23, 69, 70, 71, 72, 19, 73, 3, 74, 75, 76, 77, 78, 79, 80, 81, 82, 83, 84, 85, 86, 87, 88, 89] (by decide +kernel) (by decide +kernel)
set_option maxRecDepth 20000 in
theorem gX3_weighAll_X3_weigh : GoodIn wsX3_weighAll (wsV RX3 47 RX3 yX3_weigh wsX3_weigh) := goodIn_app (goodIn_of _ (by decide +kernel)) ggX3_weighAll_X3_weigh
theorem dX3_weighAll_0 : decode cX3_weighAll 0 = .ok (.iconst 1, 1) := by decide +kernel
theorem dX3_weighAll_1 : decode cX3_weighAll 1 = .ok (.istore_n 3, 1) := by decide +kernel
theorem dX3_weighAll_2 : decode cX3_weighAll 2 = .ok (.iconst 0, 1) := by decide +kernel
theorem dX3_weighAll_3 : decode cX3_weighAll 3 = .ok (.istore 4, 2) := by decide +kernel
theorem dX3_weighAll_5 : decode cX3_weighAll 5 = .ok (.iload 4, 2) := by decide +kernel
theorem dX3_weighAll_7 : decode cX3_weighAll 7 = .ok (.aload_n 1, 1) := by decide +kernel
theorem dX3_weighAll_8 : decode cX3_weighAll 8 = .ok (.getfield 20, 3) := by decide +kernel
theorem dX3_weighAll_11 : decode cX3_weighAll 11 = .ok (.if_icmp .ge 32, 3) := by decide +kernel
theorem dX3_weighAll_14 : decode cX3_weighAll 14 = .ok (.aload_n 0, 1) := by decide +kernel
theorem dX3_weighAll_15 : decode cX3_weighAll 15 = .ok (.getfield 14, 3) := by decide +kernel
theorem dX3_weighAll_18 : decode cX3_weighAll 18 = .ok (.iload 4, 2) := by decide +kernel
theorem dX3_weighAll_20 : decode cX3_weighAll 20 = .ok (.aload_n 1, 1) := by decide +kernel
theorem dX3_weighAll_21 : decode cX3_weighAll 21 = .ok (.iload 4, 2) := by decide +kernel
theorem dX3_weighAll_23 : decode cX3_weighAll 23 = .ok (.invokevirtual 26, 3) := by decide +kernel
theorem dX3_weighAll_26 : decode cX3_weighAll 26 = .ok (.aload_n 2, 1) := by decide +kernel
theorem dX3_weighAll_27 : decode cX3_weighAll 27 = .ok (.invokestatic 30, 3) := by decide +kernel
theorem dX3_weighAll_30 : decode cX3_weighAll 30 = .ok (.invokevirtual 34, 3) := by decide +kernel
theorem dX3_weighAll_33 : decode cX3_weighAll 33 = .ok (.iload_n 3, 1) := by decide +kernel
theorem dX3_weighAll_34 : decode cX3_weighAll 34 = .ok (.iconst 3, 1) := by decide +kernel
theorem dX3_weighAll_35 : decode cX3_weighAll 35 = .ok (.imul, 1) := by decide +kernel
theorem dX3_weighAll_36 : decode cX3_weighAll 36 = .ok (.istore_n 3, 1) := by decide +kernel
theorem dX3_weighAll_37 : decode cX3_weighAll 37 = .ok (.iinc 4 1, 3) := by decide +kernel
theorem dX3_weighAll_40 : decode cX3_weighAll 40 = .ok (.goto (-35), 3) := by decide +kernel
theorem dX3_weighAll_43 : decode cX3_weighAll 43 = .ok (.aload_n 0, 1) := by decide +kernel
theorem dX3_weighAll_44 : decode cX3_weighAll 44 = .ok (.bipush 10, 2) := by decide +kernel
theorem dX3_weighAll_46 : decode cX3_weighAll 46 = .ok (.putfield 38, 3) := by decide +kernel
theorem dX3_weighAll_49 : decode cX3_weighAll 49 = .ok (.aload_n 0, 1) := by decide +kernel
theorem dX3_weighAll_50 : decode cX3_weighAll 50 = .ok (.ldc2_w 41, 3) := by decide +kernel
theorem dX3_weighAll_53 : decode cX3_weighAll 53 = .ok (.putfield 43, 3) := by decide +kernel
theorem dX3_weighAll_56 : decode cX3_weighAll 56 = .ok (.iconst 0, 1) := by decide +kernel
theorem dX3_weighAll_57 : decode cX3_weighAll 57 = .ok (.istore 4, 2) := by decide +kernel
theorem dX3_weighAll_59 : decode cX3_weighAll 59 = .ok (.iload 4, 2) := by decide +kernel
theorem dX3_weighAll_61 : decode cX3_weighAll 61 = .ok (.iload_n 3, 1) := by decide +kernel
theorem dX3_weighAll_62 : decode cX3_weighAll 62 = .ok (.if_icmp .ge 16, 3) := by decide +kernel
theorem dX3_weighAll_65 : decode cX3_weighAll 65 = .ok (.aload_n 0, 1) := by decide +kernel
theorem dX3_weighAll_66 : decode cX3_weighAll 66 = .ok (.aload_n 1, 1) := by decide +kernel
theorem dX3_weighAll_67 : decode cX3_weighAll 67 = .ok (.iload 4, 2) := by decide +kernel
theorem dX3_weighAll_69 : decode cX3_weighAll 69 = .ok (.invokevirtual 47, 3) := by decide +kernel
theorem dX3_weighAll_72 : decode cX3_weighAll 72 = .ok (.iinc 4 1, 3) := by decide +kernel
theorem dX3_weighAll_75 : decode cX3_weighAll 75 = .ok (.goto (-16), 3) := by decide +kernel
theorem dX3_weighAll_78 : decode cX3_weighAll 78 = .ok (.return_, 1) := by decide +kernel
set_option maxRecDepth 20000 in
theorem ggX3_sizeOf_X1_table : GoodIn wsX3_sizeOf wsX1_table := goodIn_r _ [4] (by decide +kernel) (by decide +kernel)
set_option maxRecDepth 20000 in
theorem gX3_sizeOf_X1_table : GoodIn wsX3_sizeOf (va_wsS RX3 51 yX1_table wsX1_table) := goodIn_app (goodIn_of _ (by decide +kernel)) ggX3_sizeOf_X1_table
set_option maxRecDepth 20000 in
theorem ggX3_sizeOf_X7_has : GoodIn wsX3_sizeOf wsX7_has := goodIn_r _ [9, 10, 32] (by decide +kernel) (by decide +kernel)
set_option maxRecDepth 20000 in
theorem gX3_sizeOf_X7_has : GoodIn wsX3_sizeOf (wsV RX3 56 RX7 yX7_has wsX7_has) := goodIn_app (goodIn_of _ (by decide +kernel)) ggX3_sizeOf_X7_has
set_option maxRecDepth 20000 in
theorem ggX3_sizeOf_X1_agrees : GoodIn wsX3_sizeOf wsX1_agrees := goodIn_r _ [13, 14, 15, 3, 16, 17, 18, 19, 20, 21, 22, 23, 24, 25, 26, 27, 28, 29, 30, 31] (by decide +kernel) (by decide +kernel)
set_option maxRecDepth 20000 in
theorem gX3_sizeOf_X1_agrees : GoodIn wsX3_sizeOf (va_wsS RX3 62 yX1_agrees wsX1_agrees) := goodIn_app (goodIn_of _ (by decide +kernel)) ggX3_sizeOf_X1_agrees
theorem dX3_sizeOf_0 : decode cX3_sizeOf 0 = .ok (.iconst 0, 1) := by decide +kernel
theorem dX3_sizeOf_1 : decode cX3_sizeOf 1 = .ok (.istore_n 2, 1) := by decide +kernel
theorem dX3_sizeOf_2 : decode cX3_sizeOf 2 = .ok (.iconst 0, 1) := by decide +kernel
theorem dX3_sizeOf_3 : decode cX3_sizeOf 3 = .ok (.istore_n 3, 1) := by decide +kernel
theorem dX3_sizeOf_4 : decode cX3_sizeOf 4 = .ok (.iload_n 3, 1) := by decide +kernel
theorem dX3_sizeOf_5 : decode cX3_sizeOf 5 = .ok (.sipush 512, 3) := by decide +kernel
theorem dX3_sizeOf_8 : decode cX3_sizeOf 8 = .ok (.if_icmp .ge 37, 3) := by decide +kernel
theorem dX3_sizeOf_11 : decode cX3_sizeOf 11 = .ok (.iload_n 2, 1) := by decide +kernel
theorem dX3_sizeOf_12 : decode cX3_sizeOf 12 = .ok (.aload_n 1, 1) := by decide +kernel
theorem dX3_sizeOf_13 : decode cX3_sizeOf 13 = .ok (.iload_n 0, 1) := by decide +kernel
theorem dX3_sizeOf_14 : decode cX3_sizeOf 14 = .ok (.invokestatic 51, 3) := by decide +kernel
theorem dX3_sizeOf_17 : decode cX3_sizeOf 17 = .ok (.iload_n 3, 1) := by decide +kernel
theorem dX3_sizeOf_18 : decode cX3_sizeOf 18 = .ok (.invokevirtual 56, 3) := by decide +kernel
theorem dX3_sizeOf_21 : decode cX3_sizeOf 21 = .ok (.ifCond .eq 15, 3) := by decide +kernel
theorem dX3_sizeOf_24 : decode cX3_sizeOf 24 = .ok (.iload_n 0, 1) := by decide +kernel
theorem dX3_sizeOf_25 : decode cX3_sizeOf 25 = .ok (.iload_n 3, 1) := by decide +kernel
theorem dX3_sizeOf_26 : decode cX3_sizeOf 26 = .ok (.invokestatic 62, 3) := by decide +kernel
theorem dX3_sizeOf_29 : decode cX3_sizeOf 29 = .ok (.ifCond .eq 7, 3) := by decide +kernel
theorem dX3_sizeOf_32 : decode cX3_sizeOf 32 = .ok (.iconst 1, 1) := by decide +kernel
theorem dX3_sizeOf_33 : decode cX3_sizeOf 33 = .ok (.goto 4, 3) := by decide +kernel
theorem dX3_sizeOf_36 : decode cX3_sizeOf 36 = .ok (.iconst 0, 1) := by decide +kernel
theorem dX3_sizeOf_37 : decode cX3_sizeOf 37 = .ok (.iadd, 1) := by decide +kernel
theorem dX3_sizeOf_38 : decode cX3_sizeOf 38 = .ok (.istore_n 2, 1) := by decide +kernel
theorem dX3_sizeOf_39 : decode cX3_sizeOf 39 = .ok (.iinc 3 1, 3) := by decide +kernel
theorem dX3_sizeOf_42 : decode cX3_sizeOf 42 = .ok (.goto (-38), 3) := by decide +kernel
theorem dX3_sizeOf_45 : decode cX3_sizeOf 45 = .ok (.iload_n 2, 1) := by decide +kernel
theorem dX3_sizeOf_46 : decode cX3_sizeOf 46 = .ok (.ireturn, 1) := by decide +kernel
set_option maxRecDepth 20000 in
theorem ggX3_weigh_X2_at : GoodIn wsX3_weigh wsX2_at := goodIn_r _ [15, 16, 17, 18, 19, 20, 21, 22, 43, 44, 48] (by decide +kernel) (by decide +kernel)
set_option maxRecDepth 20000 in
theorem gX3_weigh_X2_at : GoodIn wsX3_weigh (wsV RX3 26 RX2 yX2_at wsX2_at) := goodIn_app (goodIn_of _ (by decide +kernel)) ggX3_weigh_X2_at
set_option maxRecDepth 20000 in
theorem ggX3_weigh_X1_variables : GoodIn wsX3_weigh wsX1_variables := goodIn_r _ [26] (by decide +kernel) (by decide +kernel)
set_option maxRecDepth 20000 in
theorem gX3_weigh_X1_variables : GoodIn wsX3_weigh (va_wsS RX3 65 yX1_variables wsX1_variables) := goodIn_app (goodIn_of _ (by decide +kernel)) ggX3_weigh_X1_variables
set_option maxRecDepth 20000 in
theorem ggX3_weigh_X6_at : GoodIn wsX3_weigh wsX6_at := goodIn_r _ [21, 22, 48] (by decide +kernel) (by decide +kernel)
set_option maxRecDepth 20000 in
theorem gX3_weigh_X6_at : GoodIn wsX3_weigh (wsV RX3 68 RX6 yX6_at wsX6_at) := goodIn_app (goodIn_of _ (by decide +kernel)) ggX3_weigh_X6_at
set_option maxRecDepth 20000 in
theorem ggX3_weigh_X3_times : GoodIn wsX3_weigh wsX3_times := goodIn_r _ [31, 32] (by decide +kernel) (by decide +kernel)
set_option maxRecDepth 20000 in
theorem gX3_weigh_X3_times : GoodIn wsX3_weigh (va_wsS RX3 69 yX3_times wsX3_times) := goodIn_app (goodIn_of _ (by decide +kernel)) ggX3_weigh_X3_times
set_option maxRecDepth 20000 in
theorem ggX3_weigh_X2_variables : GoodIn wsX3_weigh wsX2_variables := goodIn_r _ [36, 37, 16, 17, 18, 19, 20, 21, 22, 38, 39, 25, 40, 41, 42, 24, 26, 43, 44, 48] (by decide +kernel) (by decide +kernel)
set_option maxRecDepth 20000 in
theorem gX3_weigh_X2_variables : GoodIn wsX3_weigh (wsV RX3 73 RX2 yX2_variables wsX2_variables) := goodIn_app (goodIn_of _ (by decide +kernel)) ggX3_weigh_X2_variables
theorem dX3_weigh_0 : decode cX3_weigh 0 = .ok (.iload_n 2, 1) := by decide +kernel
theorem dX3_weigh_1 : decode cX3_weigh 1 = .ok (.istore_n 3, 1) := by decide +kernel
theorem dX3_weigh_2 : decode cX3_weigh 2 = .ok (.iconst 0, 1) := by decide +kernel
theorem dX3_weigh_3 : decode cX3_weigh 3 = .ok (.istore 4, 2) := by decide +kernel
theorem dX3_weigh_5 : decode cX3_weigh 5 = .ok (.lconst 1, 1) := by decide +kernel
theorem dX3_weigh_6 : decode cX3_weigh 6 = .ok (.lstore 5, 2) := by decide +kernel
theorem dX3_weigh_8 : decode cX3_weigh 8 = .ok (.iconst 0, 1) := by decide +kernel
theorem dX3_weigh_9 : decode cX3_weigh 9 = .ok (.istore 7, 2) := by decide +kernel
theorem dX3_weigh_11 : decode cX3_weigh 11 = .ok (.iconst 0, 1) := by decide +kernel
theorem dX3_weigh_12 : decode cX3_weigh 12 = .ok (.istore 8, 2) := by decide +kernel
theorem dX3_weigh_14 : decode cX3_weigh 14 = .ok (.iconst 0, 1) := by decide +kernel
theorem dX3_weigh_15 : decode cX3_weigh 15 = .ok (.istore 9, 2) := by decide +kernel
theorem dX3_weigh_17 : decode cX3_weigh 17 = .ok (.iload 9, 2) := by decide +kernel
theorem dX3_weigh_19 : decode cX3_weigh 19 = .ok (.aload_n 1, 1) := by decide +kernel
theorem dX3_weigh_20 : decode cX3_weigh 20 = .ok (.getfield 20, 3) := by decide +kernel
theorem dX3_weigh_23 : decode cX3_weigh 23 = .ok (.if_icmp .ge 85, 3) := by decide +kernel
theorem dX3_weigh_26 : decode cX3_weigh 26 = .ok (.aload_n 1, 1) := by decide +kernel
theorem dX3_weigh_27 : decode cX3_weigh 27 = .ok (.iload 9, 2) := by decide +kernel
theorem dX3_weigh_29 : decode cX3_weigh 29 = .ok (.invokevirtual 26, 3) := by decide +kernel
theorem dX3_weigh_32 : decode cX3_weigh 32 = .ok (.invokestatic 65, 3) := by decide +kernel
theorem dX3_weigh_35 : decode cX3_weigh 35 = .ok (.istore 10, 2) := by decide +kernel
theorem dX3_weigh_37 : decode cX3_weigh 37 = .ok (.iload_n 3, 1) := by decide +kernel
theorem dX3_weigh_38 : decode cX3_weigh 38 = .ok (.iconst 3, 1) := by decide +kernel
theorem dX3_weigh_39 : decode cX3_weigh 39 = .ok (.irem, 1) := by decide +kernel
theorem dX3_weigh_40 : decode cX3_weigh 40 = .ok (.istore 11, 2) := by decide +kernel
theorem dX3_weigh_42 : decode cX3_weigh 42 = .ok (.iload_n 3, 1) := by decide +kernel
theorem dX3_weigh_43 : decode cX3_weigh 43 = .ok (.iconst 3, 1) := by decide +kernel
theorem dX3_weigh_44 : decode cX3_weigh 44 = .ok (.idiv, 1) := by decide +kernel
theorem dX3_weigh_45 : decode cX3_weigh 45 = .ok (.istore_n 3, 1) := by decide +kernel
theorem dX3_weigh_46 : decode cX3_weigh 46 = .ok (.iload 4, 2) := by decide +kernel
theorem dX3_weigh_48 : decode cX3_weigh 48 = .ok (.iload 11, 2) := by decide +kernel
theorem dX3_weigh_50 : decode cX3_weigh 50 = .ok (.iadd, 1) := by decide +kernel
theorem dX3_weigh_51 : decode cX3_weigh 51 = .ok (.istore 4, 2) := by decide +kernel
theorem dX3_weigh_53 : decode cX3_weigh 53 = .ok (.iconst 0, 1) := by decide +kernel
theorem dX3_weigh_54 : decode cX3_weigh 54 = .ok (.istore 12, 2) := by decide +kernel
theorem dX3_weigh_56 : decode cX3_weigh 56 = .ok (.iload 12, 2) := by decide +kernel
theorem dX3_weigh_58 : decode cX3_weigh 58 = .ok (.iload 11, 2) := by decide +kernel
theorem dX3_weigh_60 : decode cX3_weigh 60 = .ok (.if_icmp .ge 42, 3) := by decide +kernel
theorem dX3_weigh_63 : decode cX3_weigh 63 = .ok (.lload 5, 2) := by decide +kernel
theorem dX3_weigh_65 : decode cX3_weigh 65 = .ok (.aload_n 0, 1) := by decide +kernel
theorem dX3_weigh_66 : decode cX3_weigh 66 = .ok (.getfield 14, 3) := by decide +kernel
theorem dX3_weigh_69 : decode cX3_weigh 69 = .ok (.iload 9, 2) := by decide +kernel
theorem dX3_weigh_71 : decode cX3_weigh 71 = .ok (.invokevirtual 68, 3) := by decide +kernel
theorem dX3_weigh_74 : decode cX3_weigh 74 = .ok (.invokestatic 69, 3) := by decide +kernel
theorem dX3_weigh_77 : decode cX3_weigh 77 = .ok (.lstore 5, 2) := by decide +kernel
theorem dX3_weigh_79 : decode cX3_weigh 79 = .ok (.iload 8, 2) := by decide +kernel
theorem dX3_weigh_81 : decode cX3_weigh 81 = .ok (.iload 7, 2) := by decide +kernel
theorem dX3_weigh_83 : decode cX3_weigh 83 = .ok (.iload 10, 2) := by decide +kernel
theorem dX3_weigh_85 : decode cX3_weigh 85 = .ok (.iand, 1) := by decide +kernel
theorem dX3_weigh_86 : decode cX3_weigh 86 = .ok (.ior, 1) := by decide +kernel
theorem dX3_weigh_87 : decode cX3_weigh 87 = .ok (.istore 8, 2) := by decide +kernel
theorem dX3_weigh_89 : decode cX3_weigh 89 = .ok (.iload 7, 2) := by decide +kernel
theorem dX3_weigh_91 : decode cX3_weigh 91 = .ok (.iload 10, 2) := by decide +kernel
theorem dX3_weigh_93 : decode cX3_weigh 93 = .ok (.ior, 1) := by decide +kernel
theorem dX3_weigh_94 : decode cX3_weigh 94 = .ok (.istore 7, 2) := by decide +kernel
theorem dX3_weigh_96 : decode cX3_weigh 96 = .ok (.iinc 12 1, 3) := by decide +kernel
theorem dX3_weigh_99 : decode cX3_weigh 99 = .ok (.goto (-43), 3) := by decide +kernel
theorem dX3_weigh_102 : decode cX3_weigh 102 = .ok (.iinc 9 1, 3) := by decide +kernel
theorem dX3_weigh_105 : decode cX3_weigh 105 = .ok (.goto (-88), 3) := by decide +kernel
theorem dX3_weigh_108 : decode cX3_weigh 108 = .ok (.iload 8, 2) := by decide +kernel
theorem dX3_weigh_110 : decode cX3_weigh 110 = .ok (.aload_n 1, 1) := by decide +kernel
theorem dX3_weigh_111 : decode cX3_weigh 111 = .ok (.iconst 0, 1) := by decide +kernel
theorem dX3_weigh_112 : decode cX3_weigh 112 = .ok (.invokevirtual 73, 3) := by decide +kernel
theorem dX3_weigh_115 : decode cX3_weigh 115 = .ok (.if_icmp .ne 29, 3) := by decide +kernel
theorem dX3_weigh_118 : decode cX3_weigh 118 = .ok (.aload_n 0, 1) := by decide +kernel
theorem dX3_weigh_119 : decode cX3_weigh 119 = .ok (.aload_n 0, 1) := by decide +kernel
theorem dX3_weigh_120 : decode cX3_weigh 120 = .ok (.getfield 38, 3) := by decide +kernel
theorem dX3_weigh_123 : decode cX3_weigh 123 = .ok (.iload 4, 2) := by decide +kernel
theorem dX3_weigh_125 : decode cX3_weigh 125 = .ok (.invokestatic 76, 3) := by decide +kernel
theorem dX3_weigh_128 : decode cX3_weigh 128 = .ok (.putfield 38, 3) := by decide +kernel
theorem dX3_weigh_131 : decode cX3_weigh 131 = .ok (.aload_n 0, 1) := by decide +kernel
theorem dX3_weigh_132 : decode cX3_weigh 132 = .ok (.aload_n 0, 1) := by decide +kernel
theorem dX3_weigh_133 : decode cX3_weigh 133 = .ok (.getfield 43, 3) := by decide +kernel
theorem dX3_weigh_136 : decode cX3_weigh 136 = .ok (.lload 5, 2) := by decide +kernel
theorem dX3_weigh_138 : decode cX3_weigh 138 = .ok (.invokestatic 82, 3) := by decide +kernel
theorem dX3_weigh_141 : decode cX3_weigh 141 = .ok (.putfield 43, 3) := by decide +kernel
theorem dX3_weigh_144 : decode cX3_weigh 144 = .ok (.return_, 1) := by decide +kernel
theorem dX3_times_0 : decode cX3_times 0 = .ok (.iload_n 2, 1) := by decide +kernel
theorem dX3_times_1 : decode cX3_times 1 = .ok (.ifCond .ne 5, 3) := by decide +kernel
theorem dX3_times_4 : decode cX3_times 4 = .ok (.lconst 0, 1) := by decide +kernel
theorem dX3_times_5 : decode cX3_times 5 = .ok (.lreturn, 1) := by decide +kernel
theorem dX3_times_6 : decode cX3_times 6 = .ok (.lload_n 0, 1) := by decide +kernel
theorem dX3_times_7 : decode cX3_times 7 = .ok (.ldc2_w 41, 3) := by decide +kernel
theorem dX3_times_10 : decode cX3_times 10 = .ok (.iload_n 2, 1) := by decide +kernel
theorem dX3_times_11 : decode cX3_times 11 = .ok (.i2l, 1) := by decide +kernel
theorem dX3_times_12 : decode cX3_times 12 = .ok (.ldiv, 1) := by decide +kernel
theorem dX3_times_13 : decode cX3_times 13 = .ok (.lcmp, 1) := by decide +kernel
theorem dX3_times_14 : decode cX3_times 14 = .ok (.ifCond .le 9, 3) := by decide +kernel
theorem dX3_times_17 : decode cX3_times 17 = .ok (.ldc2_w 41, 3) := by decide +kernel
theorem dX3_times_20 : decode cX3_times 20 = .ok (.goto 7, 3) := by decide +kernel
theorem dX3_times_23 : decode cX3_times 23 = .ok (.lload_n 0, 1) := by decide +kernel
theorem dX3_times_24 : decode cX3_times 24 = .ok (.iload_n 2, 1) := by decide +kernel
theorem dX3_times_25 : decode cX3_times 25 = .ok (.i2l, 1) := by decide +kernel
theorem dX3_times_26 : decode cX3_times 26 = .ok (.lmul, 1) := by decide +kernel
theorem dX3_times_27 : decode cX3_times 27 = .ok (.lreturn, 1) := by decide +kernel
set_option maxRecDepth 20000 in
theorem ggX4_init_X8_init : GoodIn wsX4_init wsX8_init := goodIn_r _ [21, 22, 2, 3, 23, 24, 25, 26, 27, 14, 15, 28, 29, 30, 31, 32, 33, 34, 35, 36, 37, 38, 39, 40, 41, 42, 43, 44, 45, 75, 76, 52, 53, 54, 55, 56, 57, 58, 59, 60, 61, 62, 63, 74] (by decide +kernel) (by decide +kernel)
set_option maxRecDepth 20000 in
theorem gX4_init_X8_init_n11 : GoodIn wsX4_init (wsX8_init) := ggX4_init_X8_init
set_option maxRecDepth 20000 in
theorem ggX4_init_X7_init : GoodIn wsX4_init wsX7_init := goodIn_r _ [47, 48, 2, 3, 49, 50, 73] (by decide +kernel) (by decide +kernel)
set_option maxRecDepth 20000 in
theorem gX4_init_X7_init_n20 : GoodIn wsX4_init (wsX7_init) := ggX4_init_X7_init
set_option maxRecDepth 20000 in
theorem ggX4_init_X6_init : GoodIn wsX4_init wsX6_init := goodIn_r _ [41, 42, 2, 3, 43, 44, 74] (by decide +kernel) (by decide +kernel)
set_option maxRecDepth 20000 in
theorem gX4_init_X6_init : GoodIn wsX4_init (wsX6_init) := ggX4_init_X6_init
theorem dX4_init_0 : decode cX4_init 0 = .ok (.aload_n 0, 1) := by decide +kernel
theorem dX4_init_1 : decode cX4_init 1 = .ok (.invokespecial 3, 3) := by decide +kernel
theorem dX4_init_4 : decode cX4_init 4 = .ok (.aload_n 0, 1) := by decide +kernel
theorem dX4_init_5 : decode cX4_init 5 = .ok (.new 9, 3) := by decide +kernel
theorem dX4_init_8 : decode cX4_init 8 = .ok (.dup, 1) := by decide +kernel
theorem dX4_init_9 : decode cX4_init 9 = .ok (.invokespecial 11, 3) := by decide +kernel
theorem dX4_init_12 : decode cX4_init 12 = .ok (.putfield 12, 3) := by decide +kernel
theorem dX4_init_15 : decode cX4_init 15 = .ok (.aload_n 0, 1) := by decide +kernel
theorem dX4_init_16 : decode cX4_init 16 = .ok (.new 18, 3) := by decide +kernel
theorem dX4_init_19 : decode cX4_init 19 = .ok (.dup, 1) := by decide +kernel
theorem dX4_init_20 : decode cX4_init 20 = .ok (.invokespecial 20, 3) := by decide +kernel
theorem dX4_init_23 : decode cX4_init 23 = .ok (.putfield 21, 3) := by decide +kernel
theorem dX4_init_26 : decode cX4_init 26 = .ok (.aload_n 0, 1) := by decide +kernel
theorem dX4_init_27 : decode cX4_init 27 = .ok (.new 18, 3) := by decide +kernel
theorem dX4_init_30 : decode cX4_init 30 = .ok (.dup, 1) := by decide +kernel
theorem dX4_init_31 : decode cX4_init 31 = .ok (.invokespecial 20, 3) := by decide +kernel
theorem dX4_init_34 : decode cX4_init 34 = .ok (.putfield 25, 3) := by decide +kernel
theorem dX4_init_37 : decode cX4_init 37 = .ok (.aload_n 0, 1) := by decide +kernel
theorem dX4_init_38 : decode cX4_init 38 = .ok (.new 28, 3) := by decide +kernel
theorem dX4_init_41 : decode cX4_init 41 = .ok (.dup, 1) := by decide +kernel
theorem dX4_init_42 : decode cX4_init 42 = .ok (.iconst 5, 1) := by decide +kernel
theorem dX4_init_43 : decode cX4_init 43 = .ok (.invokespecial 30, 3) := by decide +kernel
theorem dX4_init_46 : decode cX4_init 46 = .ok (.putfield 33, 3) := by decide +kernel
theorem dX4_init_49 : decode cX4_init 49 = .ok (.aload_n 0, 1) := by decide +kernel
theorem dX4_init_50 : decode cX4_init 50 = .ok (.new 28, 3) := by decide +kernel
theorem dX4_init_53 : decode cX4_init 53 = .ok (.dup, 1) := by decide +kernel
theorem dX4_init_54 : decode cX4_init 54 = .ok (.iconst 5, 1) := by decide +kernel
theorem dX4_init_55 : decode cX4_init 55 = .ok (.invokespecial 30, 3) := by decide +kernel
theorem dX4_init_58 : decode cX4_init 58 = .ok (.putfield 37, 3) := by decide +kernel
theorem dX4_init_61 : decode cX4_init 61 = .ok (.aload_n 0, 1) := by decide +kernel
theorem dX4_init_62 : decode cX4_init 62 = .ok (.new 28, 3) := by decide +kernel
theorem dX4_init_65 : decode cX4_init 65 = .ok (.dup, 1) := by decide +kernel
theorem dX4_init_66 : decode cX4_init 66 = .ok (.sipush 2560, 3) := by decide +kernel
theorem dX4_init_69 : decode cX4_init 69 = .ok (.invokespecial 30, 3) := by decide +kernel
theorem dX4_init_72 : decode cX4_init 72 = .ok (.putfield 40, 3) := by decide +kernel
theorem dX4_init_75 : decode cX4_init 75 = .ok (.aload_n 0, 1) := by decide +kernel
theorem dX4_init_76 : decode cX4_init 76 = .ok (.new 28, 3) := by decide +kernel
theorem dX4_init_79 : decode cX4_init 79 = .ok (.dup, 1) := by decide +kernel
theorem dX4_init_80 : decode cX4_init 80 = .ok (.iconst 5, 1) := by decide +kernel
theorem dX4_init_81 : decode cX4_init 81 = .ok (.invokespecial 30, 3) := by decide +kernel
theorem dX4_init_84 : decode cX4_init 84 = .ok (.putfield 43, 3) := by decide +kernel
theorem dX4_init_87 : decode cX4_init 87 = .ok (.return_, 1) := by decide +kernel
theorem dX4_forget_0 : decode cX4_forget 0 = .ok (.aload_n 0, 1) := by decide +kernel
theorem dX4_forget_1 : decode cX4_forget 1 = .ok (.iconst 0, 1) := by decide +kernel
theorem dX4_forget_2 : decode cX4_forget 2 = .ok (.putfield 46, 3) := by decide +kernel
theorem dX4_forget_5 : decode cX4_forget 5 = .ok (.return_, 1) := by decide +kernel
set_option maxRecDepth 20000 in
theorem ggX4_refresh_X4_settle : GoodIn wsX4_refresh wsX4_settle := goodIn_r _ [12, 13, 14, 15, 16, 17, 18, 19, 20, 21, 22, 23, 24, 25, 26, 27, 28, 29, 30, 31, 32, 33, 34, 35, 36, 37, 38, 39, 40, 41, 42, 11, 43, 44, 45, 46, 47, 48, 49, 50, 51, 52, 53, 54, 55, 227, 228, 229, 230, 231, 232, 233, 234, 235, 236, 237, 238] (by decide +kernel) (by decide +kernel)
set_option maxRecDepth 20000 in
theorem gX4_refresh_X4_settle : GoodIn wsX4_refresh (va_wsS RX4 50 yX4_settle wsX4_settle) := goodIn_app (goodIn_of _ (by decide +kernel)) ggX4_refresh_X4_settle
set_option maxRecDepth 20000 in
theorem ggX4_refresh_X7_copyFrom : GoodIn wsX4_refresh wsX7_copyFrom := goodIn_r _ [60, 61, 239] (by decide +kernel) (by decide +kernel)
set_option maxRecDepth 20000 in
theorem gX4_refresh_X7_copyFrom : GoodIn wsX4_refresh (wsV RX4 59 RX7 yX7_copyFrom wsX7_copyFrom) := goodIn_app (goodIn_of _ (by decide +kernel)) ggX4_refresh_X7_copyFrom
set_option maxRecDepth 20000 in
theorem ggX4_refresh_X4_hasWork : GoodIn wsX4_refresh wsX4_hasWork := goodIn_r _ [65, 66, 67, 68, 11, 69, 2, 70, 71, 72, 26, 73, 74, 75, 24, 25, 27, 28, 29, 76, 77, 78, 37, 79, 80, 39, 40, 31, 32, 16, 33, 18, 81, 49, 46, 50, 51, 82, 83, 84, 85, 86, 30, 44, 45, 47, 227, 228, 229, 230, 231, 232, 233, 234, 235, 218, 219, 220, 221, 222, 223, 224, 225, 226, 236, 237, 238] (by decide +kernel) (by decide +kernel)
set_option maxRecDepth 20000 in
theorem gX4_refresh_X4_hasWork : GoodIn wsX4_refresh (wsV RX4 67 RX4 yX4_hasWork wsX4_hasWork) := goodIn_app (goodIn_of _ (by decide +kernel)) ggX4_refresh_X4_hasWork
set_option maxRecDepth 20000 in
theorem ggX4_refresh_X7_clear : GoodIn wsX4_refresh wsX7_clear := goodIn_r _ [90, 61, 91, 92, 21, 93, 239] (by decide +kernel) (by decide +kernel)
set_option maxRecDepth 20000 in
theorem gX4_refresh_X7_clear : GoodIn wsX4_refresh (wsV RX4 72 RX7 yX7_clear wsX7_clear) := goodIn_app (goodIn_of _ (by decide +kernel)) ggX4_refresh_X7_clear
set_option maxRecDepth 20000 in
theorem ggX4_refresh_X4_works : GoodIn wsX4_refresh wsX4_works := goodIn_r _ [69, 2, 70, 71, 72, 26, 73, 74, 75, 24, 25, 27, 28, 29, 76, 77, 78, 37, 79, 80, 39, 40, 31, 32, 16, 33, 18, 81, 49, 46, 50, 51, 82, 83, 84, 85, 86, 30, 44, 45, 47, 218, 219, 220, 221, 222, 223, 224, 225, 226, 227, 228, 229, 230, 231, 232, 233, 234, 235, 236, 237, 238] (by decide +kernel) (by decide +kernel)
set_option maxRecDepth 20000 in
theorem gX4_refresh_X4_works : GoodIn wsX4_refresh (wsV RX4 78 RX4 yX4_works wsX4_works) := goodIn_app (goodIn_of _ (by decide +kernel)) ggX4_refresh_X4_works
set_option maxRecDepth 20000 in
theorem ggX4_refresh_X4_fire : GoodIn wsX4_refresh wsX4_fire := goodIn_r _ [97, 98, 3, 6, 8, 7, 23, 24, 25, 26, 27, 28, 29, 30, 31, 32, 16, 33, 18, 99, 100, 101, 102, 103, 104, 105, 106, 107, 108, 109, 110, 111, 112, 113, 114, 37, 115, 80, 116, 35, 36, 38, 39, 40, 117, 49, 46, 50, 51, 118, 119, 120, 121, 122, 53, 54, 55, 123, 77, 78, 79, 81, 82, 83, 84, 124, 125, 126, 127, 128, 129, 130, 131, 132, 133, 134, 135, 136, 137, 138, 139, 140, 141, 142, 143, 144, 145, 146, 147, 148, 149, 150, 151, 152, 153, 154, 155, 156, 157, 158, 159, 160, 161, 162, 163, 164, 165, 166, 167, 168, 169, 170, 171, 172, 173, 174, 175, 176, 177, 178, 179, 180, 181, 45, 47, 182, 183, 184, 59, 185, 61, 186, 187, 188, 189, 190, 191, 192, 193, 194, 195, 196, 197, 198, 199, 11, 200, 34, 48, 44, 201, 202, 203, 204, 205, 206, 207, 208, 209, 210, 211, 212, 213, 52, 227, 228, 229, 230, 231, 232, 233, 234, 235, 218, 219, 220, 221, 222, 223, 224, 225, 226, 240, 241, 242, 243, 244, 245, 246, 247, 248, 249, 250, 251, 238, 236, 237, 239] (by decide +kernel) (by decide +kernel)
set_option maxRecDepth 20000 in
theorem gX4_refresh_X4_fire : GoodIn wsX4_refresh (wsV RX4 82 RX4 yX4_fire wsX4_fire) := goodIn_app (goodIn_of _ (by decide +kernel)) ggX4_refresh_X4_fire
set_option maxRecDepth 20000 in
theorem ggX4_refresh_X7_take : GoodIn wsX4_refresh wsX7_take := goodIn_r _ [217, 61, 239] (by decide +kernel) (by decide +kernel)
set_option maxRecDepth 20000 in
theorem gX4_refresh_X7_take : GoodIn wsX4_refresh (wsV RX4 86 RX7 yX7_take wsX7_take) := goodIn_app (goodIn_of _ (by decide +kernel)) ggX4_refresh_X7_take
set_option maxRecDepth 20000 in
theorem ggX4_refresh_X6_fill : GoodIn wsX4_refresh wsX6_fill := goodIn_r _ [17, 18, 19, 20, 21, 22, 238] (by decide +kernel) (by decide +kernel)
set_option maxRecDepth 20000 in
theorem gX4_refresh_X6_fill : GoodIn wsX4_refresh (wsV RX4 90 RX6 yX6_fill wsX6_fill) := goodIn_app (goodIn_of _ (by decide +kernel)) ggX4_refresh_X6_fill
set_option maxRecDepth 20000 in
theorem ggX4_refresh_X9_rests : GoodIn wsX4_refresh wsX9_rests := goodIn_r _ [73, 74, 75, 24, 25, 26, 27, 28, 29, 76, 77, 78, 37, 79, 80, 39, 40, 31, 32, 16, 33, 18, 81, 49, 46, 50, 51, 82, 83, 84, 85, 86, 227, 228, 229, 230, 231, 232, 233, 234, 235, 236, 237, 238] (by decide +kernel) (by decide +kernel)
set_option maxRecDepth 20000 in
theorem gX4_refresh_X9_rests : GoodIn wsX4_refresh (wsV RX4 93 RX9 yX9_rests wsX9_rests) := goodIn_app (goodIn_of _ (by decide +kernel)) ggX4_refresh_X9_rests
theorem dX4_refresh_0 : decode cX4_refresh 0 = .ok (.aload_n 0, 1) := by decide +kernel
theorem dX4_refresh_1 : decode cX4_refresh 1 = .ok (.getfield 46, 3) := by decide +kernel
theorem dX4_refresh_4 : decode cX4_refresh 4 = .ok (.ifCond .eq 4, 3) := by decide +kernel
theorem dX4_refresh_7 : decode cX4_refresh 7 = .ok (.return_, 1) := by decide +kernel
theorem dX4_refresh_8 : decode cX4_refresh 8 = .ok (.aload_n 0, 1) := by decide +kernel
theorem dX4_refresh_9 : decode cX4_refresh 9 = .ok (.iconst 1, 1) := by decide +kernel
theorem dX4_refresh_10 : decode cX4_refresh 10 = .ok (.putfield 46, 3) := by decide +kernel
theorem dX4_refresh_13 : decode cX4_refresh 13 = .ok (.aload_n 1, 1) := by decide +kernel
theorem dX4_refresh_14 : decode cX4_refresh 14 = .ok (.aload_n 0, 1) := by decide +kernel
theorem dX4_refresh_15 : decode cX4_refresh 15 = .ok (.getfield 37, 3) := by decide +kernel
theorem dX4_refresh_18 : decode cX4_refresh 18 = .ok (.iconst (-1), 1) := by decide +kernel
theorem dX4_refresh_19 : decode cX4_refresh 19 = .ok (.iconst (-1), 1) := by decide +kernel
theorem dX4_refresh_20 : decode cX4_refresh 20 = .ok (.invokestatic 50, 3) := by decide +kernel
theorem dX4_refresh_23 : decode cX4_refresh 23 = .ok (.pop, 1) := by decide +kernel
theorem dX4_refresh_24 : decode cX4_refresh 24 = .ok (.aload_n 0, 1) := by decide +kernel
theorem dX4_refresh_25 : decode cX4_refresh 25 = .ok (.getfield 21, 3) := by decide +kernel
theorem dX4_refresh_28 : decode cX4_refresh 28 = .ok (.aload_n 1, 1) := by decide +kernel
theorem dX4_refresh_29 : decode cX4_refresh 29 = .ok (.getfield 54, 3) := by decide +kernel
theorem dX4_refresh_32 : decode cX4_refresh 32 = .ok (.invokevirtual 59, 3) := by decide +kernel
theorem dX4_refresh_35 : decode cX4_refresh 35 = .ok (.aload_n 0, 1) := by decide +kernel
theorem dX4_refresh_36 : decode cX4_refresh 36 = .ok (.iconst 0, 1) := by decide +kernel
theorem dX4_refresh_37 : decode cX4_refresh 37 = .ok (.putfield 63, 3) := by decide +kernel
theorem dX4_refresh_40 : decode cX4_refresh 40 = .ok (.iconst 0, 1) := by decide +kernel
theorem dX4_refresh_41 : decode cX4_refresh 41 = .ok (.istore_n 2, 1) := by decide +kernel
theorem dX4_refresh_42 : decode cX4_refresh 42 = .ok (.iload_n 2, 1) := by decide +kernel
theorem dX4_refresh_43 : decode cX4_refresh 43 = .ok (.iconst 5, 1) := by decide +kernel
theorem dX4_refresh_44 : decode cX4_refresh 44 = .ok (.if_icmp .ge 101, 3) := by decide +kernel
theorem dX4_refresh_47 : decode cX4_refresh 47 = .ok (.aload_n 0, 1) := by decide +kernel
theorem dX4_refresh_48 : decode cX4_refresh 48 = .ok (.aload_n 1, 1) := by decide +kernel
theorem dX4_refresh_49 : decode cX4_refresh 49 = .ok (.iload_n 2, 1) := by decide +kernel
theorem dX4_refresh_50 : decode cX4_refresh 50 = .ok (.invokevirtual 67, 3) := by decide +kernel
theorem dX4_refresh_53 : decode cX4_refresh 53 = .ok (.istore_n 3, 1) := by decide +kernel
theorem dX4_refresh_54 : decode cX4_refresh 54 = .ok (.iconst 0, 1) := by decide +kernel
theorem dX4_refresh_55 : decode cX4_refresh 55 = .ok (.istore 4, 2) := by decide +kernel
theorem dX4_refresh_57 : decode cX4_refresh 57 = .ok (.iload_n 3, 1) := by decide +kernel
theorem dX4_refresh_58 : decode cX4_refresh 58 = .ok (.ifCond .eq 81, 3) := by decide +kernel
theorem dX4_refresh_61 : decode cX4_refresh 61 = .ok (.iload 4, 2) := by decide +kernel
theorem dX4_refresh_63 : decode cX4_refresh 63 = .ok (.ldc 71, 2) := by decide +kernel
theorem dX4_refresh_65 : decode cX4_refresh 65 = .ok (.if_icmp .ge 74, 3) := by decide +kernel
theorem dX4_refresh_68 : decode cX4_refresh 68 = .ok (.aload_n 0, 1) := by decide +kernel
theorem dX4_refresh_69 : decode cX4_refresh 69 = .ok (.dup, 1) := by decide +kernel
theorem dX4_refresh_70 : decode cX4_refresh 70 = .ok (.getfield 63, 3) := by decide +kernel
theorem dX4_refresh_73 : decode cX4_refresh 73 = .ok (.iconst 1, 1) := by decide +kernel
theorem dX4_refresh_74 : decode cX4_refresh 74 = .ok (.iadd, 1) := by decide +kernel
theorem dX4_refresh_75 : decode cX4_refresh 75 = .ok (.putfield 63, 3) := by decide +kernel
theorem dX4_refresh_78 : decode cX4_refresh 78 = .ok (.aload_n 0, 1) := by decide +kernel
theorem dX4_refresh_79 : decode cX4_refresh 79 = .ok (.getfield 25, 3) := by decide +kernel
theorem dX4_refresh_82 : decode cX4_refresh 82 = .ok (.invokevirtual 72, 3) := by decide +kernel
theorem dX4_refresh_85 : decode cX4_refresh 85 = .ok (.iconst 0, 1) := by decide +kernel
theorem dX4_refresh_86 : decode cX4_refresh 86 = .ok (.istore 5, 2) := by decide +kernel
theorem dX4_refresh_88 : decode cX4_refresh 88 = .ok (.iload 5, 2) := by decide +kernel
theorem dX4_refresh_90 : decode cX4_refresh 90 = .ok (.aload_n 1, 1) := by decide +kernel
theorem dX4_refresh_91 : decode cX4_refresh 91 = .ok (.getfield 75, 3) := by decide +kernel
theorem dX4_refresh_94 : decode cX4_refresh 94 = .ok (.if_icmp .ge 27, 3) := by decide +kernel
theorem dX4_refresh_97 : decode cX4_refresh 97 = .ok (.aload_n 0, 1) := by decide +kernel
theorem dX4_refresh_98 : decode cX4_refresh 98 = .ok (.aload_n 1, 1) := by decide +kernel
theorem dX4_refresh_99 : decode cX4_refresh 99 = .ok (.iload 5, 2) := by decide +kernel
theorem dX4_refresh_101 : decode cX4_refresh 101 = .ok (.iload_n 2, 1) := by decide +kernel
theorem dX4_refresh_102 : decode cX4_refresh 102 = .ok (.invokevirtual 78, 3) := by decide +kernel
theorem dX4_refresh_105 : decode cX4_refresh 105 = .ok (.ifCond .eq 10, 3) := by decide +kernel
theorem dX4_refresh_108 : decode cX4_refresh 108 = .ok (.aload_n 0, 1) := by decide +kernel
theorem dX4_refresh_109 : decode cX4_refresh 109 = .ok (.aload_n 1, 1) := by decide +kernel
theorem dX4_refresh_110 : decode cX4_refresh 110 = .ok (.iload 5, 2) := by decide +kernel
theorem dX4_refresh_112 : decode cX4_refresh 112 = .ok (.invokevirtual 82, 3) := by decide +kernel
theorem dX4_refresh_115 : decode cX4_refresh 115 = .ok (.iinc 5 1, 3) := by decide +kernel
theorem dX4_refresh_118 : decode cX4_refresh 118 = .ok (.goto (-30), 3) := by decide +kernel
theorem dX4_refresh_121 : decode cX4_refresh 121 = .ok (.aload_n 0, 1) := by decide +kernel
theorem dX4_refresh_122 : decode cX4_refresh 122 = .ok (.getfield 21, 3) := by decide +kernel
theorem dX4_refresh_125 : decode cX4_refresh 125 = .ok (.aload_n 0, 1) := by decide +kernel
theorem dX4_refresh_126 : decode cX4_refresh 126 = .ok (.getfield 25, 3) := by decide +kernel
theorem dX4_refresh_129 : decode cX4_refresh 129 = .ok (.invokevirtual 86, 3) := by decide +kernel
theorem dX4_refresh_132 : decode cX4_refresh 132 = .ok (.istore_n 3, 1) := by decide +kernel
theorem dX4_refresh_133 : decode cX4_refresh 133 = .ok (.iinc 4 1, 3) := by decide +kernel
theorem dX4_refresh_136 : decode cX4_refresh 136 = .ok (.goto (-79), 3) := by decide +kernel
theorem dX4_refresh_139 : decode cX4_refresh 139 = .ok (.iinc 2 1, 3) := by decide +kernel
theorem dX4_refresh_142 : decode cX4_refresh 142 = .ok (.goto (-100), 3) := by decide +kernel
theorem dX4_refresh_145 : decode cX4_refresh 145 = .ok (.aload_n 0, 1) := by decide +kernel
theorem dX4_refresh_146 : decode cX4_refresh 146 = .ok (.getfield 43, 3) := by decide +kernel
theorem dX4_refresh_149 : decode cX4_refresh 149 = .ok (.iconst 0, 1) := by decide +kernel
theorem dX4_refresh_150 : decode cX4_refresh 150 = .ok (.invokevirtual 90, 3) := by decide +kernel
theorem dX4_refresh_153 : decode cX4_refresh 153 = .ok (.aload_n 0, 1) := by decide +kernel
theorem dX4_refresh_154 : decode cX4_refresh 154 = .ok (.getfield 40, 3) := by decide +kernel
theorem dX4_refresh_157 : decode cX4_refresh 157 = .ok (.iconst 0, 1) := by decide +kernel
theorem dX4_refresh_158 : decode cX4_refresh 158 = .ok (.invokevirtual 90, 3) := by decide +kernel
theorem dX4_refresh_161 : decode cX4_refresh 161 = .ok (.iconst 0, 1) := by decide +kernel
theorem dX4_refresh_162 : decode cX4_refresh 162 = .ok (.istore_n 2, 1) := by decide +kernel
theorem dX4_refresh_163 : decode cX4_refresh 163 = .ok (.iload_n 2, 1) := by decide +kernel
theorem dX4_refresh_164 : decode cX4_refresh 164 = .ok (.aload_n 1, 1) := by decide +kernel
theorem dX4_refresh_165 : decode cX4_refresh 165 = .ok (.getfield 75, 3) := by decide +kernel
theorem dX4_refresh_168 : decode cX4_refresh 168 = .ok (.if_icmp .ge 23, 3) := by decide +kernel
theorem dX4_refresh_171 : decode cX4_refresh 171 = .ok (.aload_n 1, 1) := by decide +kernel
theorem dX4_refresh_172 : decode cX4_refresh 172 = .ok (.iload_n 2, 1) := by decide +kernel
theorem dX4_refresh_173 : decode cX4_refresh 173 = .ok (.invokevirtual 93, 3) := by decide +kernel
theorem dX4_refresh_176 : decode cX4_refresh 176 = .ok (.ifCond .ne 9, 3) := by decide +kernel
theorem dX4_refresh_179 : decode cX4_refresh 179 = .ok (.aload_n 0, 1) := by decide +kernel
theorem dX4_refresh_180 : decode cX4_refresh 180 = .ok (.aload_n 1, 1) := by decide +kernel
theorem dX4_refresh_181 : decode cX4_refresh 181 = .ok (.iload_n 2, 1) := by decide +kernel
theorem dX4_refresh_182 : decode cX4_refresh 182 = .ok (.invokevirtual 82, 3) := by decide +kernel
theorem dX4_refresh_185 : decode cX4_refresh 185 = .ok (.iinc 2 1, 3) := by decide +kernel
theorem dX4_refresh_188 : decode cX4_refresh 188 = .ok (.goto (-25), 3) := by decide +kernel
theorem dX4_refresh_191 : decode cX4_refresh 191 = .ok (.return_, 1) := by decide +kernel
set_option maxRecDepth 20000 in
theorem ggX4_hasWork_X4_works : GoodIn wsX4_hasWork wsX4_works := goodIn_r _ [5, 6, 7, 8, 9, 10, 11, 12, 13, 14, 15, 16, 17, 18, 19, 20, 21, 22, 23, 24, 25, 26, 27, 28, 29, 30, 31, 32, 33, 34, 35, 36, 37, 38, 39, 40, 41, 42, 43, 44, 45, 55, 56, 57, 58, 59, 60, 61, 62, 63, 46, 47, 48, 49, 50, 51, 52, 53, 54, 64, 65, 66] (by decide +kernel) (by decide +kernel)
set_option maxRecDepth 20000 in
theorem gX4_hasWork_X4_works : GoodIn wsX4_hasWork (wsV RX4 78 RX4 yX4_works wsX4_works) := goodIn_app (goodIn_of _ (by decide +kernel)) ggX4_hasWork_X4_works
theorem dX4_hasWork_0 : decode cX4_hasWork 0 = .ok (.iconst 0, 1) := by decide +kernel
theorem dX4_hasWork_1 : decode cX4_hasWork 1 = .ok (.istore_n 3, 1) := by decide +kernel
theorem dX4_hasWork_2 : decode cX4_hasWork 2 = .ok (.iload_n 3, 1) := by decide +kernel
theorem dX4_hasWork_3 : decode cX4_hasWork 3 = .ok (.aload_n 1, 1) := by decide +kernel
theorem dX4_hasWork_4 : decode cX4_hasWork 4 = .ok (.getfield 75, 3) := by decide +kernel
theorem dX4_hasWork_7 : decode cX4_hasWork 7 = .ok (.if_icmp .ge 21, 3) := by decide +kernel
theorem dX4_hasWork_10 : decode cX4_hasWork 10 = .ok (.aload_n 0, 1) := by decide +kernel
theorem dX4_hasWork_11 : decode cX4_hasWork 11 = .ok (.aload_n 1, 1) := by decide +kernel
theorem dX4_hasWork_12 : decode cX4_hasWork 12 = .ok (.iload_n 3, 1) := by decide +kernel
theorem dX4_hasWork_13 : decode cX4_hasWork 13 = .ok (.iload_n 2, 1) := by decide +kernel
theorem dX4_hasWork_14 : decode cX4_hasWork 14 = .ok (.invokevirtual 78, 3) := by decide +kernel
theorem dX4_hasWork_17 : decode cX4_hasWork 17 = .ok (.ifCond .eq 5, 3) := by decide +kernel
theorem dX4_hasWork_20 : decode cX4_hasWork 20 = .ok (.iconst 1, 1) := by decide +kernel
theorem dX4_hasWork_21 : decode cX4_hasWork 21 = .ok (.ireturn, 1) := by decide +kernel
theorem dX4_hasWork_22 : decode cX4_hasWork 22 = .ok (.iinc 3 1, 3) := by decide +kernel
theorem dX4_hasWork_25 : decode cX4_hasWork 25 = .ok (.goto (-23), 3) := by decide +kernel
theorem dX4_hasWork_28 : decode cX4_hasWork 28 = .ok (.iconst 0, 1) := by decide +kernel
theorem dX4_hasWork_29 : decode cX4_hasWork 29 = .ok (.ireturn, 1) := by decide +kernel
set_option maxRecDepth 20000 in
theorem ggX4_works_X9_rests : GoodIn wsX4_works wsX9_rests := goodIn_r _ [6, 7, 8, 9, 10, 5, 11, 12, 13, 14, 15, 16, 17, 18, 19, 20, 21, 22, 23, 24, 25, 26, 27, 28, 29, 30, 31, 32, 33, 34, 35, 36, 50, 51, 52, 53, 54, 55, 56, 57, 58, 59, 60, 61] (by decide +kernel) (by decide +kernel)
set_option maxRecDepth 20000 in
theorem gX4_works_X9_rests : GoodIn wsX4_works (wsV RX4 93 RX9 yX9_rests wsX9_rests) := goodIn_app (goodIn_of _ (by decide +kernel)) ggX4_works_X9_rests
set_option maxRecDepth 20000 in
theorem ggX4_works_X6_at : GoodIn wsX4_works wsX6_at := goodIn_r _ [25, 26, 61] (by decide +kernel) (by decide +kernel)
set_option maxRecDepth 20000 in
theorem gX4_works_X6_at : GoodIn wsX4_works (wsV RX4 100 RX6 yX6_at wsX6_at) := goodIn_app (goodIn_of _ (by decide +kernel)) ggX4_works_X6_at
set_option maxRecDepth 20000 in
theorem ggX4_works_X1_table : GoodIn wsX4_works wsX1_table := goodIn_r _ [40] (by decide +kernel) (by decide +kernel)
set_option maxRecDepth 20000 in
theorem gX4_works_X1_table : GoodIn wsX4_works (va_wsS RX4 104 yX1_table wsX1_table) := goodIn_app (goodIn_of _ (by decide +kernel)) ggX4_works_X1_table
theorem dX4_works_0 : decode cX4_works 0 = .ok (.aload_n 1, 1) := by decide +kernel
theorem dX4_works_1 : decode cX4_works 1 = .ok (.iload_n 2, 1) := by decide +kernel
theorem dX4_works_2 : decode cX4_works 2 = .ok (.invokevirtual 93, 3) := by decide +kernel
theorem dX4_works_5 : decode cX4_works 5 = .ok (.ifCond .ne 29, 3) := by decide +kernel
theorem dX4_works_8 : decode cX4_works 8 = .ok (.aload_n 0, 1) := by decide +kernel
theorem dX4_works_9 : decode cX4_works 9 = .ok (.getfield 37, 3) := by decide +kernel
theorem dX4_works_12 : decode cX4_works 12 = .ok (.aload_n 1, 1) := by decide +kernel
theorem dX4_works_13 : decode cX4_works 13 = .ok (.getfield 97, 3) := by decide +kernel
theorem dX4_works_16 : decode cX4_works 16 = .ok (.iload_n 2, 1) := by decide +kernel
theorem dX4_works_17 : decode cX4_works 17 = .ok (.invokevirtual 100, 3) := by decide +kernel
theorem dX4_works_20 : decode cX4_works 20 = .ok (.invokestatic 104, 3) := by decide +kernel
theorem dX4_works_23 : decode cX4_works 23 = .ok (.invokevirtual 100, 3) := by decide +kernel
theorem dX4_works_26 : decode cX4_works 26 = .ok (.iload_n 3, 1) := by decide +kernel
theorem dX4_works_27 : decode cX4_works 27 = .ok (.if_icmp .ne 7, 3) := by decide +kernel
theorem dX4_works_30 : decode cX4_works 30 = .ok (.iconst 1, 1) := by decide +kernel
theorem dX4_works_31 : decode cX4_works 31 = .ok (.goto 4, 3) := by decide +kernel
theorem dX4_works_34 : decode cX4_works 34 = .ok (.iconst 0, 1) := by decide +kernel
theorem dX4_works_35 : decode cX4_works 35 = .ok (.ireturn, 1) := by decide +kernel
set_option maxRecDepth 20000 in
theorem ggX4_fire_X9_body : GoodIn wsX4_fire wsX9_body := goodIn_r _ [10, 11, 12, 164, 165, 166, 167, 168, 169, 170, 171, 172] (by decide +kernel) (by decide +kernel)
set_option maxRecDepth 20000 in
theorem gX4_fire_X9_body : GoodIn wsX4_fire (wsV RX4 109 RX9 yX9_body wsX9_body) := goodIn_app (goodIn_of _ (by decide +kernel)) ggX4_fire_X9_body
set_option maxRecDepth 20000 in
theorem ggX4_fire_X6_at : GoodIn wsX4_fire wsX6_at := goodIn_r _ [17, 18, 194] (by decide +kernel) (by decide +kernel)
set_option maxRecDepth 20000 in
theorem gX4_fire_X6_at : GoodIn wsX4_fire (wsV RX4 100 RX6 yX6_at wsX6_at) := goodIn_app (goodIn_of _ (by decide +kernel)) ggX4_fire_X6_at
set_option maxRecDepth 20000 in
theorem ggX4_fire_X8_start : GoodIn wsX4_fire wsX8_start := goodIn_r _ [23, 24, 25, 26, 27, 28, 29, 30, 31, 32, 33, 34, 35, 36, 37, 38, 39, 40, 41, 42, 43, 14, 15, 16, 17, 18, 44, 45, 46, 47, 48, 49, 50, 51, 52, 53, 54, 55, 56, 57, 58, 59, 60, 61, 62, 63, 64, 65, 66, 67, 68, 69, 70, 71, 72, 73, 74, 75, 76, 77, 78, 22, 79, 80, 81, 82, 83, 182, 183, 184, 185, 186, 187, 188, 189, 190, 191, 192, 193, 195, 196, 194] (by decide +kernel) (by decide +kernel)
set_option maxRecDepth 20000 in
theorem gX4_fire_X8_start : GoodIn wsX4_fire (wsV RX4 113 RX8 yX8_start wsX8_start) := goodIn_app (goodIn_of _ (by decide +kernel)) ggX4_fire_X8_start
set_option maxRecDepth 20000 in
theorem ggX4_fire_X8_advance : GoodIn wsX4_fire wsX8_advance := goodIn_r _ [87, 31, 88, 81, 27, 25, 89, 90, 91, 22, 92, 26, 24, 82, 80, 29, 28, 93, 14, 15, 16, 17, 18, 94, 95, 96, 35, 97, 37, 42, 43, 73, 74, 46, 75, 98, 99, 100, 38, 39, 40, 41, 101, 102, 103, 104, 105, 106, 107, 108, 109, 110, 111, 112, 113, 114, 115, 116, 117, 118, 119, 120, 121, 122, 123, 124, 125, 126, 127, 128, 129, 130, 131, 132, 133, 134, 68, 54, 55, 56, 135, 136, 137, 138, 83, 30, 139, 140, 141, 76, 77, 78, 79, 182, 183, 184, 185, 186, 187, 188, 189, 190, 191, 192, 193, 194, 195, 196, 197] (by decide +kernel) (by decide +kernel)
set_option maxRecDepth 20000 in
theorem gX4_fire_X8_advance : GoodIn wsX4_fire (wsV RX4 117 RX8 yX8_advance wsX8_advance) := goodIn_app (goodIn_of _ (by decide +kernel)) ggX4_fire_X8_advance
set_option maxRecDepth 20000 in
theorem ggX4_fire_X4_isBarred : GoodIn wsX4_fire wsX4_isBarred := goodIn_r _ [146, 2, 1, 147, 39, 40, 35, 41, 42, 43, 14, 15, 16, 17, 18, 148, 45, 46, 47, 48, 149, 123, 124, 150, 151, 152, 153, 110, 111, 154, 120, 121, 155, 156, 157, 128, 158, 130, 195, 196, 173, 174, 175, 176, 177, 178, 179, 180, 181, 182, 183, 184, 185, 186, 187, 188, 189, 190, 191, 192, 193, 194, 197] (by decide +kernel) (by decide +kernel)
set_option maxRecDepth 20000 in
theorem gX4_fire_X4_isBarred : GoodIn wsX4_fire (wsV RX4 120 RX4 yX4_isBarred wsX4_isBarred) := goodIn_app (goodIn_of _ (by decide +kernel)) ggX4_fire_X4_isBarred
set_option maxRecDepth 20000 in
theorem ggX4_fire_X1_row : GoodIn wsX4_fire wsX1_row := goodIn_r _ [152, 153, 110, 46, 111, 154, 120, 121] (by decide +kernel) (by decide +kernel)
set_option maxRecDepth 20000 in
theorem gX4_fire_X1_row : GoodIn wsX4_fire (va_wsS RX4 127 yX1_row wsX1_row) := goodIn_app (goodIn_of _ (by decide +kernel)) ggX4_fire_X1_row
set_option maxRecDepth 20000 in
theorem ggX4_fire_X1_table : GoodIn wsX4_fire wsX1_table := goodIn_r _ [124] (by decide +kernel) (by decide +kernel)
set_option maxRecDepth 20000 in
theorem gX4_fire_X1_table : GoodIn wsX4_fire (va_wsS RX4 104 yX1_table wsX1_table) := goodIn_app (goodIn_of _ (by decide +kernel)) ggX4_fire_X1_table
set_option maxRecDepth 20000 in
theorem ggX4_fire_X7_add : GoodIn wsX4_fire wsX7_add := goodIn_r _ [162, 130, 197] (by decide +kernel) (by decide +kernel)
set_option maxRecDepth 20000 in
theorem gX4_fire_X7_add : GoodIn wsX4_fire (wsV RX4 131 RX7 yX7_add wsX7_add) := goodIn_app (goodIn_of _ (by decide +kernel)) ggX4_fire_X7_add
set_option maxRecDepth 20000 in
theorem ggX4_fire_X6_put : GoodIn wsX4_fire wsX6_put := goodIn_r _ [56, 18, 194] (by decide +kernel) (by decide +kernel)
set_option maxRecDepth 20000 in
theorem gX4_fire_X6_put : GoodIn wsX4_fire (wsV RX4 135 RX6 yX6_put wsX6_put) := goodIn_app (goodIn_of _ (by decide +kernel)) ggX4_fire_X6_put
theorem dX4_fire_0 : decode cX4_fire 0 = .ok (.aload_n 1, 1) := by decide +kernel
theorem dX4_fire_1 : decode cX4_fire 1 = .ok (.iload_n 2, 1) := by decide +kernel
theorem dX4_fire_2 : decode cX4_fire 2 = .ok (.invokevirtual 109, 3) := by decide +kernel
theorem dX4_fire_5 : decode cX4_fire 5 = .ok (.astore_n 3, 1) := by decide +kernel
theorem dX4_fire_6 : decode cX4_fire 6 = .ok (.aload_n 1, 1) := by decide +kernel
theorem dX4_fire_7 : decode cX4_fire 7 = .ok (.getfield 97, 3) := by decide +kernel
theorem dX4_fire_10 : decode cX4_fire 10 = .ok (.iload_n 2, 1) := by decide +kernel
theorem dX4_fire_11 : decode cX4_fire 11 = .ok (.invokevirtual 100, 3) := by decide +kernel
theorem dX4_fire_14 : decode cX4_fire 14 = .ok (.istore 4, 2) := by decide +kernel
theorem dX4_fire_16 : decode cX4_fire 16 = .ok (.aload_n 0, 1) := by decide +kernel
theorem dX4_fire_17 : decode cX4_fire 17 = .ok (.getfield 12, 3) := by decide +kernel
theorem dX4_fire_20 : decode cX4_fire 20 = .ok (.aload_n 3, 1) := by decide +kernel
theorem dX4_fire_21 : decode cX4_fire 21 = .ok (.bipush 123, 2) := by decide +kernel
theorem dX4_fire_23 : decode cX4_fire 23 = .ok (.invokevirtual 113, 3) := by decide +kernel
theorem dX4_fire_26 : decode cX4_fire 26 = .ok (.iconst 0, 1) := by decide +kernel
theorem dX4_fire_27 : decode cX4_fire 27 = .ok (.istore 5, 2) := by decide +kernel
theorem dX4_fire_29 : decode cX4_fire 29 = .ok (.iload 5, 2) := by decide +kernel
theorem dX4_fire_31 : decode cX4_fire 31 = .ok (.sipush 4096, 3) := by decide +kernel
theorem dX4_fire_34 : decode cX4_fire 34 = .ok (.if_icmp .gt 114, 3) := by decide +kernel
theorem dX4_fire_37 : decode cX4_fire 37 = .ok (.aload_n 0, 1) := by decide +kernel
theorem dX4_fire_38 : decode cX4_fire 38 = .ok (.getfield 12, 3) := by decide +kernel
theorem dX4_fire_41 : decode cX4_fire 41 = .ok (.aload_n 0, 1) := by decide +kernel
theorem dX4_fire_42 : decode cX4_fire 42 = .ok (.getfield 21, 3) := by decide +kernel
theorem dX4_fire_45 : decode cX4_fire 45 = .ok (.invokevirtual 117, 3) := by decide +kernel
theorem dX4_fire_48 : decode cX4_fire 48 = .ok (.ifCond .eq 100, 3) := by decide +kernel
theorem dX4_fire_51 : decode cX4_fire 51 = .ok (.aload_n 0, 1) := by decide +kernel
theorem dX4_fire_52 : decode cX4_fire 52 = .ok (.aload_n 3, 1) := by decide +kernel
theorem dX4_fire_53 : decode cX4_fire 53 = .ok (.invokevirtual 120, 3) := by decide +kernel
theorem dX4_fire_56 : decode cX4_fire 56 = .ok (.ifCond .eq 6, 3) := by decide +kernel
theorem dX4_fire_59 : decode cX4_fire 59 = .ok (.goto 83, 3) := by decide +kernel
theorem dX4_fire_62 : decode cX4_fire 62 = .ok (.iload 4, 2) := by decide +kernel
theorem dX4_fire_64 : decode cX4_fire 64 = .ok (.aload_n 0, 1) := by decide +kernel
theorem dX4_fire_65 : decode cX4_fire 65 = .ok (.getfield 12, 3) := by decide +kernel
theorem dX4_fire_68 : decode cX4_fire 68 = .ok (.getfield 124, 3) := by decide +kernel
theorem dX4_fire_71 : decode cX4_fire 71 = .ok (.invokestatic 127, 3) := by decide +kernel
theorem dX4_fire_74 : decode cX4_fire 74 = .ok (.istore 6, 2) := by decide +kernel
theorem dX4_fire_76 : decode cX4_fire 76 = .ok (.iload 4, 2) := by decide +kernel
theorem dX4_fire_78 : decode cX4_fire 78 = .ok (.invokestatic 104, 3) := by decide +kernel
theorem dX4_fire_81 : decode cX4_fire 81 = .ok (.sipush 512, 3) := by decide +kernel
theorem dX4_fire_84 : decode cX4_fire 84 = .ok (.imul, 1) := by decide +kernel
theorem dX4_fire_85 : decode cX4_fire 85 = .ok (.iload 6, 2) := by decide +kernel
theorem dX4_fire_87 : decode cX4_fire 87 = .ok (.iadd, 1) := by decide +kernel
theorem dX4_fire_88 : decode cX4_fire 88 = .ok (.istore 7, 2) := by decide +kernel
theorem dX4_fire_90 : decode cX4_fire 90 = .ok (.aload_n 0, 1) := by decide +kernel
theorem dX4_fire_91 : decode cX4_fire 91 = .ok (.getfield 25, 3) := by decide +kernel
theorem dX4_fire_94 : decode cX4_fire 94 = .ok (.iload 4, 2) := by decide +kernel
theorem dX4_fire_96 : decode cX4_fire 96 = .ok (.invokestatic 104, 3) := by decide +kernel
theorem dX4_fire_99 : decode cX4_fire 99 = .ok (.iload 6, 2) := by decide +kernel
theorem dX4_fire_101 : decode cX4_fire 101 = .ok (.invokevirtual 131, 3) := by decide +kernel
theorem dX4_fire_104 : decode cX4_fire 104 = .ok (.aload_n 0, 1) := by decide +kernel
theorem dX4_fire_105 : decode cX4_fire 105 = .ok (.getfield 40, 3) := by decide +kernel
theorem dX4_fire_108 : decode cX4_fire 108 = .ok (.iload 7, 2) := by decide +kernel
theorem dX4_fire_110 : decode cX4_fire 110 = .ok (.aload_n 0, 1) := by decide +kernel
theorem dX4_fire_111 : decode cX4_fire 111 = .ok (.getfield 40, 3) := by decide +kernel
theorem dX4_fire_114 : decode cX4_fire 114 = .ok (.iload 7, 2) := by decide +kernel
theorem dX4_fire_116 : decode cX4_fire 116 = .ok (.invokevirtual 100, 3) := by decide +kernel
theorem dX4_fire_119 : decode cX4_fire 119 = .ok (.iconst 1, 1) := by decide +kernel
theorem dX4_fire_120 : decode cX4_fire 120 = .ok (.iadd, 1) := by decide +kernel
theorem dX4_fire_121 : decode cX4_fire 121 = .ok (.invokevirtual 135, 3) := by decide +kernel
theorem dX4_fire_124 : decode cX4_fire 124 = .ok (.aload_n 0, 1) := by decide +kernel
theorem dX4_fire_125 : decode cX4_fire 125 = .ok (.getfield 43, 3) := by decide +kernel
theorem dX4_fire_128 : decode cX4_fire 128 = .ok (.iload_n 2, 1) := by decide +kernel
theorem dX4_fire_129 : decode cX4_fire 129 = .ok (.aload_n 0, 1) := by decide +kernel
theorem dX4_fire_130 : decode cX4_fire 130 = .ok (.getfield 43, 3) := by decide +kernel
theorem dX4_fire_133 : decode cX4_fire 133 = .ok (.iload_n 2, 1) := by decide +kernel
theorem dX4_fire_134 : decode cX4_fire 134 = .ok (.invokevirtual 100, 3) := by decide +kernel
theorem dX4_fire_137 : decode cX4_fire 137 = .ok (.iconst 1, 1) := by decide +kernel
theorem dX4_fire_138 : decode cX4_fire 138 = .ok (.iadd, 1) := by decide +kernel
theorem dX4_fire_139 : decode cX4_fire 139 = .ok (.invokevirtual 135, 3) := by decide +kernel
theorem dX4_fire_142 : decode cX4_fire 142 = .ok (.iinc 5 1, 3) := by decide +kernel
theorem dX4_fire_145 : decode cX4_fire 145 = .ok (.goto (-116), 3) := by decide +kernel
theorem dX4_fire_148 : decode cX4_fire 148 = .ok (.return_, 1) := by decide +kernel
set_option maxRecDepth 20000 in
theorem ggX4_isBarred_X2_at : GoodIn wsX4_isBarred wsX2_at := goodIn_r _ [7, 8, 9, 10, 11, 12, 13, 14, 38, 39, 61] (by decide +kernel) (by decide +kernel)
set_option maxRecDepth 20000 in
theorem gX4_isBarred_X2_at : GoodIn wsX4_isBarred (wsV RX4 143 RX2 yX2_at wsX2_at) := goodIn_app (goodIn_of _ (by decide +kernel)) ggX4_isBarred_X2_at
set_option maxRecDepth 20000 in
theorem ggX4_isBarred_X1_isNot : GoodIn wsX4_isBarred wsX1_isNot := goodIn_r _ [18, 19] (by decide +kernel) (by decide +kernel)
set_option maxRecDepth 20000 in
theorem gX4_isBarred_X1_isNot : GoodIn wsX4_isBarred (va_wsS RX4 144 yX1_isNot wsX1_isNot) := goodIn_app (goodIn_of _ (by decide +kernel)) ggX4_isBarred_X1_isNot
set_option maxRecDepth 20000 in
theorem ggX4_isBarred_X1_table : GoodIn wsX4_isBarred wsX1_table := goodIn_r _ [22] (by decide +kernel) (by decide +kernel)
set_option maxRecDepth 20000 in
theorem gX4_isBarred_X1_table : GoodIn wsX4_isBarred (va_wsS RX4 104 yX1_table wsX1_table) := goodIn_app (goodIn_of _ (by decide +kernel)) ggX4_isBarred_X1_table
set_option maxRecDepth 20000 in
theorem ggX4_isBarred_X1_row : GoodIn wsX4_isBarred wsX1_row := goodIn_r _ [25, 26, 27, 17, 28, 29, 30, 31] (by decide +kernel) (by decide +kernel)
set_option maxRecDepth 20000 in
theorem gX4_isBarred_X1_row : GoodIn wsX4_isBarred (va_wsS RX4 127 yX1_row wsX1_row) := goodIn_app (goodIn_of _ (by decide +kernel)) ggX4_isBarred_X1_row
set_option maxRecDepth 20000 in
theorem ggX4_isBarred_X7_has : GoodIn wsX4_isBarred wsX7_has := goodIn_r _ [36, 37, 62] (by decide +kernel) (by decide +kernel)
set_option maxRecDepth 20000 in
theorem gX4_isBarred_X7_has : GoodIn wsX4_isBarred (wsV RX4 147 RX7 yX7_has wsX7_has) := goodIn_app (goodIn_of _ (by decide +kernel)) ggX4_isBarred_X7_has
theorem dX4_isBarred_0 : decode cX4_isBarred 0 = .ok (.iconst 0, 1) := by decide +kernel
theorem dX4_isBarred_1 : decode cX4_isBarred 1 = .ok (.istore_n 2, 1) := by decide +kernel
theorem dX4_isBarred_2 : decode cX4_isBarred 2 = .ok (.iload_n 2, 1) := by decide +kernel
theorem dX4_isBarred_3 : decode cX4_isBarred 3 = .ok (.aload_n 1, 1) := by decide +kernel
theorem dX4_isBarred_4 : decode cX4_isBarred 4 = .ok (.getfield 138, 3) := by decide +kernel
theorem dX4_isBarred_7 : decode cX4_isBarred 7 = .ok (.if_icmp .ge 49, 3) := by decide +kernel
theorem dX4_isBarred_10 : decode cX4_isBarred 10 = .ok (.aload_n 1, 1) := by decide +kernel
theorem dX4_isBarred_11 : decode cX4_isBarred 11 = .ok (.iload_n 2, 1) := by decide +kernel
theorem dX4_isBarred_12 : decode cX4_isBarred 12 = .ok (.invokevirtual 143, 3) := by decide +kernel
theorem dX4_isBarred_15 : decode cX4_isBarred 15 = .ok (.istore_n 3, 1) := by decide +kernel
theorem dX4_isBarred_16 : decode cX4_isBarred 16 = .ok (.iload_n 3, 1) := by decide +kernel
theorem dX4_isBarred_17 : decode cX4_isBarred 17 = .ok (.invokestatic 144, 3) := by decide +kernel
theorem dX4_isBarred_20 : decode cX4_isBarred 20 = .ok (.ifCond .eq 30, 3) := by decide +kernel
theorem dX4_isBarred_23 : decode cX4_isBarred 23 = .ok (.aload_n 0, 1) := by decide +kernel
theorem dX4_isBarred_24 : decode cX4_isBarred 24 = .ok (.getfield 21, 3) := by decide +kernel
theorem dX4_isBarred_27 : decode cX4_isBarred 27 = .ok (.iload_n 3, 1) := by decide +kernel
theorem dX4_isBarred_28 : decode cX4_isBarred 28 = .ok (.invokestatic 104, 3) := by decide +kernel
theorem dX4_isBarred_31 : decode cX4_isBarred 31 = .ok (.iload_n 3, 1) := by decide +kernel
theorem dX4_isBarred_32 : decode cX4_isBarred 32 = .ok (.aload_n 0, 1) := by decide +kernel
theorem dX4_isBarred_33 : decode cX4_isBarred 33 = .ok (.getfield 12, 3) := by decide +kernel
theorem dX4_isBarred_36 : decode cX4_isBarred 36 = .ok (.getfield 124, 3) := by decide +kernel
theorem dX4_isBarred_39 : decode cX4_isBarred 39 = .ok (.invokestatic 127, 3) := by decide +kernel
theorem dX4_isBarred_42 : decode cX4_isBarred 42 = .ok (.invokevirtual 147, 3) := by decide +kernel
theorem dX4_isBarred_45 : decode cX4_isBarred 45 = .ok (.ifCond .eq 5, 3) := by decide +kernel
theorem dX4_isBarred_48 : decode cX4_isBarred 48 = .ok (.iconst 1, 1) := by decide +kernel
theorem dX4_isBarred_49 : decode cX4_isBarred 49 = .ok (.ireturn, 1) := by decide +kernel
theorem dX4_isBarred_50 : decode cX4_isBarred 50 = .ok (.iinc 2 1, 3) := by decide +kernel
theorem dX4_isBarred_53 : decode cX4_isBarred 53 = .ok (.goto (-51), 3) := by decide +kernel
theorem dX4_isBarred_56 : decode cX4_isBarred 56 = .ok (.iconst 0, 1) := by decide +kernel
theorem dX4_isBarred_57 : decode cX4_isBarred 57 = .ok (.ireturn, 1) := by decide +kernel
set_option maxRecDepth 20000 in
theorem ggX4_reasonsOf_X6_at : GoodIn wsX4_reasonsOf wsX6_at := goodIn_r _ [6, 7, 32] (by decide +kernel) (by decide +kernel)
set_option maxRecDepth 20000 in
theorem gX4_reasonsOf_X6_at : GoodIn wsX4_reasonsOf (wsV RX4 100 RX6 yX6_at wsX6_at) := goodIn_app (goodIn_of _ (by decide +kernel)) ggX4_reasonsOf_X6_at
set_option maxRecDepth 20000 in
theorem ggX4_reasonsOf_X7_has : GoodIn wsX4_reasonsOf wsX7_has := goodIn_r _ [12, 13, 33] (by decide +kernel) (by decide +kernel)
set_option maxRecDepth 20000 in
theorem gX4_reasonsOf_X7_has : GoodIn wsX4_reasonsOf (wsV RX4 147 RX7 yX7_has wsX7_has) := goodIn_app (goodIn_of _ (by decide +kernel)) ggX4_reasonsOf_X7_has
theorem dX4_reasonsOf_0 : decode cX4_reasonsOf 0 = .ok (.aload_n 0, 1) := by decide +kernel
theorem dX4_reasonsOf_1 : decode cX4_reasonsOf 1 = .ok (.getfield 40, 3) := by decide +kernel
theorem dX4_reasonsOf_4 : decode cX4_reasonsOf 4 = .ok (.iload_n 2, 1) := by decide +kernel
theorem dX4_reasonsOf_5 : decode cX4_reasonsOf 5 = .ok (.sipush 512, 3) := by decide +kernel
theorem dX4_reasonsOf_8 : decode cX4_reasonsOf 8 = .ok (.imul, 1) := by decide +kernel
theorem dX4_reasonsOf_9 : decode cX4_reasonsOf 9 = .ok (.iload_n 3, 1) := by decide +kernel
theorem dX4_reasonsOf_10 : decode cX4_reasonsOf 10 = .ok (.iadd, 1) := by decide +kernel
theorem dX4_reasonsOf_11 : decode cX4_reasonsOf 11 = .ok (.invokevirtual 100, 3) := by decide +kernel
theorem dX4_reasonsOf_14 : decode cX4_reasonsOf 14 = .ok (.aload_n 1, 1) := by decide +kernel
theorem dX4_reasonsOf_15 : decode cX4_reasonsOf 15 = .ok (.getfield 54, 3) := by decide +kernel
theorem dX4_reasonsOf_18 : decode cX4_reasonsOf 18 = .ok (.iload_n 2, 1) := by decide +kernel
theorem dX4_reasonsOf_19 : decode cX4_reasonsOf 19 = .ok (.iload_n 3, 1) := by decide +kernel
theorem dX4_reasonsOf_20 : decode cX4_reasonsOf 20 = .ok (.invokevirtual 147, 3) := by decide +kernel
theorem dX4_reasonsOf_23 : decode cX4_reasonsOf 23 = .ok (.ifCond .eq 7, 3) := by decide +kernel
theorem dX4_reasonsOf_26 : decode cX4_reasonsOf 26 = .ok (.iconst 1, 1) := by decide +kernel
theorem dX4_reasonsOf_27 : decode cX4_reasonsOf 27 = .ok (.goto 4, 3) := by decide +kernel
theorem dX4_reasonsOf_30 : decode cX4_reasonsOf 30 = .ok (.iconst 0, 1) := by decide +kernel
theorem dX4_reasonsOf_31 : decode cX4_reasonsOf 31 = .ok (.iadd, 1) := by decide +kernel
theorem dX4_reasonsOf_32 : decode cX4_reasonsOf 32 = .ok (.ireturn, 1) := by decide +kernel
set_option maxRecDepth 20000 in
theorem ggX4_staysLayered_X4_settle : GoodIn wsX4_staysLayered wsX4_settle := goodIn_r _ [5, 6, 7, 8, 9, 10, 11, 12, 13, 14, 15, 16, 17, 18, 19, 20, 21, 22, 23, 24, 25, 26, 27, 28, 29, 30, 31, 32, 33, 34, 35, 4, 36, 37, 38, 39, 40, 41, 42, 43, 44, 45, 46, 47, 48, 58, 59, 60, 61, 62, 63, 64, 65, 66, 67, 68, 69] (by decide +kernel) (by decide +kernel)
set_option maxRecDepth 20000 in
theorem gX4_staysLayered_X4_settle : GoodIn wsX4_staysLayered (va_wsS RX4 50 yX4_settle wsX4_settle) := goodIn_app (goodIn_of _ (by decide +kernel)) ggX4_staysLayered_X4_settle
theorem dX4_staysLayered_0 : decode cX4_staysLayered 0 = .ok (.aload_n 1, 1) := by decide +kernel
theorem dX4_staysLayered_1 : decode cX4_staysLayered 1 = .ok (.aload_n 0, 1) := by decide +kernel
theorem dX4_staysLayered_2 : decode cX4_staysLayered 2 = .ok (.getfield 33, 3) := by decide +kernel
theorem dX4_staysLayered_5 : decode cX4_staysLayered 5 = .ok (.iload_n 2, 1) := by decide +kernel
theorem dX4_staysLayered_6 : decode cX4_staysLayered 6 = .ok (.iload_n 3, 1) := by decide +kernel
theorem dX4_staysLayered_7 : decode cX4_staysLayered 7 = .ok (.invokestatic 50, 3) := by decide +kernel
theorem dX4_staysLayered_10 : decode cX4_staysLayered 10 = .ok (.ireturn, 1) := by decide +kernel
set_option maxRecDepth 20000 in
theorem ggX4_settle_X6_fill : GoodIn wsX4_settle wsX6_fill := goodIn_r _ [5, 6, 7, 8, 9, 10, 56] (by decide +kernel) (by decide +kernel)
set_option maxRecDepth 20000 in
theorem gX4_settle_X6_fill : GoodIn wsX4_settle (wsV RX4 90 RX6 yX6_fill wsX6_fill) := goodIn_app (goodIn_of _ (by decide +kernel)) ggX4_settle_X6_fill
set_option maxRecDepth 20000 in
theorem ggX4_settle_X9_body : GoodIn wsX4_settle wsX9_body := goodIn_r _ [15, 16, 17, 45, 46, 47, 48, 49, 50, 51, 52, 53] (by decide +kernel) (by decide +kernel)
set_option maxRecDepth 20000 in
theorem gX4_settle_X9_body : GoodIn wsX4_settle (wsV RX4 109 RX9 yX9_body wsX9_body) := goodIn_app (goodIn_of _ (by decide +kernel)) ggX4_settle_X9_body
set_option maxRecDepth 20000 in
theorem ggX4_settle_X6_at : GoodIn wsX4_settle wsX6_at := goodIn_r _ [21, 6, 56] (by decide +kernel) (by decide +kernel)
set_option maxRecDepth 20000 in
theorem gX4_settle_X6_at : GoodIn wsX4_settle (wsV RX4 100 RX6 yX6_at wsX6_at) := goodIn_app (goodIn_of _ (by decide +kernel)) ggX4_settle_X6_at
set_option maxRecDepth 20000 in
theorem ggX4_settle_X2_at : GoodIn wsX4_settle wsX2_at := goodIn_r _ [26, 27, 28, 19, 20, 4, 21, 6, 54, 55, 56] (by decide +kernel) (by decide +kernel)
set_option maxRecDepth 20000 in
theorem gX4_settle_X2_at : GoodIn wsX4_settle (wsV RX4 143 RX2 yX2_at wsX2_at) := goodIn_app (goodIn_of _ (by decide +kernel)) ggX4_settle_X2_at
set_option maxRecDepth 20000 in
theorem ggX4_settle_X4_raise : GoodIn wsX4_settle wsX4_raise := goodIn_r _ [32, 33, 34, 35, 36, 18, 19, 20, 4, 21, 6, 37, 38, 39, 40, 41, 42, 43, 44, 56] (by decide +kernel) (by decide +kernel)
set_option maxRecDepth 20000 in
theorem gX4_settle_X4_raise : GoodIn wsX4_settle (va_wsS RX4 151 yX4_raise wsX4_raise) := goodIn_app (goodIn_of _ (by decide +kernel)) ggX4_settle_X4_raise
theorem dX4_settle_0 : decode cX4_settle 0 = .ok (.aload_n 1, 1) := by decide +kernel
theorem dX4_settle_1 : decode cX4_settle 1 = .ok (.iconst 0, 1) := by decide +kernel
theorem dX4_settle_2 : decode cX4_settle 2 = .ok (.invokevirtual 90, 3) := by decide +kernel
theorem dX4_settle_5 : decode cX4_settle 5 = .ok (.iconst 1, 1) := by decide +kernel
theorem dX4_settle_6 : decode cX4_settle 6 = .ok (.istore 4, 2) := by decide +kernel
theorem dX4_settle_8 : decode cX4_settle 8 = .ok (.iconst 0, 1) := by decide +kernel
theorem dX4_settle_9 : decode cX4_settle 9 = .ok (.istore 5, 2) := by decide +kernel
theorem dX4_settle_11 : decode cX4_settle 11 = .ok (.iload 4, 2) := by decide +kernel
theorem dX4_settle_13 : decode cX4_settle 13 = .ok (.ifCond .eq 118, 3) := by decide +kernel
theorem dX4_settle_16 : decode cX4_settle 16 = .ok (.iload 5, 2) := by decide +kernel
theorem dX4_settle_18 : decode cX4_settle 18 = .ok (.iconst 5, 1) := by decide +kernel
theorem dX4_settle_19 : decode cX4_settle 19 = .ok (.if_icmp .ge 112, 3) := by decide +kernel
theorem dX4_settle_22 : decode cX4_settle 22 = .ok (.iconst 0, 1) := by decide +kernel
theorem dX4_settle_23 : decode cX4_settle 23 = .ok (.istore 4, 2) := by decide +kernel
theorem dX4_settle_25 : decode cX4_settle 25 = .ok (.iconst 0, 1) := by decide +kernel
theorem dX4_settle_26 : decode cX4_settle 26 = .ok (.istore 6, 2) := by decide +kernel
theorem dX4_settle_28 : decode cX4_settle 28 = .ok (.iload 6, 2) := by decide +kernel
theorem dX4_settle_30 : decode cX4_settle 30 = .ok (.aload_n 0, 1) := by decide +kernel
theorem dX4_settle_31 : decode cX4_settle 31 = .ok (.getfield 75, 3) := by decide +kernel
theorem dX4_settle_34 : decode cX4_settle 34 = .ok (.if_icmp .ge 91, 3) := by decide +kernel
theorem dX4_settle_37 : decode cX4_settle 37 = .ok (.aload_n 0, 1) := by decide +kernel
theorem dX4_settle_38 : decode cX4_settle 38 = .ok (.iload 6, 2) := by decide +kernel
theorem dX4_settle_40 : decode cX4_settle 40 = .ok (.invokevirtual 109, 3) := by decide +kernel
theorem dX4_settle_43 : decode cX4_settle 43 = .ok (.astore 7, 2) := by decide +kernel
theorem dX4_settle_45 : decode cX4_settle 45 = .ok (.aload_n 0, 1) := by decide +kernel
theorem dX4_settle_46 : decode cX4_settle 46 = .ok (.getfield 97, 3) := by decide +kernel
theorem dX4_settle_49 : decode cX4_settle 49 = .ok (.iload 6, 2) := by decide +kernel
theorem dX4_settle_51 : decode cX4_settle 51 = .ok (.invokevirtual 100, 3) := by decide +kernel
theorem dX4_settle_54 : decode cX4_settle 54 = .ok (.istore 8, 2) := by decide +kernel
theorem dX4_settle_56 : decode cX4_settle 56 = .ok (.iconst 0, 1) := by decide +kernel
theorem dX4_settle_57 : decode cX4_settle 57 = .ok (.istore 9, 2) := by decide +kernel
theorem dX4_settle_59 : decode cX4_settle 59 = .ok (.iload 9, 2) := by decide +kernel
theorem dX4_settle_61 : decode cX4_settle 61 = .ok (.aload 7, 2) := by decide +kernel
theorem dX4_settle_63 : decode cX4_settle 63 = .ok (.getfield 138, 3) := by decide +kernel
theorem dX4_settle_66 : decode cX4_settle 66 = .ok (.if_icmp .ge 27, 3) := by decide +kernel
theorem dX4_settle_69 : decode cX4_settle 69 = .ok (.iload 4, 2) := by decide +kernel
theorem dX4_settle_71 : decode cX4_settle 71 = .ok (.aload_n 1, 1) := by decide +kernel
theorem dX4_settle_72 : decode cX4_settle 72 = .ok (.iload 8, 2) := by decide +kernel
theorem dX4_settle_74 : decode cX4_settle 74 = .ok (.aload 7, 2) := by decide +kernel
theorem dX4_settle_76 : decode cX4_settle 76 = .ok (.iload 9, 2) := by decide +kernel
theorem dX4_settle_78 : decode cX4_settle 78 = .ok (.invokevirtual 143, 3) := by decide +kernel
theorem dX4_settle_81 : decode cX4_settle 81 = .ok (.invokestatic 151, 3) := by decide +kernel
theorem dX4_settle_84 : decode cX4_settle 84 = .ok (.ior, 1) := by decide +kernel
theorem dX4_settle_85 : decode cX4_settle 85 = .ok (.istore 4, 2) := by decide +kernel
theorem dX4_settle_87 : decode cX4_settle 87 = .ok (.iinc 9 1, 3) := by decide +kernel
theorem dX4_settle_90 : decode cX4_settle 90 = .ok (.goto (-31), 3) := by decide +kernel
theorem dX4_settle_93 : decode cX4_settle 93 = .ok (.iload 4, 2) := by decide +kernel
theorem dX4_settle_95 : decode cX4_settle 95 = .ok (.iload 6, 2) := by decide +kernel
theorem dX4_settle_97 : decode cX4_settle 97 = .ok (.iload_n 2, 1) := by decide +kernel
theorem dX4_settle_98 : decode cX4_settle 98 = .ok (.if_icmp .ne 17, 3) := by decide +kernel
theorem dX4_settle_101 : decode cX4_settle 101 = .ok (.aload_n 1, 1) := by decide +kernel
theorem dX4_settle_102 : decode cX4_settle 102 = .ok (.iload 8, 2) := by decide +kernel
theorem dX4_settle_104 : decode cX4_settle 104 = .ok (.iload_n 3, 1) := by decide +kernel
theorem dX4_settle_105 : decode cX4_settle 105 = .ok (.invokestatic 151, 3) := by decide +kernel
theorem dX4_settle_108 : decode cX4_settle 108 = .ok (.ifCond .eq 7, 3) := by decide +kernel
theorem dX4_settle_111 : decode cX4_settle 111 = .ok (.iconst 1, 1) := by decide +kernel
theorem dX4_settle_112 : decode cX4_settle 112 = .ok (.goto 4, 3) := by decide +kernel
theorem dX4_settle_115 : decode cX4_settle 115 = .ok (.iconst 0, 1) := by decide +kernel
theorem dX4_settle_116 : decode cX4_settle 116 = .ok (.ior, 1) := by decide +kernel
theorem dX4_settle_117 : decode cX4_settle 117 = .ok (.istore 4, 2) := by decide +kernel
theorem dX4_settle_119 : decode cX4_settle 119 = .ok (.iinc 6 1, 3) := by decide +kernel
theorem dX4_settle_122 : decode cX4_settle 122 = .ok (.goto (-94), 3) := by decide +kernel
theorem dX4_settle_125 : decode cX4_settle 125 = .ok (.iinc 5 1, 3) := by decide +kernel
theorem dX4_settle_128 : decode cX4_settle 128 = .ok (.goto (-117), 3) := by decide +kernel
theorem dX4_settle_131 : decode cX4_settle 131 = .ok (.iload 4, 2) := by decide +kernel
theorem dX4_settle_133 : decode cX4_settle 133 = .ok (.ifCond .ne 7, 3) := by decide +kernel
theorem dX4_settle_136 : decode cX4_settle 136 = .ok (.iconst 1, 1) := by decide +kernel
theorem dX4_settle_137 : decode cX4_settle 137 = .ok (.goto 4, 3) := by decide +kernel
theorem dX4_settle_140 : decode cX4_settle 140 = .ok (.iconst 0, 1) := by decide +kernel
theorem dX4_settle_141 : decode cX4_settle 141 = .ok (.ireturn, 1) := by decide +kernel
set_option maxRecDepth 20000 in
theorem ggX4_raise_X1_table : GoodIn wsX4_raise wsX1_table := goodIn_r _ [4] (by decide +kernel) (by decide +kernel)
set_option maxRecDepth 20000 in
theorem gX4_raise_X1_table : GoodIn wsX4_raise (va_wsS RX4 104 yX1_table wsX1_table) := goodIn_app (goodIn_of _ (by decide +kernel)) ggX4_raise_X1_table
set_option maxRecDepth 20000 in
theorem ggX4_raise_X6_at : GoodIn wsX4_raise wsX6_at := goodIn_r _ [9, 10, 19] (by decide +kernel) (by decide +kernel)
set_option maxRecDepth 20000 in
theorem gX4_raise_X6_at : GoodIn wsX4_raise (wsV RX4 100 RX6 yX6_at wsX6_at) := goodIn_app (goodIn_of _ (by decide +kernel)) ggX4_raise_X6_at
set_option maxRecDepth 20000 in
theorem ggX4_raise_X1_isNot : GoodIn wsX4_raise wsX1_isNot := goodIn_r _ [13, 14] (by decide +kernel) (by decide +kernel)
set_option maxRecDepth 20000 in
theorem gX4_raise_X1_isNot : GoodIn wsX4_raise (va_wsS RX4 144 yX1_isNot wsX1_isNot) := goodIn_app (goodIn_of _ (by decide +kernel)) ggX4_raise_X1_isNot
set_option maxRecDepth 20000 in
theorem ggX4_raise_X6_put : GoodIn wsX4_raise wsX6_put := goodIn_r _ [18, 10, 19] (by decide +kernel) (by decide +kernel)
set_option maxRecDepth 20000 in
theorem gX4_raise_X6_put : GoodIn wsX4_raise (wsV RX4 135 RX6 yX6_put wsX6_put) := goodIn_app (goodIn_of _ (by decide +kernel)) ggX4_raise_X6_put
theorem dX4_raise_0 : decode cX4_raise 0 = .ok (.aload_n 0, 1) := by decide +kernel
theorem dX4_raise_1 : decode cX4_raise 1 = .ok (.iload_n 2, 1) := by decide +kernel
theorem dX4_raise_2 : decode cX4_raise 2 = .ok (.invokestatic 104, 3) := by decide +kernel
theorem dX4_raise_5 : decode cX4_raise 5 = .ok (.invokevirtual 100, 3) := by decide +kernel
theorem dX4_raise_8 : decode cX4_raise 8 = .ok (.iload_n 2, 1) := by decide +kernel
theorem dX4_raise_9 : decode cX4_raise 9 = .ok (.invokestatic 144, 3) := by decide +kernel
theorem dX4_raise_12 : decode cX4_raise 12 = .ok (.ifCond .eq 7, 3) := by decide +kernel
theorem dX4_raise_15 : decode cX4_raise 15 = .ok (.iconst 1, 1) := by decide +kernel
theorem dX4_raise_16 : decode cX4_raise 16 = .ok (.goto 4, 3) := by decide +kernel
theorem dX4_raise_19 : decode cX4_raise 19 = .ok (.iconst 0, 1) := by decide +kernel
theorem dX4_raise_20 : decode cX4_raise 20 = .ok (.iadd, 1) := by decide +kernel
theorem dX4_raise_21 : decode cX4_raise 21 = .ok (.istore_n 3, 1) := by decide +kernel
theorem dX4_raise_22 : decode cX4_raise 22 = .ok (.aload_n 0, 1) := by decide +kernel
theorem dX4_raise_23 : decode cX4_raise 23 = .ok (.iload_n 1, 1) := by decide +kernel
theorem dX4_raise_24 : decode cX4_raise 24 = .ok (.invokestatic 104, 3) := by decide +kernel
theorem dX4_raise_27 : decode cX4_raise 27 = .ok (.invokevirtual 100, 3) := by decide +kernel
theorem dX4_raise_30 : decode cX4_raise 30 = .ok (.iload_n 3, 1) := by decide +kernel
theorem dX4_raise_31 : decode cX4_raise 31 = .ok (.if_icmp .lt 5, 3) := by decide +kernel
theorem dX4_raise_34 : decode cX4_raise 34 = .ok (.iconst 0, 1) := by decide +kernel
theorem dX4_raise_35 : decode cX4_raise 35 = .ok (.ireturn, 1) := by decide +kernel
theorem dX4_raise_36 : decode cX4_raise 36 = .ok (.aload_n 0, 1) := by decide +kernel
theorem dX4_raise_37 : decode cX4_raise 37 = .ok (.iload_n 1, 1) := by decide +kernel
theorem dX4_raise_38 : decode cX4_raise 38 = .ok (.invokestatic 104, 3) := by decide +kernel
theorem dX4_raise_41 : decode cX4_raise 41 = .ok (.iload_n 3, 1) := by decide +kernel
theorem dX4_raise_42 : decode cX4_raise 42 = .ok (.invokevirtual 135, 3) := by decide +kernel
theorem dX4_raise_45 : decode cX4_raise 45 = .ok (.iconst 1, 1) := by decide +kernel
theorem dX4_raise_46 : decode cX4_raise 46 = .ok (.ireturn, 1) := by decide +kernel
set_option maxRecDepth 20000 in
theorem ggX5_init_X9_init : GoodIn wsX5_init wsX9_init := goodIn_r _ [10, 11, 2, 3, 12, 13, 14, 15, 16, 17, 18, 19, 20, 21, 22, 23, 24, 25, 26, 27, 28, 29, 30, 31, 32, 33, 34, 35, 36, 37, 38, 39, 40, 41, 42, 43, 44, 45, 46, 47, 48, 49, 50, 51, 52, 65, 56, 57, 58, 59, 60, 61, 62, 63, 64, 66, 67, 68] (by decide +kernel) (by decide +kernel)
set_option maxRecDepth 20000 in
theorem gX5_init_X9_init : GoodIn wsX5_init (wsX9_init) := ggX5_init_X9_init
theorem dX5_init_0 : decode cX5_init 0 = .ok (.aload_n 0, 1) := by decide +kernel
theorem dX5_init_1 : decode cX5_init 1 = .ok (.invokespecial 3, 3) := by decide +kernel
theorem dX5_init_4 : decode cX5_init 4 = .ok (.aload_n 0, 1) := by decide +kernel
theorem dX5_init_5 : decode cX5_init 5 = .ok (.bipush 10, 2) := by decide +kernel
theorem dX5_init_7 : decode cX5_init 7 = .ok (.anewarray 9, 3) := by decide +kernel
theorem dX5_init_10 : decode cX5_init 10 = .ok (.putfield 11, 3) := by decide +kernel
theorem dX5_init_13 : decode cX5_init 13 = .ok (.iconst 0, 1) := by decide +kernel
theorem dX5_init_14 : decode cX5_init 14 = .ok (.istore_n 1, 1) := by decide +kernel
theorem dX5_init_15 : decode cX5_init 15 = .ok (.iload_n 1, 1) := by decide +kernel
theorem dX5_init_16 : decode cX5_init 16 = .ok (.aload_n 0, 1) := by decide +kernel
theorem dX5_init_17 : decode cX5_init 17 = .ok (.getfield 11, 3) := by decide +kernel
theorem dX5_init_20 : decode cX5_init 20 = .ok (.arraylength, 1) := by decide +kernel
theorem dX5_init_21 : decode cX5_init 21 = .ok (.if_icmp .ge 22, 3) := by decide +kernel
theorem dX5_init_24 : decode cX5_init 24 = .ok (.aload_n 0, 1) := by decide +kernel
theorem dX5_init_25 : decode cX5_init 25 = .ok (.getfield 11, 3) := by decide +kernel
theorem dX5_init_28 : decode cX5_init 28 = .ok (.iload_n 1, 1) := by decide +kernel
theorem dX5_init_29 : decode cX5_init 29 = .ok (.new 9, 3) := by decide +kernel
theorem dX5_init_32 : decode cX5_init 32 = .ok (.dup, 1) := by decide +kernel
theorem dX5_init_33 : decode cX5_init 33 = .ok (.invokespecial 17, 3) := by decide +kernel
theorem dX5_init_36 : decode cX5_init 36 = .ok (.aastore, 1) := by decide +kernel
theorem dX5_init_37 : decode cX5_init 37 = .ok (.iinc 1 1, 3) := by decide +kernel
theorem dX5_init_40 : decode cX5_init 40 = .ok (.goto (-25), 3) := by decide +kernel
theorem dX5_init_43 : decode cX5_init 43 = .ok (.return_, 1) := by decide +kernel
set_option maxRecDepth 20000 in
theorem ggX5_keep_X5_slotAt : GoodIn wsX5_keep wsX5_slotAt := goodIn_r _ [7, 8, 51, 52, 53] (by decide +kernel) (by decide +kernel)
set_option maxRecDepth 20000 in
theorem gX5_keep_X5_slotAt : GoodIn wsX5_keep (wsV RX5 22 RX5 yX5_slotAt wsX5_slotAt) := goodIn_app (goodIn_of _ (by decide +kernel)) ggX5_keep_X5_slotAt
set_option maxRecDepth 20000 in
theorem ggX5_keep_X9_copyFrom : GoodIn wsX5_keep wsX9_copyFrom := goodIn_r _ [13, 14, 15, 16, 17, 18, 19, 20, 21, 22, 23, 24, 25, 26, 27, 28, 29, 30, 31, 32, 33, 34, 12, 35, 36, 37, 38, 39, 40, 41, 42, 43, 44, 45, 46, 47, 48, 49, 50, 54, 55, 56, 57, 58, 59, 60, 61, 62, 63, 64, 65, 66] (by decide +kernel) (by decide +kernel)
set_option maxRecDepth 20000 in
theorem gX5_keep_X9_copyFrom : GoodIn wsX5_keep (wsV RX5 26 RX9 yX9_copyFrom wsX9_copyFrom) := goodIn_app (goodIn_of _ (by decide +kernel)) ggX5_keep_X9_copyFrom
theorem dX5_keep_0 : decode cX5_keep 0 = .ok (.aload_n 0, 1) := by decide +kernel
theorem dX5_keep_1 : decode cX5_keep 1 = .ok (.aload_n 0, 1) := by decide +kernel
theorem dX5_keep_2 : decode cX5_keep 2 = .ok (.getfield 18, 3) := by decide +kernel
theorem dX5_keep_5 : decode cX5_keep 5 = .ok (.invokevirtual 22, 3) := by decide +kernel
theorem dX5_keep_8 : decode cX5_keep 8 = .ok (.astore_n 2, 1) := by decide +kernel
theorem dX5_keep_9 : decode cX5_keep 9 = .ok (.aload_n 2, 1) := by decide +kernel
theorem dX5_keep_10 : decode cX5_keep 10 = .ok (.ifnull 8, 3) := by decide +kernel
theorem dX5_keep_13 : decode cX5_keep 13 = .ok (.aload_n 2, 1) := by decide +kernel
theorem dX5_keep_14 : decode cX5_keep 14 = .ok (.aload_n 1, 1) := by decide +kernel
theorem dX5_keep_15 : decode cX5_keep 15 = .ok (.invokevirtual 26, 3) := by decide +kernel
theorem dX5_keep_18 : decode cX5_keep 18 = .ok (.aload_n 0, 1) := by decide +kernel
theorem dX5_keep_19 : decode cX5_keep 19 = .ok (.aload_n 0, 1) := by decide +kernel
theorem dX5_keep_20 : decode cX5_keep 20 = .ok (.getfield 18, 3) := by decide +kernel
theorem dX5_keep_23 : decode cX5_keep 23 = .ok (.iconst 1, 1) := by decide +kernel
theorem dX5_keep_24 : decode cX5_keep 24 = .ok (.iadd, 1) := by decide +kernel
theorem dX5_keep_25 : decode cX5_keep 25 = .ok (.bipush 10, 2) := by decide +kernel
theorem dX5_keep_27 : decode cX5_keep 27 = .ok (.if_icmp .lt 7, 3) := by decide +kernel
theorem dX5_keep_30 : decode cX5_keep 30 = .ok (.iconst 0, 1) := by decide +kernel
theorem dX5_keep_31 : decode cX5_keep 31 = .ok (.goto 9, 3) := by decide +kernel
theorem dX5_keep_34 : decode cX5_keep 34 = .ok (.aload_n 0, 1) := by decide +kernel
theorem dX5_keep_35 : decode cX5_keep 35 = .ok (.getfield 18, 3) := by decide +kernel
theorem dX5_keep_38 : decode cX5_keep 38 = .ok (.iconst 1, 1) := by decide +kernel
theorem dX5_keep_39 : decode cX5_keep 39 = .ok (.iadd, 1) := by decide +kernel
theorem dX5_keep_40 : decode cX5_keep 40 = .ok (.putfield 18, 3) := by decide +kernel
theorem dX5_keep_43 : decode cX5_keep 43 = .ok (.aload_n 0, 1) := by decide +kernel
theorem dX5_keep_44 : decode cX5_keep 44 = .ok (.aload_n 0, 1) := by decide +kernel
theorem dX5_keep_45 : decode cX5_keep 45 = .ok (.getfield 30, 3) := by decide +kernel
theorem dX5_keep_48 : decode cX5_keep 48 = .ok (.bipush 10, 2) := by decide +kernel
theorem dX5_keep_50 : decode cX5_keep 50 = .ok (.if_icmp .ge 12, 3) := by decide +kernel
theorem dX5_keep_53 : decode cX5_keep 53 = .ok (.aload_n 0, 1) := by decide +kernel
theorem dX5_keep_54 : decode cX5_keep 54 = .ok (.getfield 30, 3) := by decide +kernel
theorem dX5_keep_57 : decode cX5_keep 57 = .ok (.iconst 1, 1) := by decide +kernel
theorem dX5_keep_58 : decode cX5_keep 58 = .ok (.iadd, 1) := by decide +kernel
theorem dX5_keep_59 : decode cX5_keep 59 = .ok (.goto 5, 3) := by decide +kernel
theorem dX5_keep_62 : decode cX5_keep 62 = .ok (.bipush 10, 2) := by decide +kernel
theorem dX5_keep_64 : decode cX5_keep 64 = .ok (.putfield 30, 3) := by decide +kernel
theorem dX5_keep_67 : decode cX5_keep 67 = .ok (.return_, 1) := by decide +kernel
set_option maxRecDepth 20000 in
theorem ggX5_bringBack_X5_slotAt : GoodIn wsX5_bringBack wsX5_slotAt := goodIn_r _ [7, 8, 51, 52, 53] (by decide +kernel) (by decide +kernel)
set_option maxRecDepth 20000 in
theorem gX5_bringBack_X5_slotAt : GoodIn wsX5_bringBack (wsV RX5 22 RX5 yX5_slotAt wsX5_slotAt) := goodIn_app (goodIn_of _ (by decide +kernel)) ggX5_bringBack_X5_slotAt
set_option maxRecDepth 20000 in
theorem ggX5_bringBack_X9_copyFrom : GoodIn wsX5_bringBack wsX9_copyFrom := goodIn_r _ [13, 14, 15, 16, 17, 18, 19, 20, 21, 22, 23, 24, 25, 26, 27, 28, 29, 30, 31, 32, 33, 34, 12, 35, 36, 37, 38, 39, 40, 41, 42, 43, 44, 45, 46, 47, 48, 49, 50, 54, 55, 56, 57, 58, 59, 60, 61, 62, 63, 64, 65, 66] (by decide +kernel) (by decide +kernel)
set_option maxRecDepth 20000 in
theorem gX5_bringBack_X9_copyFrom : GoodIn wsX5_bringBack (wsV RX5 26 RX9 yX9_copyFrom wsX9_copyFrom) := goodIn_app (goodIn_of _ (by decide +kernel)) ggX5_bringBack_X9_copyFrom
theorem dX5_bringBack_0 : decode cX5_bringBack 0 = .ok (.aload_n 0, 1) := by decide +kernel
theorem dX5_bringBack_1 : decode cX5_bringBack 1 = .ok (.aload_n 0, 1) := by decide +kernel
theorem dX5_bringBack_2 : decode cX5_bringBack 2 = .ok (.getfield 18, 3) := by decide +kernel
theorem dX5_bringBack_5 : decode cX5_bringBack 5 = .ok (.ifCond .gt 8, 3) := by decide +kernel
theorem dX5_bringBack_8 : decode cX5_bringBack 8 = .ok (.bipush 9, 2) := by decide +kernel
theorem dX5_bringBack_10 : decode cX5_bringBack 10 = .ok (.goto 9, 3) := by decide +kernel
theorem dX5_bringBack_13 : decode cX5_bringBack 13 = .ok (.aload_n 0, 1) := by decide +kernel
theorem dX5_bringBack_14 : decode cX5_bringBack 14 = .ok (.getfield 18, 3) := by decide +kernel
theorem dX5_bringBack_17 : decode cX5_bringBack 17 = .ok (.iconst 1, 1) := by decide +kernel
theorem dX5_bringBack_18 : decode cX5_bringBack 18 = .ok (.isub, 1) := by decide +kernel
theorem dX5_bringBack_19 : decode cX5_bringBack 19 = .ok (.putfield 18, 3) := by decide +kernel
theorem dX5_bringBack_22 : decode cX5_bringBack 22 = .ok (.aload_n 0, 1) := by decide +kernel
theorem dX5_bringBack_23 : decode cX5_bringBack 23 = .ok (.aload_n 0, 1) := by decide +kernel
theorem dX5_bringBack_24 : decode cX5_bringBack 24 = .ok (.getfield 18, 3) := by decide +kernel
theorem dX5_bringBack_27 : decode cX5_bringBack 27 = .ok (.invokevirtual 22, 3) := by decide +kernel
theorem dX5_bringBack_30 : decode cX5_bringBack 30 = .ok (.astore_n 2, 1) := by decide +kernel
theorem dX5_bringBack_31 : decode cX5_bringBack 31 = .ok (.aload_n 2, 1) := by decide +kernel
theorem dX5_bringBack_32 : decode cX5_bringBack 32 = .ok (.ifnull 8, 3) := by decide +kernel
theorem dX5_bringBack_35 : decode cX5_bringBack 35 = .ok (.aload_n 1, 1) := by decide +kernel
theorem dX5_bringBack_36 : decode cX5_bringBack 36 = .ok (.aload_n 2, 1) := by decide +kernel
theorem dX5_bringBack_37 : decode cX5_bringBack 37 = .ok (.invokevirtual 26, 3) := by decide +kernel
theorem dX5_bringBack_40 : decode cX5_bringBack 40 = .ok (.aload_n 0, 1) := by decide +kernel
theorem dX5_bringBack_41 : decode cX5_bringBack 41 = .ok (.dup, 1) := by decide +kernel
theorem dX5_bringBack_42 : decode cX5_bringBack 42 = .ok (.getfield 30, 3) := by decide +kernel
theorem dX5_bringBack_45 : decode cX5_bringBack 45 = .ok (.iconst 1, 1) := by decide +kernel
theorem dX5_bringBack_46 : decode cX5_bringBack 46 = .ok (.isub, 1) := by decide +kernel
theorem dX5_bringBack_47 : decode cX5_bringBack 47 = .ok (.putfield 30, 3) := by decide +kernel
theorem dX5_bringBack_50 : decode cX5_bringBack 50 = .ok (.return_, 1) := by decide +kernel
theorem dX5_slotAt_0 : decode cX5_slotAt 0 = .ok (.iload_n 1, 1) := by decide +kernel
theorem dX5_slotAt_1 : decode cX5_slotAt 1 = .ok (.ifCond .lt 21, 3) := by decide +kernel
theorem dX5_slotAt_4 : decode cX5_slotAt 4 = .ok (.iload_n 1, 1) := by decide +kernel
theorem dX5_slotAt_5 : decode cX5_slotAt 5 = .ok (.aload_n 0, 1) := by decide +kernel
theorem dX5_slotAt_6 : decode cX5_slotAt 6 = .ok (.getfield 11, 3) := by decide +kernel
theorem dX5_slotAt_9 : decode cX5_slotAt 9 = .ok (.arraylength, 1) := by decide +kernel
theorem dX5_slotAt_10 : decode cX5_slotAt 10 = .ok (.if_icmp .ge 12, 3) := by decide +kernel
theorem dX5_slotAt_13 : decode cX5_slotAt 13 = .ok (.aload_n 0, 1) := by decide +kernel
theorem dX5_slotAt_14 : decode cX5_slotAt 14 = .ok (.getfield 11, 3) := by decide +kernel
theorem dX5_slotAt_17 : decode cX5_slotAt 17 = .ok (.iload_n 1, 1) := by decide +kernel
theorem dX5_slotAt_18 : decode cX5_slotAt 18 = .ok (.aaload, 1) := by decide +kernel
theorem dX5_slotAt_19 : decode cX5_slotAt 19 = .ok (.goto 4, 3) := by decide +kernel
theorem dX5_slotAt_22 : decode cX5_slotAt 22 = .ok (.aconst_null, 1) := by decide +kernel
theorem dX5_slotAt_23 : decode cX5_slotAt 23 = .ok (.areturn, 1) := by decide +kernel
theorem dX6_init_0 : decode cX6_init 0 = .ok (.aload_n 0, 1) := by decide +kernel
theorem dX6_init_1 : decode cX6_init 1 = .ok (.invokespecial 1, 3) := by decide +kernel
theorem dX6_init_4 : decode cX6_init 4 = .ok (.aload_n 0, 1) := by decide +kernel
theorem dX6_init_5 : decode cX6_init 5 = .ok (.iload_n 1, 1) := by decide +kernel
theorem dX6_init_6 : decode cX6_init 6 = .ok (.ifCond .ge 7, 3) := by decide +kernel
theorem dX6_init_9 : decode cX6_init 9 = .ok (.iconst 0, 1) := by decide +kernel
theorem dX6_init_10 : decode cX6_init 10 = .ok (.goto 4, 3) := by decide +kernel
theorem dX6_init_13 : decode cX6_init 13 = .ok (.iload_n 1, 1) := by decide +kernel
theorem dX6_init_14 : decode cX6_init 14 = .ok (.newarray .int, 2) := by decide +kernel
theorem dX6_init_16 : decode cX6_init 16 = .ok (.putfield 7, 3) := by decide +kernel
theorem dX6_init_19 : decode cX6_init 19 = .ok (.return_, 1) := by decide +kernel
theorem dX6_at_0 : decode cX6_at 0 = .ok (.iload_n 1, 1) := by decide +kernel
theorem dX6_at_1 : decode cX6_at 1 = .ok (.ifCond .lt 21, 3) := by decide +kernel
theorem dX6_at_4 : decode cX6_at 4 = .ok (.iload_n 1, 1) := by decide +kernel
theorem dX6_at_5 : decode cX6_at 5 = .ok (.aload_n 0, 1) := by decide +kernel
theorem dX6_at_6 : decode cX6_at 6 = .ok (.getfield 7, 3) := by decide +kernel
theorem dX6_at_9 : decode cX6_at 9 = .ok (.arraylength, 1) := by decide +kernel
theorem dX6_at_10 : decode cX6_at 10 = .ok (.if_icmp .ge 12, 3) := by decide +kernel
theorem dX6_at_13 : decode cX6_at 13 = .ok (.aload_n 0, 1) := by decide +kernel
theorem dX6_at_14 : decode cX6_at 14 = .ok (.getfield 7, 3) := by decide +kernel
theorem dX6_at_17 : decode cX6_at 17 = .ok (.iload_n 1, 1) := by decide +kernel
theorem dX6_at_18 : decode cX6_at 18 = .ok (.iaload, 1) := by decide +kernel
theorem dX6_at_19 : decode cX6_at 19 = .ok (.goto 4, 3) := by decide +kernel
theorem dX6_at_22 : decode cX6_at 22 = .ok (.iconst 0, 1) := by decide +kernel
theorem dX6_at_23 : decode cX6_at 23 = .ok (.ireturn, 1) := by decide +kernel
theorem dX6_put_0 : decode cX6_put 0 = .ok (.iload_n 1, 1) := by decide +kernel
theorem dX6_put_1 : decode cX6_put 1 = .ok (.ifCond .lt 19, 3) := by decide +kernel
theorem dX6_put_4 : decode cX6_put 4 = .ok (.iload_n 1, 1) := by decide +kernel
theorem dX6_put_5 : decode cX6_put 5 = .ok (.aload_n 0, 1) := by decide +kernel
theorem dX6_put_6 : decode cX6_put 6 = .ok (.getfield 7, 3) := by decide +kernel
theorem dX6_put_9 : decode cX6_put 9 = .ok (.arraylength, 1) := by decide +kernel
theorem dX6_put_10 : decode cX6_put 10 = .ok (.if_icmp .ge 10, 3) := by decide +kernel
theorem dX6_put_13 : decode cX6_put 13 = .ok (.aload_n 0, 1) := by decide +kernel
theorem dX6_put_14 : decode cX6_put 14 = .ok (.getfield 7, 3) := by decide +kernel
theorem dX6_put_17 : decode cX6_put 17 = .ok (.iload_n 1, 1) := by decide +kernel
theorem dX6_put_18 : decode cX6_put 18 = .ok (.iload_n 2, 1) := by decide +kernel
theorem dX6_put_19 : decode cX6_put 19 = .ok (.iastore, 1) := by decide +kernel
theorem dX6_put_20 : decode cX6_put 20 = .ok (.return_, 1) := by decide +kernel
set_option maxRecDepth 20000 in
theorem ggX6_fill_J7_fill_53178 : GoodIn wsX6_fill wsJ7_fill_53178 := goodIn_r _ [5] (by decide +kernel) (by decide +kernel)
set_option maxRecDepth 20000 in
theorem gX6_fill_J7_fill_53178 : GoodIn wsX6_fill (va_wsS RX6 13 yJ7_fill_53178 wsJ7_fill_53178) := goodIn_app (goodIn_of _ (by decide +kernel)) ggX6_fill_J7_fill_53178
theorem dX6_fill_0 : decode cX6_fill 0 = .ok (.aload_n 0, 1) := by decide +kernel
theorem dX6_fill_1 : decode cX6_fill 1 = .ok (.getfield 7, 3) := by decide +kernel
theorem dX6_fill_4 : decode cX6_fill 4 = .ok (.iload_n 1, 1) := by decide +kernel
theorem dX6_fill_5 : decode cX6_fill 5 = .ok (.invokestatic 13, 3) := by decide +kernel
theorem dX6_fill_8 : decode cX6_fill 8 = .ok (.return_, 1) := by decide +kernel
theorem dX6_copyFrom_0 : decode cX6_copyFrom 0 = .ok (.iconst 0, 1) := by decide +kernel
theorem dX6_copyFrom_1 : decode cX6_copyFrom 1 = .ok (.istore_n 2, 1) := by decide +kernel
theorem dX6_copyFrom_2 : decode cX6_copyFrom 2 = .ok (.iload_n 2, 1) := by decide +kernel
theorem dX6_copyFrom_3 : decode cX6_copyFrom 3 = .ok (.aload_n 0, 1) := by decide +kernel
theorem dX6_copyFrom_4 : decode cX6_copyFrom 4 = .ok (.getfield 7, 3) := by decide +kernel
theorem dX6_copyFrom_7 : decode cX6_copyFrom 7 = .ok (.arraylength, 1) := by decide +kernel
theorem dX6_copyFrom_8 : decode cX6_copyFrom 8 = .ok (.if_icmp .ge 30, 3) := by decide +kernel
theorem dX6_copyFrom_11 : decode cX6_copyFrom 11 = .ok (.iload_n 2, 1) := by decide +kernel
theorem dX6_copyFrom_12 : decode cX6_copyFrom 12 = .ok (.aload_n 1, 1) := by decide +kernel
theorem dX6_copyFrom_13 : decode cX6_copyFrom 13 = .ok (.getfield 7, 3) := by decide +kernel
theorem dX6_copyFrom_16 : decode cX6_copyFrom 16 = .ok (.arraylength, 1) := by decide +kernel
theorem dX6_copyFrom_17 : decode cX6_copyFrom 17 = .ok (.if_icmp .ge 21, 3) := by decide +kernel
theorem dX6_copyFrom_20 : decode cX6_copyFrom 20 = .ok (.aload_n 0, 1) := by decide +kernel
theorem dX6_copyFrom_21 : decode cX6_copyFrom 21 = .ok (.getfield 7, 3) := by decide +kernel
theorem dX6_copyFrom_24 : decode cX6_copyFrom 24 = .ok (.iload_n 2, 1) := by decide +kernel
theorem dX6_copyFrom_25 : decode cX6_copyFrom 25 = .ok (.aload_n 1, 1) := by decide +kernel
theorem dX6_copyFrom_26 : decode cX6_copyFrom 26 = .ok (.getfield 7, 3) := by decide +kernel
theorem dX6_copyFrom_29 : decode cX6_copyFrom 29 = .ok (.iload_n 2, 1) := by decide +kernel
theorem dX6_copyFrom_30 : decode cX6_copyFrom 30 = .ok (.iaload, 1) := by decide +kernel
theorem dX6_copyFrom_31 : decode cX6_copyFrom 31 = .ok (.iastore, 1) := by decide +kernel
theorem dX6_copyFrom_32 : decode cX6_copyFrom 32 = .ok (.iinc 2 1, 3) := by decide +kernel
theorem dX6_copyFrom_35 : decode cX6_copyFrom 35 = .ok (.goto (-33), 3) := by decide +kernel
theorem dX6_copyFrom_38 : decode cX6_copyFrom 38 = .ok (.return_, 1) := by decide +kernel
theorem dX7_init_0 : decode cX7_init 0 = .ok (.aload_n 0, 1) := by decide +kernel
theorem dX7_init_1 : decode cX7_init 1 = .ok (.invokespecial 3, 3) := by decide +kernel
theorem dX7_init_4 : decode cX7_init 4 = .ok (.aload_n 0, 1) := by decide +kernel
theorem dX7_init_5 : decode cX7_init 5 = .ok (.bipush 40, 2) := by decide +kernel
theorem dX7_init_7 : decode cX7_init 7 = .ok (.newarray .long, 2) := by decide +kernel
theorem dX7_init_9 : decode cX7_init 9 = .ok (.putfield 9, 3) := by decide +kernel
theorem dX7_init_12 : decode cX7_init 12 = .ok (.return_, 1) := by decide +kernel
theorem dX7_word_0 : decode cX7_word 0 = .ok (.iload_n 1, 1) := by decide +kernel
theorem dX7_word_1 : decode cX7_word 1 = .ok (.bipush 8, 2) := by decide +kernel
theorem dX7_word_3 : decode cX7_word 3 = .ok (.imul, 1) := by decide +kernel
theorem dX7_word_4 : decode cX7_word 4 = .ok (.iload_n 2, 1) := by decide +kernel
theorem dX7_word_5 : decode cX7_word 5 = .ok (.iadd, 1) := by decide +kernel
theorem dX7_word_6 : decode cX7_word 6 = .ok (.istore_n 3, 1) := by decide +kernel
theorem dX7_word_7 : decode cX7_word 7 = .ok (.iload_n 3, 1) := by decide +kernel
theorem dX7_word_8 : decode cX7_word 8 = .ok (.ifCond .lt 21, 3) := by decide +kernel
theorem dX7_word_11 : decode cX7_word 11 = .ok (.iload_n 3, 1) := by decide +kernel
theorem dX7_word_12 : decode cX7_word 12 = .ok (.aload_n 0, 1) := by decide +kernel
theorem dX7_word_13 : decode cX7_word 13 = .ok (.getfield 9, 3) := by decide +kernel
theorem dX7_word_16 : decode cX7_word 16 = .ok (.arraylength, 1) := by decide +kernel
theorem dX7_word_17 : decode cX7_word 17 = .ok (.if_icmp .ge 12, 3) := by decide +kernel
theorem dX7_word_20 : decode cX7_word 20 = .ok (.aload_n 0, 1) := by decide +kernel
theorem dX7_word_21 : decode cX7_word 21 = .ok (.getfield 9, 3) := by decide +kernel
theorem dX7_word_24 : decode cX7_word 24 = .ok (.iload_n 3, 1) := by decide +kernel
theorem dX7_word_25 : decode cX7_word 25 = .ok (.laload, 1) := by decide +kernel
theorem dX7_word_26 : decode cX7_word 26 = .ok (.goto 4, 3) := by decide +kernel
theorem dX7_word_29 : decode cX7_word 29 = .ok (.lconst 0, 1) := by decide +kernel
theorem dX7_word_30 : decode cX7_word 30 = .ok (.lreturn, 1) := by decide +kernel
theorem dX7_has_0 : decode cX7_has 0 = .ok (.iload_n 1, 1) := by decide +kernel
theorem dX7_has_1 : decode cX7_has 1 = .ok (.bipush 8, 2) := by decide +kernel
theorem dX7_has_3 : decode cX7_has 3 = .ok (.imul, 1) := by decide +kernel
theorem dX7_has_4 : decode cX7_has 4 = .ok (.iload_n 2, 1) := by decide +kernel
theorem dX7_has_5 : decode cX7_has 5 = .ok (.bipush 6, 2) := by decide +kernel
theorem dX7_has_7 : decode cX7_has 7 = .ok (.ishr, 1) := by decide +kernel
theorem dX7_has_8 : decode cX7_has 8 = .ok (.iadd, 1) := by decide +kernel
theorem dX7_has_9 : decode cX7_has 9 = .ok (.istore_n 3, 1) := by decide +kernel
theorem dX7_has_10 : decode cX7_has 10 = .ok (.iload_n 3, 1) := by decide +kernel
theorem dX7_has_11 : decode cX7_has 11 = .ok (.ifCond .lt 34, 3) := by decide +kernel
theorem dX7_has_14 : decode cX7_has 14 = .ok (.iload_n 3, 1) := by decide +kernel
theorem dX7_has_15 : decode cX7_has 15 = .ok (.aload_n 0, 1) := by decide +kernel
theorem dX7_has_16 : decode cX7_has 16 = .ok (.getfield 9, 3) := by decide +kernel
theorem dX7_has_19 : decode cX7_has 19 = .ok (.arraylength, 1) := by decide +kernel
theorem dX7_has_20 : decode cX7_has 20 = .ok (.if_icmp .ge 25, 3) := by decide +kernel
theorem dX7_has_23 : decode cX7_has 23 = .ok (.aload_n 0, 1) := by decide +kernel
theorem dX7_has_24 : decode cX7_has 24 = .ok (.getfield 9, 3) := by decide +kernel
theorem dX7_has_27 : decode cX7_has 27 = .ok (.iload_n 3, 1) := by decide +kernel
theorem dX7_has_28 : decode cX7_has 28 = .ok (.laload, 1) := by decide +kernel
theorem dX7_has_29 : decode cX7_has 29 = .ok (.iload_n 2, 1) := by decide +kernel
theorem dX7_has_30 : decode cX7_has 30 = .ok (.bipush 63, 2) := by decide +kernel
theorem dX7_has_32 : decode cX7_has 32 = .ok (.iand, 1) := by decide +kernel
theorem dX7_has_33 : decode cX7_has 33 = .ok (.lshr, 1) := by decide +kernel
theorem dX7_has_34 : decode cX7_has 34 = .ok (.lconst 1, 1) := by decide +kernel
theorem dX7_has_35 : decode cX7_has 35 = .ok (.land, 1) := by decide +kernel
theorem dX7_has_36 : decode cX7_has 36 = .ok (.lconst 0, 1) := by decide +kernel
theorem dX7_has_37 : decode cX7_has 37 = .ok (.lcmp, 1) := by decide +kernel
theorem dX7_has_38 : decode cX7_has 38 = .ok (.ifCond .eq 7, 3) := by decide +kernel
theorem dX7_has_41 : decode cX7_has 41 = .ok (.iconst 1, 1) := by decide +kernel
theorem dX7_has_42 : decode cX7_has 42 = .ok (.goto 4, 3) := by decide +kernel
theorem dX7_has_45 : decode cX7_has 45 = .ok (.iconst 0, 1) := by decide +kernel
theorem dX7_has_46 : decode cX7_has 46 = .ok (.ireturn, 1) := by decide +kernel
theorem dX7_add_0 : decode cX7_add 0 = .ok (.iload_n 1, 1) := by decide +kernel
theorem dX7_add_1 : decode cX7_add 1 = .ok (.bipush 8, 2) := by decide +kernel
theorem dX7_add_3 : decode cX7_add 3 = .ok (.imul, 1) := by decide +kernel
theorem dX7_add_4 : decode cX7_add 4 = .ok (.iload_n 2, 1) := by decide +kernel
theorem dX7_add_5 : decode cX7_add 5 = .ok (.bipush 6, 2) := by decide +kernel
theorem dX7_add_7 : decode cX7_add 7 = .ok (.ishr, 1) := by decide +kernel
theorem dX7_add_8 : decode cX7_add 8 = .ok (.iadd, 1) := by decide +kernel
theorem dX7_add_9 : decode cX7_add 9 = .ok (.istore_n 3, 1) := by decide +kernel
theorem dX7_add_10 : decode cX7_add 10 = .ok (.iload_n 3, 1) := by decide +kernel
theorem dX7_add_11 : decode cX7_add 11 = .ok (.ifCond .lt 27, 3) := by decide +kernel
theorem dX7_add_14 : decode cX7_add 14 = .ok (.iload_n 3, 1) := by decide +kernel
theorem dX7_add_15 : decode cX7_add 15 = .ok (.aload_n 0, 1) := by decide +kernel
theorem dX7_add_16 : decode cX7_add 16 = .ok (.getfield 9, 3) := by decide +kernel
theorem dX7_add_19 : decode cX7_add 19 = .ok (.arraylength, 1) := by decide +kernel
theorem dX7_add_20 : decode cX7_add 20 = .ok (.if_icmp .ge 18, 3) := by decide +kernel
theorem dX7_add_23 : decode cX7_add 23 = .ok (.aload_n 0, 1) := by decide +kernel
theorem dX7_add_24 : decode cX7_add 24 = .ok (.getfield 9, 3) := by decide +kernel
theorem dX7_add_27 : decode cX7_add 27 = .ok (.iload_n 3, 1) := by decide +kernel
theorem dX7_add_28 : decode cX7_add 28 = .ok (.dup2, 1) := by decide +kernel
theorem dX7_add_29 : decode cX7_add 29 = .ok (.laload, 1) := by decide +kernel
theorem dX7_add_30 : decode cX7_add 30 = .ok (.lconst 1, 1) := by decide +kernel
theorem dX7_add_31 : decode cX7_add 31 = .ok (.iload_n 2, 1) := by decide +kernel
theorem dX7_add_32 : decode cX7_add 32 = .ok (.bipush 63, 2) := by decide +kernel
theorem dX7_add_34 : decode cX7_add 34 = .ok (.iand, 1) := by decide +kernel
theorem dX7_add_35 : decode cX7_add 35 = .ok (.lshl, 1) := by decide +kernel
theorem dX7_add_36 : decode cX7_add 36 = .ok (.lor, 1) := by decide +kernel
theorem dX7_add_37 : decode cX7_add 37 = .ok (.lastore, 1) := by decide +kernel
theorem dX7_add_38 : decode cX7_add 38 = .ok (.return_, 1) := by decide +kernel
theorem dX7_remove_0 : decode cX7_remove 0 = .ok (.iload_n 1, 1) := by decide +kernel
theorem dX7_remove_1 : decode cX7_remove 1 = .ok (.bipush 8, 2) := by decide +kernel
theorem dX7_remove_3 : decode cX7_remove 3 = .ok (.imul, 1) := by decide +kernel
theorem dX7_remove_4 : decode cX7_remove 4 = .ok (.iload_n 2, 1) := by decide +kernel
theorem dX7_remove_5 : decode cX7_remove 5 = .ok (.bipush 6, 2) := by decide +kernel
theorem dX7_remove_7 : decode cX7_remove 7 = .ok (.ishr, 1) := by decide +kernel
theorem dX7_remove_8 : decode cX7_remove 8 = .ok (.iadd, 1) := by decide +kernel
theorem dX7_remove_9 : decode cX7_remove 9 = .ok (.istore_n 3, 1) := by decide +kernel
theorem dX7_remove_10 : decode cX7_remove 10 = .ok (.iload_n 3, 1) := by decide +kernel
theorem dX7_remove_11 : decode cX7_remove 11 = .ok (.ifCond .lt 31, 3) := by decide +kernel
theorem dX7_remove_14 : decode cX7_remove 14 = .ok (.iload_n 3, 1) := by decide +kernel
theorem dX7_remove_15 : decode cX7_remove 15 = .ok (.aload_n 0, 1) := by decide +kernel
theorem dX7_remove_16 : decode cX7_remove 16 = .ok (.getfield 9, 3) := by decide +kernel
theorem dX7_remove_19 : decode cX7_remove 19 = .ok (.arraylength, 1) := by decide +kernel
theorem dX7_remove_20 : decode cX7_remove 20 = .ok (.if_icmp .ge 22, 3) := by decide +kernel
theorem dX7_remove_23 : decode cX7_remove 23 = .ok (.aload_n 0, 1) := by decide +kernel
theorem dX7_remove_24 : decode cX7_remove 24 = .ok (.getfield 9, 3) := by decide +kernel
theorem dX7_remove_27 : decode cX7_remove 27 = .ok (.iload_n 3, 1) := by decide +kernel
theorem dX7_remove_28 : decode cX7_remove 28 = .ok (.dup2, 1) := by decide +kernel
theorem dX7_remove_29 : decode cX7_remove 29 = .ok (.laload, 1) := by decide +kernel
theorem dX7_remove_30 : decode cX7_remove 30 = .ok (.lconst 1, 1) := by decide +kernel
theorem dX7_remove_31 : decode cX7_remove 31 = .ok (.iload_n 2, 1) := by decide +kernel
theorem dX7_remove_32 : decode cX7_remove 32 = .ok (.bipush 63, 2) := by decide +kernel
theorem dX7_remove_34 : decode cX7_remove 34 = .ok (.iand, 1) := by decide +kernel
theorem dX7_remove_35 : decode cX7_remove 35 = .ok (.lshl, 1) := by decide +kernel
theorem dX7_remove_36 : decode cX7_remove 36 = .ok (.ldc2_w 15, 3) := by decide +kernel
theorem dX7_remove_39 : decode cX7_remove 39 = .ok (.lxor, 1) := by decide +kernel
theorem dX7_remove_40 : decode cX7_remove 40 = .ok (.land, 1) := by decide +kernel
theorem dX7_remove_41 : decode cX7_remove 41 = .ok (.lastore, 1) := by decide +kernel
theorem dX7_remove_42 : decode cX7_remove 42 = .ok (.return_, 1) := by decide +kernel
set_option maxRecDepth 20000 in
theorem ggX7_clear_J7_fill_d0a16 : GoodIn wsX7_clear wsJ7_fill_d0a16 := goodIn_r _ [5] (by decide +kernel) (by decide +kernel)
set_option maxRecDepth 20000 in
theorem gX7_clear_J7_fill_d0a16 : GoodIn wsX7_clear (va_wsS RX7 17 yJ7_fill_d0a16 wsJ7_fill_d0a16) := goodIn_app (goodIn_of _ (by decide +kernel)) ggX7_clear_J7_fill_d0a16
theorem dX7_clear_0 : decode cX7_clear 0 = .ok (.aload_n 0, 1) := by decide +kernel
theorem dX7_clear_1 : decode cX7_clear 1 = .ok (.getfield 9, 3) := by decide +kernel
theorem dX7_clear_4 : decode cX7_clear 4 = .ok (.lconst 0, 1) := by decide +kernel
theorem dX7_clear_5 : decode cX7_clear 5 = .ok (.invokestatic 17, 3) := by decide +kernel
theorem dX7_clear_8 : decode cX7_clear 8 = .ok (.return_, 1) := by decide +kernel
theorem dX7_copyFrom_0 : decode cX7_copyFrom 0 = .ok (.iconst 0, 1) := by decide +kernel
theorem dX7_copyFrom_1 : decode cX7_copyFrom 1 = .ok (.istore_n 2, 1) := by decide +kernel
theorem dX7_copyFrom_2 : decode cX7_copyFrom 2 = .ok (.iload_n 2, 1) := by decide +kernel
theorem dX7_copyFrom_3 : decode cX7_copyFrom 3 = .ok (.aload_n 0, 1) := by decide +kernel
theorem dX7_copyFrom_4 : decode cX7_copyFrom 4 = .ok (.getfield 9, 3) := by decide +kernel
theorem dX7_copyFrom_7 : decode cX7_copyFrom 7 = .ok (.arraylength, 1) := by decide +kernel
theorem dX7_copyFrom_8 : decode cX7_copyFrom 8 = .ok (.if_icmp .ge 30, 3) := by decide +kernel
theorem dX7_copyFrom_11 : decode cX7_copyFrom 11 = .ok (.iload_n 2, 1) := by decide +kernel
theorem dX7_copyFrom_12 : decode cX7_copyFrom 12 = .ok (.aload_n 1, 1) := by decide +kernel
theorem dX7_copyFrom_13 : decode cX7_copyFrom 13 = .ok (.getfield 9, 3) := by decide +kernel
theorem dX7_copyFrom_16 : decode cX7_copyFrom 16 = .ok (.arraylength, 1) := by decide +kernel
theorem dX7_copyFrom_17 : decode cX7_copyFrom 17 = .ok (.if_icmp .ge 21, 3) := by decide +kernel
theorem dX7_copyFrom_20 : decode cX7_copyFrom 20 = .ok (.aload_n 0, 1) := by decide +kernel
theorem dX7_copyFrom_21 : decode cX7_copyFrom 21 = .ok (.getfield 9, 3) := by decide +kernel
theorem dX7_copyFrom_24 : decode cX7_copyFrom 24 = .ok (.iload_n 2, 1) := by decide +kernel
theorem dX7_copyFrom_25 : decode cX7_copyFrom 25 = .ok (.aload_n 1, 1) := by decide +kernel
theorem dX7_copyFrom_26 : decode cX7_copyFrom 26 = .ok (.getfield 9, 3) := by decide +kernel
theorem dX7_copyFrom_29 : decode cX7_copyFrom 29 = .ok (.iload_n 2, 1) := by decide +kernel
theorem dX7_copyFrom_30 : decode cX7_copyFrom 30 = .ok (.laload, 1) := by decide +kernel
theorem dX7_copyFrom_31 : decode cX7_copyFrom 31 = .ok (.lastore, 1) := by decide +kernel
theorem dX7_copyFrom_32 : decode cX7_copyFrom 32 = .ok (.iinc 2 1, 3) := by decide +kernel
theorem dX7_copyFrom_35 : decode cX7_copyFrom 35 = .ok (.goto (-33), 3) := by decide +kernel
theorem dX7_copyFrom_38 : decode cX7_copyFrom 38 = .ok (.return_, 1) := by decide +kernel
theorem dX7_take_0 : decode cX7_take 0 = .ok (.iconst 0, 1) := by decide +kernel
theorem dX7_take_1 : decode cX7_take 1 = .ok (.istore_n 2, 1) := by decide +kernel
theorem dX7_take_2 : decode cX7_take 2 = .ok (.iconst 0, 1) := by decide +kernel
theorem dX7_take_3 : decode cX7_take 3 = .ok (.istore_n 3, 1) := by decide +kernel
theorem dX7_take_4 : decode cX7_take 4 = .ok (.iload_n 3, 1) := by decide +kernel
theorem dX7_take_5 : decode cX7_take 5 = .ok (.aload_n 0, 1) := by decide +kernel
theorem dX7_take_6 : decode cX7_take 6 = .ok (.getfield 9, 3) := by decide +kernel
theorem dX7_take_9 : decode cX7_take 9 = .ok (.arraylength, 1) := by decide +kernel
theorem dX7_take_10 : decode cX7_take 10 = .ok (.if_icmp .ge 61, 3) := by decide +kernel
theorem dX7_take_13 : decode cX7_take 13 = .ok (.iload_n 3, 1) := by decide +kernel
theorem dX7_take_14 : decode cX7_take 14 = .ok (.aload_n 1, 1) := by decide +kernel
theorem dX7_take_15 : decode cX7_take 15 = .ok (.getfield 9, 3) := by decide +kernel
theorem dX7_take_18 : decode cX7_take 18 = .ok (.arraylength, 1) := by decide +kernel
theorem dX7_take_19 : decode cX7_take 19 = .ok (.if_icmp .ge 52, 3) := by decide +kernel
theorem dX7_take_22 : decode cX7_take 22 = .ok (.aload_n 0, 1) := by decide +kernel
theorem dX7_take_23 : decode cX7_take 23 = .ok (.getfield 9, 3) := by decide +kernel
theorem dX7_take_26 : decode cX7_take 26 = .ok (.iload_n 3, 1) := by decide +kernel
theorem dX7_take_27 : decode cX7_take 27 = .ok (.laload, 1) := by decide +kernel
theorem dX7_take_28 : decode cX7_take 28 = .ok (.aload_n 1, 1) := by decide +kernel
theorem dX7_take_29 : decode cX7_take 29 = .ok (.getfield 9, 3) := by decide +kernel
theorem dX7_take_32 : decode cX7_take 32 = .ok (.iload_n 3, 1) := by decide +kernel
theorem dX7_take_33 : decode cX7_take 33 = .ok (.laload, 1) := by decide +kernel
theorem dX7_take_34 : decode cX7_take 34 = .ok (.lor, 1) := by decide +kernel
theorem dX7_take_35 : decode cX7_take 35 = .ok (.lstore 4, 2) := by decide +kernel
theorem dX7_take_37 : decode cX7_take 37 = .ok (.iload_n 2, 1) := by decide +kernel
theorem dX7_take_38 : decode cX7_take 38 = .ok (.lload 4, 2) := by decide +kernel
theorem dX7_take_40 : decode cX7_take 40 = .ok (.aload_n 0, 1) := by decide +kernel
theorem dX7_take_41 : decode cX7_take 41 = .ok (.getfield 9, 3) := by decide +kernel
theorem dX7_take_44 : decode cX7_take 44 = .ok (.iload_n 3, 1) := by decide +kernel
theorem dX7_take_45 : decode cX7_take 45 = .ok (.laload, 1) := by decide +kernel
theorem dX7_take_46 : decode cX7_take 46 = .ok (.lcmp, 1) := by decide +kernel
theorem dX7_take_47 : decode cX7_take 47 = .ok (.ifCond .eq 7, 3) := by decide +kernel
theorem dX7_take_50 : decode cX7_take 50 = .ok (.iconst 1, 1) := by decide +kernel
theorem dX7_take_51 : decode cX7_take 51 = .ok (.goto 4, 3) := by decide +kernel
theorem dX7_take_54 : decode cX7_take 54 = .ok (.iconst 0, 1) := by decide +kernel
theorem dX7_take_55 : decode cX7_take 55 = .ok (.ior, 1) := by decide +kernel
theorem dX7_take_56 : decode cX7_take 56 = .ok (.istore_n 2, 1) := by decide +kernel
theorem dX7_take_57 : decode cX7_take 57 = .ok (.aload_n 0, 1) := by decide +kernel
theorem dX7_take_58 : decode cX7_take 58 = .ok (.getfield 9, 3) := by decide +kernel
theorem dX7_take_61 : decode cX7_take 61 = .ok (.iload_n 3, 1) := by decide +kernel
theorem dX7_take_62 : decode cX7_take 62 = .ok (.lload 4, 2) := by decide +kernel
theorem dX7_take_64 : decode cX7_take 64 = .ok (.lastore, 1) := by decide +kernel
theorem dX7_take_65 : decode cX7_take 65 = .ok (.iinc 3 1, 3) := by decide +kernel
theorem dX7_take_68 : decode cX7_take 68 = .ok (.goto (-64), 3) := by decide +kernel
theorem dX7_take_71 : decode cX7_take 71 = .ok (.iload_n 2, 1) := by decide +kernel
theorem dX7_take_72 : decode cX7_take 72 = .ok (.ireturn, 1) := by decide +kernel
set_option maxRecDepth 20000 in
theorem ggX7_keepOnly_X7_word : GoodIn wsX7_keepOnly wsX7_word := goodIn_r _ [6, 1, 7] (by decide +kernel) (by decide +kernel)
set_option maxRecDepth 20000 in
theorem gX7_keepOnly_X7_word : GoodIn wsX7_keepOnly (wsV RX7 23 RX7 yX7_word wsX7_word) := goodIn_app (goodIn_of _ (by decide +kernel)) ggX7_keepOnly_X7_word
theorem dX7_keepOnly_0 : decode cX7_keepOnly 0 = .ok (.iconst 0, 1) := by decide +kernel
theorem dX7_keepOnly_1 : decode cX7_keepOnly 1 = .ok (.istore_n 3, 1) := by decide +kernel
theorem dX7_keepOnly_2 : decode cX7_keepOnly 2 = .ok (.iload_n 3, 1) := by decide +kernel
theorem dX7_keepOnly_3 : decode cX7_keepOnly 3 = .ok (.bipush 8, 2) := by decide +kernel
theorem dX7_keepOnly_5 : decode cX7_keepOnly 5 = .ok (.if_icmp .ge 48, 3) := by decide +kernel
theorem dX7_keepOnly_8 : decode cX7_keepOnly 8 = .ok (.iload_n 1, 1) := by decide +kernel
theorem dX7_keepOnly_9 : decode cX7_keepOnly 9 = .ok (.bipush 8, 2) := by decide +kernel
theorem dX7_keepOnly_11 : decode cX7_keepOnly 11 = .ok (.imul, 1) := by decide +kernel
theorem dX7_keepOnly_12 : decode cX7_keepOnly 12 = .ok (.iload_n 3, 1) := by decide +kernel
theorem dX7_keepOnly_13 : decode cX7_keepOnly 13 = .ok (.iadd, 1) := by decide +kernel
theorem dX7_keepOnly_14 : decode cX7_keepOnly 14 = .ok (.istore 4, 2) := by decide +kernel
theorem dX7_keepOnly_16 : decode cX7_keepOnly 16 = .ok (.iload 4, 2) := by decide +kernel
theorem dX7_keepOnly_18 : decode cX7_keepOnly 18 = .ok (.ifCond .lt 29, 3) := by decide +kernel
theorem dX7_keepOnly_21 : decode cX7_keepOnly 21 = .ok (.iload 4, 2) := by decide +kernel
theorem dX7_keepOnly_23 : decode cX7_keepOnly 23 = .ok (.aload_n 0, 1) := by decide +kernel
theorem dX7_keepOnly_24 : decode cX7_keepOnly 24 = .ok (.getfield 9, 3) := by decide +kernel
theorem dX7_keepOnly_27 : decode cX7_keepOnly 27 = .ok (.arraylength, 1) := by decide +kernel
theorem dX7_keepOnly_28 : decode cX7_keepOnly 28 = .ok (.if_icmp .ge 19, 3) := by decide +kernel
theorem dX7_keepOnly_31 : decode cX7_keepOnly 31 = .ok (.aload_n 0, 1) := by decide +kernel
theorem dX7_keepOnly_32 : decode cX7_keepOnly 32 = .ok (.getfield 9, 3) := by decide +kernel
theorem dX7_keepOnly_35 : decode cX7_keepOnly 35 = .ok (.iload 4, 2) := by decide +kernel
theorem dX7_keepOnly_37 : decode cX7_keepOnly 37 = .ok (.dup2, 1) := by decide +kernel
theorem dX7_keepOnly_38 : decode cX7_keepOnly 38 = .ok (.laload, 1) := by decide +kernel
theorem dX7_keepOnly_39 : decode cX7_keepOnly 39 = .ok (.aload_n 2, 1) := by decide +kernel
theorem dX7_keepOnly_40 : decode cX7_keepOnly 40 = .ok (.iload_n 1, 1) := by decide +kernel
theorem dX7_keepOnly_41 : decode cX7_keepOnly 41 = .ok (.iload_n 3, 1) := by decide +kernel
theorem dX7_keepOnly_42 : decode cX7_keepOnly 42 = .ok (.invokevirtual 23, 3) := by decide +kernel
theorem dX7_keepOnly_45 : decode cX7_keepOnly 45 = .ok (.land, 1) := by decide +kernel
theorem dX7_keepOnly_46 : decode cX7_keepOnly 46 = .ok (.lastore, 1) := by decide +kernel
theorem dX7_keepOnly_47 : decode cX7_keepOnly 47 = .ok (.iinc 3 1, 3) := by decide +kernel
theorem dX7_keepOnly_50 : decode cX7_keepOnly 50 = .ok (.goto (-48), 3) := by decide +kernel
theorem dX7_keepOnly_53 : decode cX7_keepOnly 53 = .ok (.return_, 1) := by decide +kernel
set_option maxRecDepth 20000 in
theorem ggX7_size_X7_word : GoodIn wsX7_size wsX7_word := goodIn_r _ [5, 6, 14] (by decide +kernel) (by decide +kernel)
set_option maxRecDepth 20000 in
theorem gX7_size_X7_word : GoodIn wsX7_size (wsV RX7 23 RX7 yX7_word wsX7_word) := goodIn_app (goodIn_of _ (by decide +kernel)) ggX7_size_X7_word
set_option maxRecDepth 20000 in
theorem ggX7_size_J13_bitCount_95d88 : GoodIn wsX7_size wsJ13_bitCount_95d88 := goodIn_r _ [10, 11, 12, 13] (by decide +kernel) (by decide +kernel)
set_option maxRecDepth 20000 in
theorem gX7_size_J13_bitCount_95d88 : GoodIn wsX7_size (va_wsS RX7 27 yJ13_bitCount_95d88 wsJ13_bitCount_95d88) := goodIn_app (goodIn_of _ (by decide +kernel)) ggX7_size_J13_bitCount_95d88
theorem dX7_size_0 : decode cX7_size 0 = .ok (.iconst 0, 1) := by decide +kernel
theorem dX7_size_1 : decode cX7_size 1 = .ok (.istore_n 2, 1) := by decide +kernel
theorem dX7_size_2 : decode cX7_size 2 = .ok (.iconst 0, 1) := by decide +kernel
theorem dX7_size_3 : decode cX7_size 3 = .ok (.istore_n 3, 1) := by decide +kernel
theorem dX7_size_4 : decode cX7_size 4 = .ok (.iload_n 3, 1) := by decide +kernel
theorem dX7_size_5 : decode cX7_size 5 = .ok (.bipush 8, 2) := by decide +kernel
theorem dX7_size_7 : decode cX7_size 7 = .ok (.if_icmp .ge 21, 3) := by decide +kernel
theorem dX7_size_10 : decode cX7_size 10 = .ok (.iload_n 2, 1) := by decide +kernel
theorem dX7_size_11 : decode cX7_size 11 = .ok (.aload_n 0, 1) := by decide +kernel
theorem dX7_size_12 : decode cX7_size 12 = .ok (.iload_n 1, 1) := by decide +kernel
theorem dX7_size_13 : decode cX7_size 13 = .ok (.iload_n 3, 1) := by decide +kernel
theorem dX7_size_14 : decode cX7_size 14 = .ok (.invokevirtual 23, 3) := by decide +kernel
theorem dX7_size_17 : decode cX7_size 17 = .ok (.invokestatic 27, 3) := by decide +kernel
theorem dX7_size_20 : decode cX7_size 20 = .ok (.iadd, 1) := by decide +kernel
theorem dX7_size_21 : decode cX7_size 21 = .ok (.istore_n 2, 1) := by decide +kernel
theorem dX7_size_22 : decode cX7_size 22 = .ok (.iinc 3 1, 3) := by decide +kernel
theorem dX7_size_25 : decode cX7_size 25 = .ok (.goto (-21), 3) := by decide +kernel
theorem dX7_size_28 : decode cX7_size 28 = .ok (.iload_n 2, 1) := by decide +kernel
theorem dX7_size_29 : decode cX7_size 29 = .ok (.ireturn, 1) := by decide +kernel
set_option maxRecDepth 20000 in
theorem ggX7_countBelow_X7_has : GoodIn wsX7_countBelow wsX7_has := goodIn_r _ [5, 6, 7] (by decide +kernel) (by decide +kernel)
set_option maxRecDepth 20000 in
theorem gX7_countBelow_X7_has : GoodIn wsX7_countBelow (wsV RX7 33 RX7 yX7_has wsX7_has) := goodIn_app (goodIn_of _ (by decide +kernel)) ggX7_countBelow_X7_has
theorem dX7_countBelow_0 : decode cX7_countBelow 0 = .ok (.iconst 0, 1) := by decide +kernel
theorem dX7_countBelow_1 : decode cX7_countBelow 1 = .ok (.istore_n 3, 1) := by decide +kernel
theorem dX7_countBelow_2 : decode cX7_countBelow 2 = .ok (.iconst 0, 1) := by decide +kernel
theorem dX7_countBelow_3 : decode cX7_countBelow 3 = .ok (.istore 4, 2) := by decide +kernel
theorem dX7_countBelow_5 : decode cX7_countBelow 5 = .ok (.iload 4, 2) := by decide +kernel
theorem dX7_countBelow_7 : decode cX7_countBelow 7 = .ok (.iload_n 2, 1) := by decide +kernel
theorem dX7_countBelow_8 : decode cX7_countBelow 8 = .ok (.if_icmp .ge 35, 3) := by decide +kernel
theorem dX7_countBelow_11 : decode cX7_countBelow 11 = .ok (.iload 4, 2) := by decide +kernel
theorem dX7_countBelow_13 : decode cX7_countBelow 13 = .ok (.sipush 512, 3) := by decide +kernel
theorem dX7_countBelow_16 : decode cX7_countBelow 16 = .ok (.if_icmp .ge 27, 3) := by decide +kernel
theorem dX7_countBelow_19 : decode cX7_countBelow 19 = .ok (.iload_n 3, 1) := by decide +kernel
theorem dX7_countBelow_20 : decode cX7_countBelow 20 = .ok (.aload_n 0, 1) := by decide +kernel
theorem dX7_countBelow_21 : decode cX7_countBelow 21 = .ok (.iload_n 1, 1) := by decide +kernel
theorem dX7_countBelow_22 : decode cX7_countBelow 22 = .ok (.iload 4, 2) := by decide +kernel
theorem dX7_countBelow_24 : decode cX7_countBelow 24 = .ok (.invokevirtual 33, 3) := by decide +kernel
theorem dX7_countBelow_27 : decode cX7_countBelow 27 = .ok (.ifCond .eq 7, 3) := by decide +kernel
theorem dX7_countBelow_30 : decode cX7_countBelow 30 = .ok (.iconst 1, 1) := by decide +kernel
theorem dX7_countBelow_31 : decode cX7_countBelow 31 = .ok (.goto 4, 3) := by decide +kernel
theorem dX7_countBelow_34 : decode cX7_countBelow 34 = .ok (.iconst 0, 1) := by decide +kernel
theorem dX7_countBelow_35 : decode cX7_countBelow 35 = .ok (.iadd, 1) := by decide +kernel
theorem dX7_countBelow_36 : decode cX7_countBelow 36 = .ok (.istore_n 3, 1) := by decide +kernel
theorem dX7_countBelow_37 : decode cX7_countBelow 37 = .ok (.iinc 4 1, 3) := by decide +kernel
theorem dX7_countBelow_40 : decode cX7_countBelow 40 = .ok (.goto (-35), 3) := by decide +kernel
theorem dX7_countBelow_43 : decode cX7_countBelow 43 = .ok (.iload_n 3, 1) := by decide +kernel
theorem dX7_countBelow_44 : decode cX7_countBelow 44 = .ok (.ireturn, 1) := by decide +kernel
set_option maxRecDepth 20000 in
theorem ggX7_numbered_X7_has : GoodIn wsX7_numbered wsX7_has := goodIn_r _ [5, 6, 7] (by decide +kernel) (by decide +kernel)
set_option maxRecDepth 20000 in
theorem gX7_numbered_X7_has : GoodIn wsX7_numbered (wsV RX7 33 RX7 yX7_has wsX7_has) := goodIn_app (goodIn_of _ (by decide +kernel)) ggX7_numbered_X7_has
theorem dX7_numbered_0 : decode cX7_numbered 0 = .ok (.iload_n 2, 1) := by decide +kernel
theorem dX7_numbered_1 : decode cX7_numbered 1 = .ok (.istore_n 3, 1) := by decide +kernel
theorem dX7_numbered_2 : decode cX7_numbered 2 = .ok (.iconst 0, 1) := by decide +kernel
theorem dX7_numbered_3 : decode cX7_numbered 3 = .ok (.istore 4, 2) := by decide +kernel
theorem dX7_numbered_5 : decode cX7_numbered 5 = .ok (.iload 4, 2) := by decide +kernel
theorem dX7_numbered_7 : decode cX7_numbered 7 = .ok (.sipush 512, 3) := by decide +kernel
theorem dX7_numbered_10 : decode cX7_numbered 10 = .ok (.if_icmp .ge 29, 3) := by decide +kernel
theorem dX7_numbered_13 : decode cX7_numbered 13 = .ok (.aload_n 0, 1) := by decide +kernel
theorem dX7_numbered_14 : decode cX7_numbered 14 = .ok (.iload_n 1, 1) := by decide +kernel
theorem dX7_numbered_15 : decode cX7_numbered 15 = .ok (.iload 4, 2) := by decide +kernel
theorem dX7_numbered_17 : decode cX7_numbered 17 = .ok (.invokevirtual 33, 3) := by decide +kernel
theorem dX7_numbered_20 : decode cX7_numbered 20 = .ok (.ifCond .eq 13, 3) := by decide +kernel
theorem dX7_numbered_23 : decode cX7_numbered 23 = .ok (.iload_n 3, 1) := by decide +kernel
theorem dX7_numbered_24 : decode cX7_numbered 24 = .ok (.ifCond .ne 6, 3) := by decide +kernel
theorem dX7_numbered_27 : decode cX7_numbered 27 = .ok (.iload 4, 2) := by decide +kernel
theorem dX7_numbered_29 : decode cX7_numbered 29 = .ok (.ireturn, 1) := by decide +kernel
theorem dX7_numbered_30 : decode cX7_numbered 30 = .ok (.iinc 3 (-1), 3) := by decide +kernel
theorem dX7_numbered_33 : decode cX7_numbered 33 = .ok (.iinc 4 1, 3) := by decide +kernel
theorem dX7_numbered_36 : decode cX7_numbered 36 = .ok (.goto (-31), 3) := by decide +kernel
theorem dX7_numbered_39 : decode cX7_numbered 39 = .ok (.iconst 0, 1) := by decide +kernel
theorem dX7_numbered_40 : decode cX7_numbered 40 = .ok (.ireturn, 1) := by decide +kernel
set_option maxRecDepth 20000 in
theorem ggX8_init_X2_init : GoodIn wsX8_init wsX2_init := goodIn_r _ [18, 19, 2, 3, 20, 9, 10, 21, 22, 23, 24, 25, 26, 27, 43, 29, 30] (by decide +kernel) (by decide +kernel)
set_option maxRecDepth 20000 in
theorem gX8_init_X2_init_n11 : GoodIn wsX8_init (wsX2_init) := ggX8_init_X2_init
set_option maxRecDepth 20000 in
theorem ggX8_init_X6_init : GoodIn wsX8_init wsX6_init := goodIn_r _ [24, 25, 2, 3, 26, 27, 43] (by decide +kernel) (by decide +kernel)
set_option maxRecDepth 20000 in
theorem gX8_init_X6_init : GoodIn wsX8_init (wsX6_init) := ggX8_init_X6_init
theorem dX8_init_0 : decode cX8_init 0 = .ok (.aload_n 0, 1) := by decide +kernel
theorem dX8_init_1 : decode cX8_init 1 = .ok (.invokespecial 3, 3) := by decide +kernel
theorem dX8_init_4 : decode cX8_init 4 = .ok (.aload_n 0, 1) := by decide +kernel
theorem dX8_init_5 : decode cX8_init 5 = .ok (.new 9, 3) := by decide +kernel
theorem dX8_init_8 : decode cX8_init 8 = .ok (.dup, 1) := by decide +kernel
theorem dX8_init_9 : decode cX8_init 9 = .ok (.invokespecial 11, 3) := by decide +kernel
theorem dX8_init_12 : decode cX8_init 12 = .ok (.putfield 12, 3) := by decide +kernel
theorem dX8_init_15 : decode cX8_init 15 = .ok (.aload_n 0, 1) := by decide +kernel
theorem dX8_init_16 : decode cX8_init 16 = .ok (.new 18, 3) := by decide +kernel
theorem dX8_init_19 : decode cX8_init 19 = .ok (.dup, 1) := by decide +kernel
theorem dX8_init_20 : decode cX8_init 20 = .ok (.iconst 4, 1) := by decide +kernel
theorem dX8_init_21 : decode cX8_init 21 = .ok (.invokespecial 20, 3) := by decide +kernel
theorem dX8_init_24 : decode cX8_init 24 = .ok (.putfield 23, 3) := by decide +kernel
theorem dX8_init_27 : decode cX8_init 27 = .ok (.aload_n 0, 1) := by decide +kernel
theorem dX8_init_28 : decode cX8_init 28 = .ok (.new 18, 3) := by decide +kernel
theorem dX8_init_31 : decode cX8_init 31 = .ok (.dup, 1) := by decide +kernel
theorem dX8_init_32 : decode cX8_init 32 = .ok (.iconst 4, 1) := by decide +kernel
theorem dX8_init_33 : decode cX8_init 33 = .ok (.invokespecial 20, 3) := by decide +kernel
theorem dX8_init_36 : decode cX8_init 36 = .ok (.putfield 27, 3) := by decide +kernel
theorem dX8_init_39 : decode cX8_init 39 = .ok (.aload_n 0, 1) := by decide +kernel
theorem dX8_init_40 : decode cX8_init 40 = .ok (.new 18, 3) := by decide +kernel
theorem dX8_init_43 : decode cX8_init 43 = .ok (.dup, 1) := by decide +kernel
theorem dX8_init_44 : decode cX8_init 44 = .ok (.iconst 4, 1) := by decide +kernel
theorem dX8_init_45 : decode cX8_init 45 = .ok (.invokespecial 20, 3) := by decide +kernel
theorem dX8_init_48 : decode cX8_init 48 = .ok (.putfield 30, 3) := by decide +kernel
theorem dX8_init_51 : decode cX8_init 51 = .ok (.aload_n 0, 1) := by decide +kernel
theorem dX8_init_52 : decode cX8_init 52 = .ok (.new 18, 3) := by decide +kernel
theorem dX8_init_55 : decode cX8_init 55 = .ok (.dup, 1) := by decide +kernel
theorem dX8_init_56 : decode cX8_init 56 = .ok (.iconst 4, 1) := by decide +kernel
theorem dX8_init_57 : decode cX8_init 57 = .ok (.invokespecial 20, 3) := by decide +kernel
theorem dX8_init_60 : decode cX8_init 60 = .ok (.putfield 33, 3) := by decide +kernel
theorem dX8_init_63 : decode cX8_init 63 = .ok (.aload_n 0, 1) := by decide +kernel
theorem dX8_init_64 : decode cX8_init 64 = .ok (.new 18, 3) := by decide +kernel
theorem dX8_init_67 : decode cX8_init 67 = .ok (.dup, 1) := by decide +kernel
theorem dX8_init_68 : decode cX8_init 68 = .ok (.iconst 4, 1) := by decide +kernel
theorem dX8_init_69 : decode cX8_init 69 = .ok (.invokespecial 20, 3) := by decide +kernel
theorem dX8_init_72 : decode cX8_init 72 = .ok (.putfield 36, 3) := by decide +kernel
theorem dX8_init_75 : decode cX8_init 75 = .ok (.aload_n 0, 1) := by decide +kernel
theorem dX8_init_76 : decode cX8_init 76 = .ok (.new 18, 3) := by decide +kernel
theorem dX8_init_79 : decode cX8_init 79 = .ok (.dup, 1) := by decide +kernel
theorem dX8_init_80 : decode cX8_init 80 = .ok (.iconst 4, 1) := by decide +kernel
theorem dX8_init_81 : decode cX8_init 81 = .ok (.invokespecial 20, 3) := by decide +kernel
theorem dX8_init_84 : decode cX8_init 84 = .ok (.putfield 39, 3) := by decide +kernel
theorem dX8_init_87 : decode cX8_init 87 = .ok (.return_, 1) := by decide +kernel
set_option maxRecDepth 20000 in
theorem ggX8_start_X2_clear : GoodIn wsX8_start wsX2_clear := goodIn_r _ [13, 14, 79, 80] (by decide +kernel) (by decide +kernel)
set_option maxRecDepth 20000 in
theorem gX8_start_X2_clear : GoodIn wsX8_start (wsV RX8 42 RX2 yX2_clear wsX2_clear) := goodIn_app (goodIn_of _ (by decide +kernel)) ggX8_start_X2_clear
set_option maxRecDepth 20000 in
theorem ggX8_start_X2_at : GoodIn wsX8_start wsX2_at := goodIn_r _ [18, 19, 20, 21, 22, 23, 24, 25, 79, 80, 81] (by decide +kernel) (by decide +kernel)
set_option maxRecDepth 20000 in
theorem gX8_start_X2_at : GoodIn wsX8_start (wsV RX8 49 RX2 yX2_at wsX2_at) := goodIn_app (goodIn_of _ (by decide +kernel)) ggX8_start_X2_at
set_option maxRecDepth 20000 in
theorem ggX8_start_X1_isNot : GoodIn wsX8_start wsX1_isNot := goodIn_r _ [29, 30] (by decide +kernel) (by decide +kernel)
set_option maxRecDepth 20000 in
theorem gX8_start_X1_isNot : GoodIn wsX8_start (va_wsS RX8 53 yX1_isNot wsX1_isNot) := goodIn_app (goodIn_of _ (by decide +kernel)) ggX8_start_X1_isNot
set_option maxRecDepth 20000 in
theorem ggX8_start_X2_add : GoodIn wsX8_start wsX2_add := goodIn_r _ [34, 14, 19, 35, 36, 37, 23, 38, 25, 79, 80, 81] (by decide +kernel) (by decide +kernel)
set_option maxRecDepth 20000 in
theorem gX8_start_X2_add : GoodIn wsX8_start (wsV RX8 59 RX2 yX2_add wsX2_add) := goodIn_app (goodIn_of _ (by decide +kernel)) ggX8_start_X2_add
set_option maxRecDepth 20000 in
theorem ggX8_start_X2_variables : GoodIn wsX8_start wsX2_variables := goodIn_r _ [42, 14, 19, 20, 21, 22, 23, 24, 25, 43, 27, 28, 29, 30, 44, 45, 46, 79, 80, 81] (by decide +kernel) (by decide +kernel)
set_option maxRecDepth 20000 in
theorem gX8_start_X2_variables : GoodIn wsX8_start (wsV RX8 62 RX2 yX2_variables wsX2_variables) := goodIn_app (goodIn_of _ (by decide +kernel)) ggX8_start_X2_variables
set_option maxRecDepth 20000 in
theorem ggX8_start_X11_digitOf : GoodIn wsX8_start wsX11_digitOf := goodIn_r _ [49] (by decide +kernel) (by decide +kernel)
set_option maxRecDepth 20000 in
theorem gX8_start_X11_digitOf_n69 : GoodIn wsX8_start (wsX11_digitOf) := ggX8_start_X11_digitOf
set_option maxRecDepth 20000 in
theorem ggX8_start_X6_put : GoodIn wsX8_start wsX6_put := goodIn_r _ [38, 25, 81] (by decide +kernel) (by decide +kernel)
set_option maxRecDepth 20000 in
theorem gX8_start_X6_put : GoodIn wsX8_start (wsV RX8 73 RX6 yX6_put wsX6_put) := goodIn_app (goodIn_of _ (by decide +kernel)) ggX8_start_X6_put
set_option maxRecDepth 20000 in
theorem ggX8_start_X2_standing : GoodIn wsX8_start wsX2_standing := goodIn_r _ [54, 14, 19, 20, 21, 22, 23, 24, 25, 55, 56, 28, 57, 79, 80, 81] (by decide +kernel) (by decide +kernel)
set_option maxRecDepth 20000 in
theorem gX8_start_X2_standing : GoodIn wsX8_start (wsV RX8 77 RX2 yX2_standing wsX2_standing) := goodIn_app (goodIn_of _ (by decide +kernel)) ggX8_start_X2_standing
set_option maxRecDepth 20000 in
theorem ggX8_start_X8_beginVariable : GoodIn wsX8_start wsX8_beginVariable := goodIn_r _ [62, 8, 63, 64, 65, 66, 7, 50, 36, 37, 23, 38, 25, 67, 68, 69, 70, 71, 72, 73, 74, 75, 76, 77, 78, 81] (by decide +kernel) (by decide +kernel)
set_option maxRecDepth 20000 in
theorem gX8_start_X8_beginVariable : GoodIn wsX8_start (wsV RX8 92 RX8 yX8_beginVariable wsX8_beginVariable) := goodIn_app (goodIn_of _ (by decide +kernel)) ggX8_start_X8_beginVariable
theorem dX8_start_0 : decode cX8_start 0 = .ok (.aload_n 0, 1) := by decide +kernel
theorem dX8_start_1 : decode cX8_start 1 = .ok (.getfield 12, 3) := by decide +kernel
theorem dX8_start_4 : decode cX8_start 4 = .ok (.invokevirtual 42, 3) := by decide +kernel
theorem dX8_start_7 : decode cX8_start 7 = .ok (.iconst 0, 1) := by decide +kernel
theorem dX8_start_8 : decode cX8_start 8 = .ok (.istore_n 3, 1) := by decide +kernel
theorem dX8_start_9 : decode cX8_start 9 = .ok (.iload_n 3, 1) := by decide +kernel
theorem dX8_start_10 : decode cX8_start 10 = .ok (.aload_n 1, 1) := by decide +kernel
theorem dX8_start_11 : decode cX8_start 11 = .ok (.getfield 45, 3) := by decide +kernel
theorem dX8_start_14 : decode cX8_start 14 = .ok (.if_icmp .ge 32, 3) := by decide +kernel
theorem dX8_start_17 : decode cX8_start 17 = .ok (.aload_n 1, 1) := by decide +kernel
theorem dX8_start_18 : decode cX8_start 18 = .ok (.iload_n 3, 1) := by decide +kernel
theorem dX8_start_19 : decode cX8_start 19 = .ok (.invokevirtual 49, 3) := by decide +kernel
theorem dX8_start_22 : decode cX8_start 22 = .ok (.invokestatic 53, 3) := by decide +kernel
theorem dX8_start_25 : decode cX8_start 25 = .ok (.ifCond .ne 15, 3) := by decide +kernel
theorem dX8_start_28 : decode cX8_start 28 = .ok (.aload_n 0, 1) := by decide +kernel
theorem dX8_start_29 : decode cX8_start 29 = .ok (.getfield 12, 3) := by decide +kernel
theorem dX8_start_32 : decode cX8_start 32 = .ok (.aload_n 1, 1) := by decide +kernel
theorem dX8_start_33 : decode cX8_start 33 = .ok (.iload_n 3, 1) := by decide +kernel
theorem dX8_start_34 : decode cX8_start 34 = .ok (.invokevirtual 49, 3) := by decide +kernel
theorem dX8_start_37 : decode cX8_start 37 = .ok (.invokevirtual 59, 3) := by decide +kernel
theorem dX8_start_40 : decode cX8_start 40 = .ok (.iinc 3 1, 3) := by decide +kernel
theorem dX8_start_43 : decode cX8_start 43 = .ok (.goto (-34), 3) := by decide +kernel
theorem dX8_start_46 : decode cX8_start 46 = .ok (.aload_n 0, 1) := by decide +kernel
theorem dX8_start_47 : decode cX8_start 47 = .ok (.getfield 12, 3) := by decide +kernel
theorem dX8_start_50 : decode cX8_start 50 = .ok (.iconst 0, 1) := by decide +kernel
theorem dX8_start_51 : decode cX8_start 51 = .ok (.invokevirtual 62, 3) := by decide +kernel
theorem dX8_start_54 : decode cX8_start 54 = .ok (.istore_n 3, 1) := by decide +kernel
theorem dX8_start_55 : decode cX8_start 55 = .ok (.aload_n 0, 1) := by decide +kernel
theorem dX8_start_56 : decode cX8_start 56 = .ok (.iconst 0, 1) := by decide +kernel
theorem dX8_start_57 : decode cX8_start 57 = .ok (.putfield 66, 3) := by decide +kernel
theorem dX8_start_60 : decode cX8_start 60 = .ok (.iconst 0, 1) := by decide +kernel
theorem dX8_start_61 : decode cX8_start 61 = .ok (.istore 4, 2) := by decide +kernel
theorem dX8_start_63 : decode cX8_start 63 = .ok (.iload 4, 2) := by decide +kernel
theorem dX8_start_65 : decode cX8_start 65 = .ok (.iconst 4, 1) := by decide +kernel
theorem dX8_start_66 : decode cX8_start 66 = .ok (.if_icmp .ge 69, 3) := by decide +kernel
theorem dX8_start_69 : decode cX8_start 69 = .ok (.iload_n 2, 1) := by decide +kernel
theorem dX8_start_70 : decode cX8_start 70 = .ok (.iload 4, 2) := by decide +kernel
theorem dX8_start_72 : decode cX8_start 72 = .ok (.invokestatic 69, 3) := by decide +kernel
theorem dX8_start_75 : decode cX8_start 75 = .ok (.istore 5, 2) := by decide +kernel
theorem dX8_start_77 : decode cX8_start 77 = .ok (.iload_n 3, 1) := by decide +kernel
theorem dX8_start_78 : decode cX8_start 78 = .ok (.iconst 1, 1) := by decide +kernel
theorem dX8_start_79 : decode cX8_start 79 = .ok (.iload 5, 2) := by decide +kernel
theorem dX8_start_81 : decode cX8_start 81 = .ok (.ishl, 1) := by decide +kernel
theorem dX8_start_82 : decode cX8_start 82 = .ok (.iand, 1) := by decide +kernel
theorem dX8_start_83 : decode cX8_start 83 = .ok (.ifCond .eq 46, 3) := by decide +kernel
theorem dX8_start_86 : decode cX8_start 86 = .ok (.aload_n 0, 1) := by decide +kernel
theorem dX8_start_87 : decode cX8_start 87 = .ok (.getfield 23, 3) := by decide +kernel
theorem dX8_start_90 : decode cX8_start 90 = .ok (.aload_n 0, 1) := by decide +kernel
theorem dX8_start_91 : decode cX8_start 91 = .ok (.getfield 66, 3) := by decide +kernel
theorem dX8_start_94 : decode cX8_start 94 = .ok (.iload 5, 2) := by decide +kernel
theorem dX8_start_96 : decode cX8_start 96 = .ok (.invokevirtual 73, 3) := by decide +kernel
theorem dX8_start_99 : decode cX8_start 99 = .ok (.aload_n 0, 1) := by decide +kernel
theorem dX8_start_100 : decode cX8_start 100 = .ok (.getfield 27, 3) := by decide +kernel
theorem dX8_start_103 : decode cX8_start 103 = .ok (.aload_n 0, 1) := by decide +kernel
theorem dX8_start_104 : decode cX8_start 104 = .ok (.getfield 66, 3) := by decide +kernel
theorem dX8_start_107 : decode cX8_start 107 = .ok (.aload_n 0, 1) := by decide +kernel
theorem dX8_start_108 : decode cX8_start 108 = .ok (.getfield 12, 3) := by decide +kernel
theorem dX8_start_111 : decode cX8_start 111 = .ok (.iload 5, 2) := by decide +kernel
theorem dX8_start_113 : decode cX8_start 113 = .ok (.invokevirtual 77, 3) := by decide +kernel
theorem dX8_start_116 : decode cX8_start 116 = .ok (.invokevirtual 73, 3) := by decide +kernel
theorem dX8_start_119 : decode cX8_start 119 = .ok (.aload_n 0, 1) := by decide +kernel
theorem dX8_start_120 : decode cX8_start 120 = .ok (.dup, 1) := by decide +kernel
theorem dX8_start_121 : decode cX8_start 121 = .ok (.getfield 66, 3) := by decide +kernel
theorem dX8_start_124 : decode cX8_start 124 = .ok (.iconst 1, 1) := by decide +kernel
theorem dX8_start_125 : decode cX8_start 125 = .ok (.iadd, 1) := by decide +kernel
theorem dX8_start_126 : decode cX8_start 126 = .ok (.putfield 66, 3) := by decide +kernel
theorem dX8_start_129 : decode cX8_start 129 = .ok (.iinc 4 1, 3) := by decide +kernel
theorem dX8_start_132 : decode cX8_start 132 = .ok (.goto (-69), 3) := by decide +kernel
theorem dX8_start_135 : decode cX8_start 135 = .ok (.aload_n 0, 1) := by decide +kernel
theorem dX8_start_136 : decode cX8_start 136 = .ok (.iconst 0, 1) := by decide +kernel
theorem dX8_start_137 : decode cX8_start 137 = .ok (.putfield 80, 3) := by decide +kernel
theorem dX8_start_140 : decode cX8_start 140 = .ok (.aload_n 0, 1) := by decide +kernel
theorem dX8_start_141 : decode cX8_start 141 = .ok (.iconst 0, 1) := by decide +kernel
theorem dX8_start_142 : decode cX8_start 142 = .ok (.putfield 83, 3) := by decide +kernel
theorem dX8_start_145 : decode cX8_start 145 = .ok (.aload_n 0, 1) := by decide +kernel
theorem dX8_start_146 : decode cX8_start 146 = .ok (.iconst 0, 1) := by decide +kernel
theorem dX8_start_147 : decode cX8_start 147 = .ok (.putfield 86, 3) := by decide +kernel
theorem dX8_start_150 : decode cX8_start 150 = .ok (.aload_n 0, 1) := by decide +kernel
theorem dX8_start_151 : decode cX8_start 151 = .ok (.iconst (-1), 1) := by decide +kernel
theorem dX8_start_152 : decode cX8_start 152 = .ok (.putfield 89, 3) := by decide +kernel
theorem dX8_start_155 : decode cX8_start 155 = .ok (.aload_n 0, 1) := by decide +kernel
theorem dX8_start_156 : decode cX8_start 156 = .ok (.getfield 66, 3) := by decide +kernel
theorem dX8_start_159 : decode cX8_start 159 = .ok (.ifCond .le 7, 3) := by decide +kernel
theorem dX8_start_162 : decode cX8_start 162 = .ok (.aload_n 0, 1) := by decide +kernel
theorem dX8_start_163 : decode cX8_start 163 = .ok (.invokevirtual 92, 3) := by decide +kernel
theorem dX8_start_166 : decode cX8_start 166 = .ok (.return_, 1) := by decide +kernel
set_option maxRecDepth 20000 in
theorem ggX8_advance_X8_ask : GoodIn wsX8_advance wsX8_ask := goodIn_r _ [10, 11, 1, 12, 13, 14, 15, 16, 3, 17, 18, 19, 20, 21, 22, 23, 24, 25, 26, 27, 28, 29, 30, 31, 32, 33, 34, 35, 36, 37, 38, 39, 40, 41, 42, 43, 44, 9, 45, 46, 47, 48, 49, 50, 51, 52, 53, 54, 55, 56, 57, 58, 59, 60, 61, 62, 63, 64, 65, 66, 67, 68, 69, 70, 71, 72, 73, 74, 75, 76, 77, 78, 79, 93, 94, 95, 96, 97, 98, 99, 100, 101, 102, 103, 104, 105, 106, 107, 108] (by decide +kernel) (by decide +kernel)
set_option maxRecDepth 20000 in
theorem gX8_advance_X8_ask : GoodIn wsX8_advance (wsV RX8 96 RX8 yX8_ask wsX8_ask) := goodIn_app (goodIn_of _ (by decide +kernel)) ggX8_advance_X8_ask
set_option maxRecDepth 20000 in
theorem ggX8_advance_X6_at : GoodIn wsX8_advance wsX6_at := goodIn_r _ [21, 22, 105] (by decide +kernel) (by decide +kernel)
set_option maxRecDepth 20000 in
theorem gX8_advance_X6_at : GoodIn wsX8_advance (wsV RX8 100 RX6 yX6_at wsX6_at) := goodIn_app (goodIn_of _ (by decide +kernel)) ggX8_advance_X6_at
set_option maxRecDepth 20000 in
theorem ggX8_advance_X8_choose : GoodIn wsX8_advance wsX8_choose := goodIn_r _ [83, 15, 11, 1, 84, 85, 14, 3, 17, 18, 19, 20, 21, 22, 86, 87, 33, 88, 76, 77, 78, 79, 93, 94, 95, 96, 97, 98, 99, 100, 101, 102, 103, 104, 105] (by decide +kernel) (by decide +kernel)
set_option maxRecDepth 20000 in
theorem gX8_advance_X8_choose : GoodIn wsX8_advance (wsV RX8 101 RX8 yX8_choose wsX8_choose) := goodIn_app (goodIn_of _ (by decide +kernel)) ggX8_advance_X8_choose
set_option maxRecDepth 20000 in
theorem ggX8_advance_X8_beginVariable : GoodIn wsX8_advance wsX8_beginVariable := goodIn_r _ [92, 1, 14, 3, 13, 84, 85, 76, 77, 78, 20, 79, 22, 93, 94, 95, 96, 97, 98, 99, 100, 101, 102, 103, 104, 105] (by decide +kernel) (by decide +kernel)
set_option maxRecDepth 20000 in
theorem gX8_advance_X8_beginVariable : GoodIn wsX8_advance (wsV RX8 92 RX8 yX8_beginVariable wsX8_beginVariable) := goodIn_app (goodIn_of _ (by decide +kernel)) ggX8_advance_X8_beginVariable
theorem dX8_advance_0 : decode cX8_advance 0 = .ok (.iconst 0, 1) := by decide +kernel
theorem dX8_advance_1 : decode cX8_advance 1 = .ok (.istore_n 2, 1) := by decide +kernel
theorem dX8_advance_2 : decode cX8_advance 2 = .ok (.aload_n 0, 1) := by decide +kernel
theorem dX8_advance_3 : decode cX8_advance 3 = .ok (.getfield 89, 3) := by decide +kernel
theorem dX8_advance_6 : decode cX8_advance 6 = .ok (.ifCond .lt 88, 3) := by decide +kernel
theorem dX8_advance_9 : decode cX8_advance 9 = .ok (.iload_n 2, 1) := by decide +kernel
theorem dX8_advance_10 : decode cX8_advance 10 = .ok (.ldc 95, 2) := by decide +kernel
theorem dX8_advance_12 : decode cX8_advance 12 = .ok (.if_icmp .ge 82, 3) := by decide +kernel
theorem dX8_advance_15 : decode cX8_advance 15 = .ok (.aload_n 0, 1) := by decide +kernel
theorem dX8_advance_16 : decode cX8_advance 16 = .ok (.aload_n 1, 1) := by decide +kernel
theorem dX8_advance_17 : decode cX8_advance 17 = .ok (.invokevirtual 96, 3) := by decide +kernel
theorem dX8_advance_20 : decode cX8_advance 20 = .ok (.istore_n 3, 1) := by decide +kernel
theorem dX8_advance_21 : decode cX8_advance 21 = .ok (.iload_n 3, 1) := by decide +kernel
theorem dX8_advance_22 : decode cX8_advance 22 = .ok (.iconst (-1), 1) := by decide +kernel
theorem dX8_advance_23 : decode cX8_advance 23 = .ok (.if_icmp .ne 16, 3) := by decide +kernel
theorem dX8_advance_26 : decode cX8_advance 26 = .ok (.aload_n 0, 1) := by decide +kernel
theorem dX8_advance_27 : decode cX8_advance 27 = .ok (.dup, 1) := by decide +kernel
theorem dX8_advance_28 : decode cX8_advance 28 = .ok (.getfield 89, 3) := by decide +kernel
theorem dX8_advance_31 : decode cX8_advance 31 = .ok (.iconst 1, 1) := by decide +kernel
theorem dX8_advance_32 : decode cX8_advance 32 = .ok (.isub, 1) := by decide +kernel
theorem dX8_advance_33 : decode cX8_advance 33 = .ok (.putfield 89, 3) := by decide +kernel
theorem dX8_advance_36 : decode cX8_advance 36 = .ok (.goto 52, 3) := by decide +kernel
theorem dX8_advance_39 : decode cX8_advance 39 = .ok (.aload_n 0, 1) := by decide +kernel
theorem dX8_advance_40 : decode cX8_advance 40 = .ok (.getfield 33, 3) := by decide +kernel
theorem dX8_advance_43 : decode cX8_advance 43 = .ok (.aload_n 0, 1) := by decide +kernel
theorem dX8_advance_44 : decode cX8_advance 44 = .ok (.getfield 89, 3) := by decide +kernel
theorem dX8_advance_47 : decode cX8_advance 47 = .ok (.invokevirtual 100, 3) := by decide +kernel
theorem dX8_advance_50 : decode cX8_advance 50 = .ok (.aload_n 0, 1) := by decide +kernel
theorem dX8_advance_51 : decode cX8_advance 51 = .ok (.getfield 27, 3) := by decide +kernel
theorem dX8_advance_54 : decode cX8_advance 54 = .ok (.aload_n 0, 1) := by decide +kernel
theorem dX8_advance_55 : decode cX8_advance 55 = .ok (.getfield 89, 3) := by decide +kernel
theorem dX8_advance_58 : decode cX8_advance 58 = .ok (.invokevirtual 100, 3) := by decide +kernel
theorem dX8_advance_61 : decode cX8_advance 61 = .ok (.if_icmp .lt 27, 3) := by decide +kernel
theorem dX8_advance_64 : decode cX8_advance 64 = .ok (.aload_n 0, 1) := by decide +kernel
theorem dX8_advance_65 : decode cX8_advance 65 = .ok (.iload_n 3, 1) := by decide +kernel
theorem dX8_advance_66 : decode cX8_advance 66 = .ok (.invokevirtual 101, 3) := by decide +kernel
theorem dX8_advance_69 : decode cX8_advance 69 = .ok (.aload_n 0, 1) := by decide +kernel
theorem dX8_advance_70 : decode cX8_advance 70 = .ok (.getfield 89, 3) := by decide +kernel
theorem dX8_advance_73 : decode cX8_advance 73 = .ok (.iconst 1, 1) := by decide +kernel
theorem dX8_advance_74 : decode cX8_advance 74 = .ok (.iadd, 1) := by decide +kernel
theorem dX8_advance_75 : decode cX8_advance 75 = .ok (.aload_n 0, 1) := by decide +kernel
theorem dX8_advance_76 : decode cX8_advance 76 = .ok (.getfield 66, 3) := by decide +kernel
theorem dX8_advance_79 : decode cX8_advance 79 = .ok (.if_icmp .lt 5, 3) := by decide +kernel
theorem dX8_advance_82 : decode cX8_advance 82 = .ok (.iconst 1, 1) := by decide +kernel
theorem dX8_advance_83 : decode cX8_advance 83 = .ok (.ireturn, 1) := by decide +kernel
theorem dX8_advance_84 : decode cX8_advance 84 = .ok (.aload_n 0, 1) := by decide +kernel
theorem dX8_advance_85 : decode cX8_advance 85 = .ok (.invokevirtual 92, 3) := by decide +kernel
theorem dX8_advance_88 : decode cX8_advance 88 = .ok (.iinc 2 1, 3) := by decide +kernel
theorem dX8_advance_91 : decode cX8_advance 91 = .ok (.goto (-89), 3) := by decide +kernel
theorem dX8_advance_94 : decode cX8_advance 94 = .ok (.iconst 0, 1) := by decide +kernel
theorem dX8_advance_95 : decode cX8_advance 95 = .ok (.ireturn, 1) := by decide +kernel
set_option maxRecDepth 20000 in
theorem ggX8_beginVariable_X6_put : GoodIn wsX8_beginVariable wsX6_put := goodIn_r _ [11, 12, 25] (by decide +kernel) (by decide +kernel)
set_option maxRecDepth 20000 in
theorem gX8_beginVariable_X6_put : GoodIn wsX8_beginVariable (wsV RX8 73 RX6 yX6_put wsX6_put) := goodIn_app (goodIn_of _ (by decide +kernel)) ggX8_beginVariable_X6_put
theorem dX8_beginVariable_0 : decode cX8_beginVariable 0 = .ok (.aload_n 0, 1) := by decide +kernel
theorem dX8_beginVariable_1 : decode cX8_beginVariable 1 = .ok (.dup, 1) := by decide +kernel
theorem dX8_beginVariable_2 : decode cX8_beginVariable 2 = .ok (.getfield 89, 3) := by decide +kernel
theorem dX8_beginVariable_5 : decode cX8_beginVariable 5 = .ok (.iconst 1, 1) := by decide +kernel
theorem dX8_beginVariable_6 : decode cX8_beginVariable 6 = .ok (.iadd, 1) := by decide +kernel
theorem dX8_beginVariable_7 : decode cX8_beginVariable 7 = .ok (.putfield 89, 3) := by decide +kernel
theorem dX8_beginVariable_10 : decode cX8_beginVariable 10 = .ok (.aload_n 0, 1) := by decide +kernel
theorem dX8_beginVariable_11 : decode cX8_beginVariable 11 = .ok (.getfield 30, 3) := by decide +kernel
theorem dX8_beginVariable_14 : decode cX8_beginVariable 14 = .ok (.aload_n 0, 1) := by decide +kernel
theorem dX8_beginVariable_15 : decode cX8_beginVariable 15 = .ok (.getfield 89, 3) := by decide +kernel
theorem dX8_beginVariable_18 : decode cX8_beginVariable 18 = .ok (.iconst 0, 1) := by decide +kernel
theorem dX8_beginVariable_19 : decode cX8_beginVariable 19 = .ok (.invokevirtual 73, 3) := by decide +kernel
theorem dX8_beginVariable_22 : decode cX8_beginVariable 22 = .ok (.aload_n 0, 1) := by decide +kernel
theorem dX8_beginVariable_23 : decode cX8_beginVariable 23 = .ok (.getfield 33, 3) := by decide +kernel
theorem dX8_beginVariable_26 : decode cX8_beginVariable 26 = .ok (.aload_n 0, 1) := by decide +kernel
theorem dX8_beginVariable_27 : decode cX8_beginVariable 27 = .ok (.getfield 89, 3) := by decide +kernel
theorem dX8_beginVariable_30 : decode cX8_beginVariable 30 = .ok (.iconst 0, 1) := by decide +kernel
theorem dX8_beginVariable_31 : decode cX8_beginVariable 31 = .ok (.invokevirtual 73, 3) := by decide +kernel
theorem dX8_beginVariable_34 : decode cX8_beginVariable 34 = .ok (.aload_n 0, 1) := by decide +kernel
theorem dX8_beginVariable_35 : decode cX8_beginVariable 35 = .ok (.getfield 36, 3) := by decide +kernel
theorem dX8_beginVariable_38 : decode cX8_beginVariable 38 = .ok (.aload_n 0, 1) := by decide +kernel
theorem dX8_beginVariable_39 : decode cX8_beginVariable 39 = .ok (.getfield 89, 3) := by decide +kernel
theorem dX8_beginVariable_42 : decode cX8_beginVariable 42 = .ok (.iconst (-1), 1) := by decide +kernel
theorem dX8_beginVariable_43 : decode cX8_beginVariable 43 = .ok (.invokevirtual 73, 3) := by decide +kernel
theorem dX8_beginVariable_46 : decode cX8_beginVariable 46 = .ok (.aload_n 0, 1) := by decide +kernel
theorem dX8_beginVariable_47 : decode cX8_beginVariable 47 = .ok (.getfield 39, 3) := by decide +kernel
theorem dX8_beginVariable_50 : decode cX8_beginVariable 50 = .ok (.aload_n 0, 1) := by decide +kernel
theorem dX8_beginVariable_51 : decode cX8_beginVariable 51 = .ok (.getfield 89, 3) := by decide +kernel
theorem dX8_beginVariable_54 : decode cX8_beginVariable 54 = .ok (.aload_n 0, 1) := by decide +kernel
theorem dX8_beginVariable_55 : decode cX8_beginVariable 55 = .ok (.getfield 86, 3) := by decide +kernel
theorem dX8_beginVariable_58 : decode cX8_beginVariable 58 = .ok (.invokevirtual 73, 3) := by decide +kernel
theorem dX8_beginVariable_61 : decode cX8_beginVariable 61 = .ok (.return_, 1) := by decide +kernel
set_option maxRecDepth 20000 in
theorem ggX8_ask_X6_at : GoodIn wsX8_ask wsX6_at := goodIn_r _ [13, 14, 85] (by decide +kernel) (by decide +kernel)
set_option maxRecDepth 20000 in
theorem gX8_ask_X6_at : GoodIn wsX8_ask (wsV RX8 100 RX6 yX6_at wsX6_at) := goodIn_app (goodIn_of _ (by decide +kernel)) ggX8_ask_X6_at
set_option maxRecDepth 20000 in
theorem ggX8_ask_X2_nextWith : GoodIn wsX8_ask wsX2_nextWith := goodIn_r _ [19, 20, 21, 22, 10, 11, 12, 13, 14, 23, 24, 25, 26, 86, 87, 85] (by decide +kernel) (by decide +kernel)
set_option maxRecDepth 20000 in
theorem gX8_ask_X2_nextWith : GoodIn wsX8_ask (wsV RX8 104 RX2 yX2_nextWith wsX2_nextWith) := goodIn_app (goodIn_of _ (by decide +kernel)) ggX8_ask_X2_nextWith
set_option maxRecDepth 20000 in
theorem ggX8_ask_X1_withoutValue : GoodIn wsX8_ask wsX1_withoutValue := goodIn_r _ [29] (by decide +kernel) (by decide +kernel)
set_option maxRecDepth 20000 in
theorem gX8_ask_X1_withoutValue : GoodIn wsX8_ask (va_wsS RX8 107 yX1_withoutValue wsX1_withoutValue) := goodIn_app (goodIn_of _ (by decide +kernel)) ggX8_ask_X1_withoutValue
set_option maxRecDepth 20000 in
theorem ggX8_ask_X2_at : GoodIn wsX8_ask wsX2_at := goodIn_r _ [33, 21, 22, 10, 11, 12, 13, 14, 86, 87, 85] (by decide +kernel) (by decide +kernel)
set_option maxRecDepth 20000 in
theorem gX8_ask_X2_at : GoodIn wsX8_ask (wsV RX8 49 RX2 yX2_at wsX2_at) := goodIn_app (goodIn_of _ (by decide +kernel)) ggX8_ask_X2_at
set_option maxRecDepth 20000 in
theorem ggX8_ask_X8_least : GoodIn wsX8_ask wsX8_least := goodIn_r _ [38, 39, 40, 41, 42, 6, 43, 44, 25, 45, 46, 47, 48, 37, 49, 50, 51, 52, 53, 54, 55, 56, 57, 58, 59, 60, 61, 62, 63, 64, 65, 66, 67, 68, 73, 74, 75, 76, 77, 78, 79, 80, 81, 82, 83, 84, 88] (by decide +kernel) (by decide +kernel)
set_option maxRecDepth 20000 in
theorem gX8_ask_X8_least : GoodIn wsX8_ask (wsV RX8 110 RX8 yX8_least wsX8_least) := goodIn_app (goodIn_of _ (by decide +kernel)) ggX8_ask_X8_least
set_option maxRecDepth 20000 in
theorem ggX8_ask_X6_put : GoodIn wsX8_ask wsX6_put := goodIn_r _ [72, 14, 85] (by decide +kernel) (by decide +kernel)
set_option maxRecDepth 20000 in
theorem gX8_ask_X6_put : GoodIn wsX8_ask (wsV RX8 73 RX6 yX6_put wsX6_put) := goodIn_app (goodIn_of _ (by decide +kernel)) ggX8_ask_X6_put
theorem dX8_ask_0 : decode cX8_ask 0 = .ok (.aload_n 0, 1) := by decide +kernel
theorem dX8_ask_1 : decode cX8_ask 1 = .ok (.getfield 23, 3) := by decide +kernel
theorem dX8_ask_4 : decode cX8_ask 4 = .ok (.aload_n 0, 1) := by decide +kernel
theorem dX8_ask_5 : decode cX8_ask 5 = .ok (.getfield 89, 3) := by decide +kernel
theorem dX8_ask_8 : decode cX8_ask 8 = .ok (.invokevirtual 100, 3) := by decide +kernel
theorem dX8_ask_11 : decode cX8_ask 11 = .ok (.istore_n 2, 1) := by decide +kernel
theorem dX8_ask_12 : decode cX8_ask 12 = .ok (.aload_n 0, 1) := by decide +kernel
theorem dX8_ask_13 : decode cX8_ask 13 = .ok (.getfield 12, 3) := by decide +kernel
theorem dX8_ask_16 : decode cX8_ask 16 = .ok (.iload_n 2, 1) := by decide +kernel
theorem dX8_ask_17 : decode cX8_ask 17 = .ok (.aload_n 0, 1) := by decide +kernel
theorem dX8_ask_18 : decode cX8_ask 18 = .ok (.getfield 36, 3) := by decide +kernel
theorem dX8_ask_21 : decode cX8_ask 21 = .ok (.aload_n 0, 1) := by decide +kernel
theorem dX8_ask_22 : decode cX8_ask 22 = .ok (.getfield 89, 3) := by decide +kernel
theorem dX8_ask_25 : decode cX8_ask 25 = .ok (.invokevirtual 100, 3) := by decide +kernel
theorem dX8_ask_28 : decode cX8_ask 28 = .ok (.invokevirtual 104, 3) := by decide +kernel
theorem dX8_ask_31 : decode cX8_ask 31 = .ok (.istore_n 3, 1) := by decide +kernel
theorem dX8_ask_32 : decode cX8_ask 32 = .ok (.aload_n 0, 1) := by decide +kernel
theorem dX8_ask_33 : decode cX8_ask 33 = .ok (.getfield 30, 3) := by decide +kernel
theorem dX8_ask_36 : decode cX8_ask 36 = .ok (.aload_n 0, 1) := by decide +kernel
theorem dX8_ask_37 : decode cX8_ask 37 = .ok (.getfield 89, 3) := by decide +kernel
theorem dX8_ask_40 : decode cX8_ask 40 = .ok (.invokevirtual 100, 3) := by decide +kernel
theorem dX8_ask_43 : decode cX8_ask 43 = .ok (.istore 4, 2) := by decide +kernel
theorem dX8_ask_45 : decode cX8_ask 45 = .ok (.aload_n 0, 1) := by decide +kernel
theorem dX8_ask_46 : decode cX8_ask 46 = .ok (.aload_n 0, 1) := by decide +kernel
theorem dX8_ask_47 : decode cX8_ask 47 = .ok (.getfield 83, 3) := by decide +kernel
theorem dX8_ask_50 : decode cX8_ask 50 = .ok (.iload_n 2, 1) := by decide +kernel
theorem dX8_ask_51 : decode cX8_ask 51 = .ok (.invokestatic 107, 3) := by decide +kernel
theorem dX8_ask_54 : decode cX8_ask 54 = .ok (.putfield 83, 3) := by decide +kernel
theorem dX8_ask_57 : decode cX8_ask 57 = .ok (.aload_n 0, 1) := by decide +kernel
theorem dX8_ask_58 : decode cX8_ask 58 = .ok (.aload_n 0, 1) := by decide +kernel
theorem dX8_ask_59 : decode cX8_ask 59 = .ok (.getfield 12, 3) := by decide +kernel
theorem dX8_ask_62 : decode cX8_ask 62 = .ok (.iload_n 3, 1) := by decide +kernel
theorem dX8_ask_63 : decode cX8_ask 63 = .ok (.invokevirtual 49, 3) := by decide +kernel
theorem dX8_ask_66 : decode cX8_ask 66 = .ok (.iload_n 2, 1) := by decide +kernel
theorem dX8_ask_67 : decode cX8_ask 67 = .ok (.iload 4, 2) := by decide +kernel
theorem dX8_ask_69 : decode cX8_ask 69 = .ok (.aload_n 1, 1) := by decide +kernel
theorem dX8_ask_70 : decode cX8_ask 70 = .ok (.invokevirtual 110, 3) := by decide +kernel
theorem dX8_ask_73 : decode cX8_ask 73 = .ok (.istore 5, 2) := by decide +kernel
theorem dX8_ask_75 : decode cX8_ask 75 = .ok (.aload_n 0, 1) := by decide +kernel
theorem dX8_ask_76 : decode cX8_ask 76 = .ok (.dup, 1) := by decide +kernel
theorem dX8_ask_77 : decode cX8_ask 77 = .ok (.getfield 80, 3) := by decide +kernel
theorem dX8_ask_80 : decode cX8_ask 80 = .ok (.iconst 1, 1) := by decide +kernel
theorem dX8_ask_81 : decode cX8_ask 81 = .ok (.iadd, 1) := by decide +kernel
theorem dX8_ask_82 : decode cX8_ask 82 = .ok (.putfield 80, 3) := by decide +kernel
theorem dX8_ask_85 : decode cX8_ask 85 = .ok (.iload 5, 2) := by decide +kernel
theorem dX8_ask_87 : decode cX8_ask 87 = .ok (.iconst (-1), 1) := by decide +kernel
theorem dX8_ask_88 : decode cX8_ask 88 = .ok (.if_icmp .eq 63, 3) := by decide +kernel
theorem dX8_ask_91 : decode cX8_ask 91 = .ok (.aload_n 0, 1) := by decide +kernel
theorem dX8_ask_92 : decode cX8_ask 92 = .ok (.getfield 36, 3) := by decide +kernel
theorem dX8_ask_95 : decode cX8_ask 95 = .ok (.aload_n 0, 1) := by decide +kernel
theorem dX8_ask_96 : decode cX8_ask 96 = .ok (.getfield 89, 3) := by decide +kernel
theorem dX8_ask_99 : decode cX8_ask 99 = .ok (.iload_n 3, 1) := by decide +kernel
theorem dX8_ask_100 : decode cX8_ask 100 = .ok (.invokevirtual 73, 3) := by decide +kernel
theorem dX8_ask_103 : decode cX8_ask 103 = .ok (.aload_n 0, 1) := by decide +kernel
theorem dX8_ask_104 : decode cX8_ask 104 = .ok (.getfield 30, 3) := by decide +kernel
theorem dX8_ask_107 : decode cX8_ask 107 = .ok (.aload_n 0, 1) := by decide +kernel
theorem dX8_ask_108 : decode cX8_ask 108 = .ok (.getfield 89, 3) := by decide +kernel
theorem dX8_ask_111 : decode cX8_ask 111 = .ok (.iload 5, 2) := by decide +kernel
theorem dX8_ask_113 : decode cX8_ask 113 = .ok (.invokevirtual 73, 3) := by decide +kernel
