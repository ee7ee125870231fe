theorem dX0_init_0 : decode cX0_init 0 = .ok (.aload_n 0, 1) := by decide +kernel
theorem dX0_init_1 : decode cX0_init 1 = .ok (.invokespecial 3, 3) := by decide +kernel
theorem dX0_init_4 : decode cX0_init 4 = .ok (.aload_n 0, 1) := by decide +kernel
theorem dX0_init_5 : decode cX0_init 5 = .ok (.new 9, 3) := by decide +kernel
theorem dX0_init_8 : decode cX0_init 8 = .ok (.dup, 1) := by decide +kernel
theorem dX0_init_9 : decode cX0_init 9 = .ok (.invokespecial 11, 3) := by decide +kernel
theorem dX0_init_12 : decode cX0_init 12 = .ok (.putfield 12, 3) := by decide +kernel
theorem dX0_init_15 : decode cX0_init 15 = .ok (.aload_n 0, 1) := by decide +kernel
theorem dX0_init_16 : decode cX0_init 16 = .ok (.bipush 64, 2) := by decide +kernel
theorem dX0_init_18 : decode cX0_init 18 = .ok (.newarray .long, 2) := by decide +kernel
theorem dX0_init_20 : decode cX0_init 20 = .ok (.putfield 18, 3) := by decide +kernel
theorem dX0_init_23 : decode cX0_init 23 = .ok (.return_, 1) := by decide +kernel
theorem dX0_find_0 : decode cX0_find 0 = .ok (.aload_n 0, 1) := by decide +kernel
theorem dX0_find_1 : decode cX0_find 1 = .ok (.getfield 18, 3) := by decide +kernel
theorem dX0_find_4 : decode cX0_find 4 = .ok (.lconst 0, 1) := by decide +kernel
theorem dX0_find_5 : decode cX0_find 5 = .ok (.invokestatic 22, 3) := by decide +kernel
theorem dX0_find_8 : decode cX0_find 8 = .ok (.aload_n 0, 1) := by decide +kernel
theorem dX0_find_9 : decode cX0_find 9 = .ok (.iconst 0, 1) := by decide +kernel
theorem dX0_find_10 : decode cX0_find 10 = .ok (.putfield 28, 3) := by decide +kernel
theorem dX0_find_13 : decode cX0_find 13 = .ok (.aload_n 0, 1) := by decide +kernel
theorem dX0_find_14 : decode cX0_find 14 = .ok (.getfield 12, 3) := by decide +kernel
theorem dX0_find_17 : decode cX0_find 17 = .ok (.aload_n 1, 1) := by decide +kernel
theorem dX0_find_18 : decode cX0_find 18 = .ok (.iload_n 2, 1) := by decide +kernel
theorem dX0_find_19 : decode cX0_find 19 = .ok (.invokevirtual 32, 3) := by decide +kernel
theorem dX0_find_22 : decode cX0_find 22 = .ok (.iconst 0, 1) := by decide +kernel
theorem dX0_find_23 : decode cX0_find 23 = .ok (.istore 4, 2) := by decide +kernel
theorem dX0_find_25 : decode cX0_find 25 = .ok (.iload 4, 2) := by decide +kernel
theorem dX0_find_27 : decode cX0_find 27 = .ok (.sipush 4096, 3) := by decide +kernel
theorem dX0_find_30 : decode cX0_find 30 = .ok (.if_icmp .gt 79, 3) := by decide +kernel
theorem dX0_find_33 : decode cX0_find 33 = .ok (.aload_n 0, 1) := by decide +kernel
theorem dX0_find_34 : decode cX0_find 34 = .ok (.getfield 12, 3) := by decide +kernel
theorem dX0_find_37 : decode cX0_find 37 = .ok (.aload_n 3, 1) := by decide +kernel
theorem dX0_find_38 : decode cX0_find 38 = .ok (.invokevirtual 36, 3) := by decide +kernel
theorem dX0_find_41 : decode cX0_find 41 = .ok (.ifCond .eq 68, 3) := by decide +kernel
theorem dX0_find_44 : decode cX0_find 44 = .ok (.aload_n 0, 1) := by decide +kernel
theorem dX0_find_45 : decode cX0_find 45 = .ok (.getfield 12, 3) := by decide +kernel
theorem dX0_find_48 : decode cX0_find 48 = .ok (.getfield 40, 3) := by decide +kernel
theorem dX0_find_51 : decode cX0_find 51 = .ok (.bipush 6, 2) := by decide +kernel
theorem dX0_find_53 : decode cX0_find 53 = .ok (.ishr, 1) := by decide +kernel
theorem dX0_find_54 : decode cX0_find 54 = .ok (.istore 5, 2) := by decide +kernel
theorem dX0_find_56 : decode cX0_find 56 = .ok (.iload 5, 2) := by decide +kernel
theorem dX0_find_58 : decode cX0_find 58 = .ok (.ifCond .lt 45, 3) := by decide +kernel
theorem dX0_find_61 : decode cX0_find 61 = .ok (.iload 5, 2) := by decide +kernel
theorem dX0_find_63 : decode cX0_find 63 = .ok (.aload_n 0, 1) := by decide +kernel
theorem dX0_find_64 : decode cX0_find 64 = .ok (.getfield 18, 3) := by decide +kernel
theorem dX0_find_67 : decode cX0_find 67 = .ok (.arraylength, 1) := by decide +kernel
theorem dX0_find_68 : decode cX0_find 68 = .ok (.if_icmp .ge 35, 3) := by decide +kernel
theorem dX0_find_71 : decode cX0_find 71 = .ok (.aload_n 0, 1) := by decide +kernel
theorem dX0_find_72 : decode cX0_find 72 = .ok (.getfield 18, 3) := by decide +kernel
theorem dX0_find_75 : decode cX0_find 75 = .ok (.iload 5, 2) := by decide +kernel
theorem dX0_find_77 : decode cX0_find 77 = .ok (.dup2, 1) := by decide +kernel
theorem dX0_find_78 : decode cX0_find 78 = .ok (.laload, 1) := by decide +kernel
theorem dX0_find_79 : decode cX0_find 79 = .ok (.lconst 1, 1) := by decide +kernel
theorem dX0_find_80 : decode cX0_find 80 = .ok (.aload_n 0, 1) := by decide +kernel
theorem dX0_find_81 : decode cX0_find 81 = .ok (.getfield 12, 3) := by decide +kernel
theorem dX0_find_84 : decode cX0_find 84 = .ok (.getfield 40, 3) := by decide +kernel
theorem dX0_find_87 : decode cX0_find 87 = .ok (.bipush 63, 2) := by decide +kernel
theorem dX0_find_89 : decode cX0_find 89 = .ok (.iand, 1) := by decide +kernel
theorem dX0_find_90 : decode cX0_find 90 = .ok (.lshl, 1) := by decide +kernel
theorem dX0_find_91 : decode cX0_find 91 = .ok (.lor, 1) := by decide +kernel
theorem dX0_find_92 : decode cX0_find 92 = .ok (.lastore, 1) := by decide +kernel
theorem dX0_find_93 : decode cX0_find 93 = .ok (.aload_n 0, 1) := by decide +kernel
theorem dX0_find_94 : decode cX0_find 94 = .ok (.dup, 1) := by decide +kernel
theorem dX0_find_95 : decode cX0_find 95 = .ok (.getfield 28, 3) := by decide +kernel
theorem dX0_find_98 : decode cX0_find 98 = .ok (.iconst 1, 1) := by decide +kernel
theorem dX0_find_99 : decode cX0_find 99 = .ok (.iadd, 1) := by decide +kernel
theorem dX0_find_100 : decode cX0_find 100 = .ok (.putfield 28, 3) := by decide +kernel
theorem dX0_find_103 : decode cX0_find 103 = .ok (.iinc 4 1, 3) := by decide +kernel
theorem dX0_find_106 : decode cX0_find 106 = .ok (.goto (-81), 3) := by decide +kernel
theorem dX0_find_109 : decode cX0_find 109 = .ok (.return_, 1) := by decide +kernel
theorem dX0_after_0 : decode cX0_after 0 = .ok (.iload_n 1, 1) := by decide +kernel
theorem dX0_after_1 : decode cX0_after 1 = .ok (.iconst 1, 1) := by decide +kernel
theorem dX0_after_2 : decode cX0_after 2 = .ok (.iadd, 1) := by decide +kernel
theorem dX0_after_3 : decode cX0_after 3 = .ok (.istore_n 2, 1) := by decide +kernel
theorem dX0_after_4 : decode cX0_after 4 = .ok (.iconst 0, 1) := by decide +kernel
theorem dX0_after_5 : decode cX0_after 5 = .ok (.istore_n 3, 1) := by decide +kernel
theorem dX0_after_6 : decode cX0_after 6 = .ok (.iload_n 3, 1) := by decide +kernel
theorem dX0_after_7 : decode cX0_after 7 = .ok (.sipush 4096, 3) := by decide +kernel
theorem dX0_after_10 : decode cX0_after 10 = .ok (.if_icmp .ge 86, 3) := by decide +kernel
theorem dX0_after_13 : decode cX0_after 13 = .ok (.iload_n 2, 1) := by decide +kernel
theorem dX0_after_14 : decode cX0_after 14 = .ok (.ifCond .lt 82, 3) := by decide +kernel
theorem dX0_after_17 : decode cX0_after 17 = .ok (.iload_n 2, 1) := by decide +kernel
theorem dX0_after_18 : decode cX0_after 18 = .ok (.sipush 4096, 3) := by decide +kernel
theorem dX0_after_21 : decode cX0_after 21 = .ok (.if_icmp .ge 75, 3) := by decide +kernel
theorem dX0_after_24 : decode cX0_after 24 = .ok (.iload_n 2, 1) := by decide +kernel
theorem dX0_after_25 : decode cX0_after 25 = .ok (.bipush 6, 2) := by decide +kernel
theorem dX0_after_27 : decode cX0_after 27 = .ok (.ishr, 1) := by decide +kernel
theorem dX0_after_28 : decode cX0_after 28 = .ok (.istore 4, 2) := by decide +kernel
theorem dX0_after_30 : decode cX0_after 30 = .ok (.iload 4, 2) := by decide +kernel
theorem dX0_after_32 : decode cX0_after 32 = .ok (.aload_n 0, 1) := by decide +kernel
theorem dX0_after_33 : decode cX0_after 33 = .ok (.getfield 18, 3) := by decide +kernel
theorem dX0_after_36 : decode cX0_after 36 = .ok (.arraylength, 1) := by decide +kernel
theorem dX0_after_37 : decode cX0_after 37 = .ok (.if_icmp .ge 18, 3) := by decide +kernel
theorem dX0_after_40 : decode cX0_after 40 = .ok (.aload_n 0, 1) := by decide +kernel
theorem dX0_after_41 : decode cX0_after 41 = .ok (.getfield 18, 3) := by decide +kernel
theorem dX0_after_44 : decode cX0_after 44 = .ok (.iload 4, 2) := by decide +kernel
theorem dX0_after_46 : decode cX0_after 46 = .ok (.laload, 1) := by decide +kernel
theorem dX0_after_47 : decode cX0_after 47 = .ok (.iload_n 2, 1) := by decide +kernel
theorem dX0_after_48 : decode cX0_after 48 = .ok (.bipush 63, 2) := by decide +kernel
theorem dX0_after_50 : decode cX0_after 50 = .ok (.iand, 1) := by decide +kernel
theorem dX0_after_51 : decode cX0_after 51 = .ok (.lushr, 1) := by decide +kernel
theorem dX0_after_52 : decode cX0_after 52 = .ok (.goto 4, 3) := by decide +kernel
theorem dX0_after_55 : decode cX0_after 55 = .ok (.lconst 0, 1) := by decide +kernel
theorem dX0_after_56 : decode cX0_after 56 = .ok (.lstore 5, 2) := by decide +kernel
theorem dX0_after_58 : decode cX0_after 58 = .ok (.lload 5, 2) := by decide +kernel
theorem dX0_after_60 : decode cX0_after 60 = .ok (.lconst 1, 1) := by decide +kernel
theorem dX0_after_61 : decode cX0_after 61 = .ok (.land, 1) := by decide +kernel
theorem dX0_after_62 : decode cX0_after 62 = .ok (.lconst 0, 1) := by decide +kernel
theorem dX0_after_63 : decode cX0_after 63 = .ok (.lcmp, 1) := by decide +kernel
theorem dX0_after_64 : decode cX0_after 64 = .ok (.ifCond .eq 5, 3) := by decide +kernel
theorem dX0_after_67 : decode cX0_after 67 = .ok (.iload_n 2, 1) := by decide +kernel
theorem dX0_after_68 : decode cX0_after 68 = .ok (.ireturn, 1) := by decide +kernel
theorem dX0_after_69 : decode cX0_after 69 = .ok (.lload 5, 2) := by decide +kernel
theorem dX0_after_71 : decode cX0_after 71 = .ok (.lconst 0, 1) := by decide +kernel
theorem dX0_after_72 : decode cX0_after 72 = .ok (.lcmp, 1) := by decide +kernel
theorem dX0_after_73 : decode cX0_after 73 = .ok (.ifCond .ne 13, 3) := by decide +kernel
theorem dX0_after_76 : decode cX0_after 76 = .ok (.iload 4, 2) := by decide +kernel
theorem dX0_after_78 : decode cX0_after 78 = .ok (.iconst 1, 1) := by decide +kernel
theorem dX0_after_79 : decode cX0_after 79 = .ok (.iadd, 1) := by decide +kernel
theorem dX0_after_80 : decode cX0_after 80 = .ok (.bipush 64, 2) := by decide +kernel
theorem dX0_after_82 : decode cX0_after 82 = .ok (.imul, 1) := by decide +kernel
theorem dX0_after_83 : decode cX0_after 83 = .ok (.goto 6, 3) := by decide +kernel
theorem dX0_after_86 : decode cX0_after 86 = .ok (.iload_n 2, 1) := by decide +kernel
theorem dX0_after_87 : decode cX0_after 87 = .ok (.iconst 1, 1) := by decide +kernel
theorem dX0_after_88 : decode cX0_after 88 = .ok (.iadd, 1) := by decide +kernel
theorem dX0_after_89 : decode cX0_after 89 = .ok (.istore_n 2, 1) := by decide +kernel
theorem dX0_after_90 : decode cX0_after 90 = .ok (.iinc 3 1, 3) := by decide +kernel
theorem dX0_after_93 : decode cX0_after 93 = .ok (.goto (-87), 3) := by decide +kernel
theorem dX0_after_96 : decode cX0_after 96 = .ok (.iconst (-1), 1) := by decide +kernel
theorem dX0_after_97 : decode cX0_after 97 = .ok (.ireturn, 1) := by decide +kernel
theorem dX0_countBelow_0 : decode cX0_countBelow 0 = .ok (.iconst (-1), 1) := by decide +kernel
theorem dX0_countBelow_1 : decode cX0_countBelow 1 = .ok (.istore_n 2, 1) := by decide +kernel
theorem dX0_countBelow_2 : decode cX0_countBelow 2 = .ok (.iconst 0, 1) := by decide +kernel
theorem dX0_countBelow_3 : decode cX0_countBelow 3 = .ok (.istore_n 3, 1) := by decide +kernel
theorem dX0_countBelow_4 : decode cX0_countBelow 4 = .ok (.iload_n 3, 1) := by decide +kernel
theorem dX0_countBelow_5 : decode cX0_countBelow 5 = .ok (.aload_n 0, 1) := by decide +kernel
theorem dX0_countBelow_6 : decode cX0_countBelow 6 = .ok (.getfield 28, 3) := by decide +kernel
theorem dX0_countBelow_9 : decode cX0_countBelow 9 = .ok (.if_icmp .ge 22, 3) := by decide +kernel
theorem dX0_countBelow_12 : decode cX0_countBelow 12 = .ok (.aload_n 0, 1) := by decide +kernel
theorem dX0_countBelow_13 : decode cX0_countBelow 13 = .ok (.iload_n 2, 1) := by decide +kernel
theorem dX0_countBelow_14 : decode cX0_countBelow 14 = .ok (.invokevirtual 43, 3) := by decide +kernel
theorem dX0_countBelow_17 : decode cX0_countBelow 17 = .ok (.istore_n 2, 1) := by decide +kernel
theorem dX0_countBelow_18 : decode cX0_countBelow 18 = .ok (.iload_n 2, 1) := by decide +kernel
theorem dX0_countBelow_19 : decode cX0_countBelow 19 = .ok (.iload_n 1, 1) := by decide +kernel
theorem dX0_countBelow_20 : decode cX0_countBelow 20 = .ok (.if_icmp .lt 5, 3) := by decide +kernel
theorem dX0_countBelow_23 : decode cX0_countBelow 23 = .ok (.iload_n 3, 1) := by decide +kernel
theorem dX0_countBelow_24 : decode cX0_countBelow 24 = .ok (.ireturn, 1) := by decide +kernel
theorem dX0_countBelow_25 : decode cX0_countBelow 25 = .ok (.iinc 3 1, 3) := by decide +kernel
theorem dX0_countBelow_28 : decode cX0_countBelow 28 = .ok (.goto (-24), 3) := by decide +kernel
theorem dX0_countBelow_31 : decode cX0_countBelow 31 = .ok (.aload_n 0, 1) := by decide +kernel
theorem dX0_countBelow_32 : decode cX0_countBelow 32 = .ok (.getfield 28, 3) := by decide +kernel
theorem dX0_countBelow_35 : decode cX0_countBelow 35 = .ok (.ireturn, 1) := by decide +kernel
theorem dX0_pickAfter_0 : decode cX0_pickAfter 0 = .ok (.aload_n 0, 1) := by decide +kernel
theorem dX0_pickAfter_1 : decode cX0_pickAfter 1 = .ok (.iload_n 1, 1) := by decide +kernel
theorem dX0_pickAfter_2 : decode cX0_pickAfter 2 = .ok (.invokevirtual 43, 3) := by decide +kernel
theorem dX0_pickAfter_5 : decode cX0_pickAfter 5 = .ok (.istore_n 2, 1) := by decide +kernel
theorem dX0_pickAfter_6 : decode cX0_pickAfter 6 = .ok (.aload_n 0, 1) := by decide +kernel
theorem dX0_pickAfter_7 : decode cX0_pickAfter 7 = .ok (.iconst 0, 1) := by decide +kernel
theorem dX0_pickAfter_8 : decode cX0_pickAfter 8 = .ok (.putfield 47, 3) := by decide +kernel
theorem dX0_pickAfter_11 : decode cX0_pickAfter 11 = .ok (.iload_n 2, 1) := by decide +kernel
theorem dX0_pickAfter_12 : decode cX0_pickAfter 12 = .ok (.istore_n 3, 1) := by decide +kernel
theorem dX0_pickAfter_13 : decode cX0_pickAfter 13 = .ok (.aload_n 0, 1) := by decide +kernel
theorem dX0_pickAfter_14 : decode cX0_pickAfter 14 = .ok (.getfield 12, 3) := by decide +kernel
theorem dX0_pickAfter_17 : decode cX0_pickAfter 17 = .ok (.getfield 50, 3) := by decide +kernel
theorem dX0_pickAfter_20 : decode cX0_pickAfter 20 = .ok (.iconst 1, 1) := by decide +kernel
theorem dX0_pickAfter_21 : decode cX0_pickAfter 21 = .ok (.isub, 1) := by decide +kernel
theorem dX0_pickAfter_22 : decode cX0_pickAfter 22 = .ok (.istore 4, 2) := by decide +kernel
theorem dX0_pickAfter_24 : decode cX0_pickAfter 24 = .ok (.iload 4, 2) := by decide +kernel
theorem dX0_pickAfter_26 : decode cX0_pickAfter 26 = .ok (.ifCond .lt 40, 3) := by decide +kernel
theorem dX0_pickAfter_29 : decode cX0_pickAfter 29 = .ok (.aload_n 0, 1) := by decide +kernel
theorem dX0_pickAfter_30 : decode cX0_pickAfter 30 = .ok (.aload_n 0, 1) := by decide +kernel
theorem dX0_pickAfter_31 : decode cX0_pickAfter 31 = .ok (.getfield 47, 3) := by decide +kernel
theorem dX0_pickAfter_34 : decode cX0_pickAfter 34 = .ok (.aload_n 0, 1) := by decide +kernel
theorem dX0_pickAfter_35 : decode cX0_pickAfter 35 = .ok (.getfield 12, 3) := by decide +kernel
theorem dX0_pickAfter_38 : decode cX0_pickAfter 38 = .ok (.getfield 53, 3) := by decide +kernel
theorem dX0_pickAfter_41 : decode cX0_pickAfter 41 = .ok (.iload 4, 2) := by decide +kernel
theorem dX0_pickAfter_43 : decode cX0_pickAfter 43 = .ok (.invokevirtual 57, 3) := by decide +kernel
theorem dX0_pickAfter_46 : decode cX0_pickAfter 46 = .ok (.iload_n 3, 1) := by decide +kernel
theorem dX0_pickAfter_47 : decode cX0_pickAfter 47 = .ok (.bipush 7, 2) := by decide +kernel
theorem dX0_pickAfter_49 : decode cX0_pickAfter 49 = .ok (.iand, 1) := by decide +kernel
theorem dX0_pickAfter_50 : decode cX0_pickAfter 50 = .ok (.invokestatic 62, 3) := by decide +kernel
theorem dX0_pickAfter_53 : decode cX0_pickAfter 53 = .ok (.putfield 47, 3) := by decide +kernel
theorem dX0_pickAfter_56 : decode cX0_pickAfter 56 = .ok (.iload_n 3, 1) := by decide +kernel
theorem dX0_pickAfter_57 : decode cX0_pickAfter 57 = .ok (.iconst 3, 1) := by decide +kernel
theorem dX0_pickAfter_58 : decode cX0_pickAfter 58 = .ok (.ishr, 1) := by decide +kernel
theorem dX0_pickAfter_59 : decode cX0_pickAfter 59 = .ok (.istore_n 3, 1) := by decide +kernel
theorem dX0_pickAfter_60 : decode cX0_pickAfter 60 = .ok (.iinc 4 (-1), 3) := by decide +kernel
theorem dX0_pickAfter_63 : decode cX0_pickAfter 63 = .ok (.goto (-39), 3) := by decide +kernel
theorem dX0_pickAfter_66 : decode cX0_pickAfter 66 = .ok (.iload_n 2, 1) := by decide +kernel
theorem dX0_pickAfter_67 : decode cX0_pickAfter 67 = .ok (.ireturn, 1) := by decide +kernel
theorem dX0_keyOf_0 : decode cX0_keyOf 0 = .ok (.iload_n 1, 1) := by decide +kernel
theorem dX0_keyOf_1 : decode cX0_keyOf 1 = .ok (.bipush 9, 2) := by decide +kernel
theorem dX0_keyOf_3 : decode cX0_keyOf 3 = .ok (.ishl, 1) := by decide +kernel
theorem dX0_keyOf_4 : decode cX0_keyOf 4 = .ok (.iload_n 2, 1) := by decide +kernel
theorem dX0_keyOf_5 : decode cX0_keyOf 5 = .ok (.bipush 6, 2) := by decide +kernel
theorem dX0_keyOf_7 : decode cX0_keyOf 7 = .ok (.ishl, 1) := by decide +kernel
theorem dX0_keyOf_8 : decode cX0_keyOf 8 = .ok (.ior, 1) := by decide +kernel
theorem dX0_keyOf_9 : decode cX0_keyOf 9 = .ok (.iload_n 3, 1) := by decide +kernel
theorem dX0_keyOf_10 : decode cX0_keyOf 10 = .ok (.iconst 3, 1) := by decide +kernel
theorem dX0_keyOf_11 : decode cX0_keyOf 11 = .ok (.ishl, 1) := by decide +kernel
theorem dX0_keyOf_12 : decode cX0_keyOf 12 = .ok (.ior, 1) := by decide +kernel
theorem dX0_keyOf_13 : decode cX0_keyOf 13 = .ok (.iload 4, 2) := by decide +kernel
theorem dX0_keyOf_15 : decode cX0_keyOf 15 = .ok (.ior, 1) := by decide +kernel
theorem dX0_keyOf_16 : decode cX0_keyOf 16 = .ok (.istore 5, 2) := by decide +kernel
theorem dX0_keyOf_18 : decode cX0_keyOf 18 = .ok (.iload 5, 2) := by decide +kernel
theorem dX0_keyOf_20 : decode cX0_keyOf 20 = .ok (.iconst 3, 1) := by decide +kernel
theorem dX0_keyOf_21 : decode cX0_keyOf 21 = .ok (.iconst 4, 1) := by decide +kernel
theorem dX0_keyOf_22 : decode cX0_keyOf 22 = .ok (.aload_n 0, 1) := by decide +kernel
theorem dX0_keyOf_23 : decode cX0_keyOf 23 = .ok (.getfield 12, 3) := by decide +kernel
theorem dX0_keyOf_26 : decode cX0_keyOf 26 = .ok (.getfield 50, 3) := by decide +kernel
theorem dX0_keyOf_29 : decode cX0_keyOf 29 = .ok (.isub, 1) := by decide +kernel
theorem dX0_keyOf_30 : decode cX0_keyOf 30 = .ok (.imul, 1) := by decide +kernel
theorem dX0_keyOf_31 : decode cX0_keyOf 31 = .ok (.ishr, 1) := by decide +kernel
theorem dX0_keyOf_32 : decode cX0_keyOf 32 = .ok (.ireturn, 1) := by decide +kernel
theorem dX0_sizeWith_0 : decode cX0_sizeWith 0 = .ok (.iconst 0, 1) := by decide +kernel
theorem dX0_sizeWith_1 : decode cX0_sizeWith 1 = .ok (.istore_n 3, 1) := by decide +kernel
theorem dX0_sizeWith_2 : decode cX0_sizeWith 2 = .ok (.iconst (-1), 1) := by decide +kernel
theorem dX0_sizeWith_3 : decode cX0_sizeWith 3 = .ok (.istore 4, 2) := by decide +kernel
theorem dX0_sizeWith_5 : decode cX0_sizeWith 5 = .ok (.iconst 0, 1) := by decide +kernel
theorem dX0_sizeWith_6 : decode cX0_sizeWith 6 = .ok (.istore 5, 2) := by decide +kernel
theorem dX0_sizeWith_8 : decode cX0_sizeWith 8 = .ok (.iload 5, 2) := by decide +kernel
theorem dX0_sizeWith_10 : decode cX0_sizeWith 10 = .ok (.aload_n 0, 1) := by decide +kernel
theorem dX0_sizeWith_11 : decode cX0_sizeWith 11 = .ok (.getfield 28, 3) := by decide +kernel
theorem dX0_sizeWith_14 : decode cX0_sizeWith 14 = .ok (.if_icmp .ge 37, 3) := by decide +kernel
theorem dX0_sizeWith_17 : decode cX0_sizeWith 17 = .ok (.aload_n 0, 1) := by decide +kernel
theorem dX0_sizeWith_18 : decode cX0_sizeWith 18 = .ok (.iload 4, 2) := by decide +kernel
theorem dX0_sizeWith_20 : decode cX0_sizeWith 20 = .ok (.invokevirtual 68, 3) := by decide +kernel
theorem dX0_sizeWith_23 : decode cX0_sizeWith 23 = .ok (.istore 4, 2) := by decide +kernel
theorem dX0_sizeWith_25 : decode cX0_sizeWith 25 = .ok (.iload_n 3, 1) := by decide +kernel
theorem dX0_sizeWith_26 : decode cX0_sizeWith 26 = .ok (.iload_n 1, 1) := by decide +kernel
theorem dX0_sizeWith_27 : decode cX0_sizeWith 27 = .ok (.aload_n 0, 1) := by decide +kernel
theorem dX0_sizeWith_28 : decode cX0_sizeWith 28 = .ok (.getfield 47, 3) := by decide +kernel
theorem dX0_sizeWith_31 : decode cX0_sizeWith 31 = .ok (.invokestatic 71, 3) := by decide +kernel
theorem dX0_sizeWith_34 : decode cX0_sizeWith 34 = .ok (.iload_n 2, 1) := by decide +kernel
theorem dX0_sizeWith_35 : decode cX0_sizeWith 35 = .ok (.if_icmp .ne 7, 3) := by decide +kernel
theorem dX0_sizeWith_38 : decode cX0_sizeWith 38 = .ok (.iconst 1, 1) := by decide +kernel
theorem dX0_sizeWith_39 : decode cX0_sizeWith 39 = .ok (.goto 4, 3) := by decide +kernel
theorem dX0_sizeWith_42 : decode cX0_sizeWith 42 = .ok (.iconst 0, 1) := by decide +kernel
theorem dX0_sizeWith_43 : decode cX0_sizeWith 43 = .ok (.iadd, 1) := by decide +kernel
theorem dX0_sizeWith_44 : decode cX0_sizeWith 44 = .ok (.istore_n 3, 1) := by decide +kernel
theorem dX0_sizeWith_45 : decode cX0_sizeWith 45 = .ok (.iinc 5 1, 3) := by decide +kernel
theorem dX0_sizeWith_48 : decode cX0_sizeWith 48 = .ok (.goto (-40), 3) := by decide +kernel
theorem dX0_sizeWith_51 : decode cX0_sizeWith 51 = .ok (.iload_n 3, 1) := by decide +kernel
theorem dX0_sizeWith_52 : decode cX0_sizeWith 52 = .ok (.ireturn, 1) := by decide +kernel
theorem dX1_code_0 : decode cX1_code 0 = .ok (.iconst 1, 1) := by decide +kernel
theorem dX1_code_1 : decode cX1_code 1 = .ok (.iload_n 2, 1) := by decide +kernel
theorem dX1_code_2 : decode cX1_code 2 = .ok (.ishl, 1) := by decide +kernel
theorem dX1_code_3 : decode cX1_code 3 = .ok (.istore 5, 2) := by decide +kernel
theorem dX1_code_5 : decode cX1_code 5 = .ok (.iload 5, 2) := by decide +kernel
theorem dX1_code_7 : decode cX1_code 7 = .ok (.iload_n 1, 1) := by decide +kernel
theorem dX1_code_8 : decode cX1_code 8 = .ok (.iconst 1, 1) := by decide +kernel
theorem dX1_code_9 : decode cX1_code 9 = .ok (.if_icmp .le 9, 3) := by decide +kernel
theorem dX1_code_12 : decode cX1_code 12 = .ok (.iconst 1, 1) := by decide +kernel
theorem dX1_code_13 : decode cX1_code 13 = .ok (.iload_n 3, 1) := by decide +kernel
theorem dX1_code_14 : decode cX1_code 14 = .ok (.ishl, 1) := by decide +kernel
theorem dX1_code_15 : decode cX1_code 15 = .ok (.goto 4, 3) := by decide +kernel
theorem dX1_code_18 : decode cX1_code 18 = .ok (.iconst 0, 1) := by decide +kernel
theorem dX1_code_19 : decode cX1_code 19 = .ok (.ior, 1) := by decide +kernel
theorem dX1_code_20 : decode cX1_code 20 = .ok (.istore 5, 2) := by decide +kernel
theorem dX1_code_22 : decode cX1_code 22 = .ok (.iload 5, 2) := by decide +kernel
theorem dX1_code_24 : decode cX1_code 24 = .ok (.iload_n 1, 1) := by decide +kernel
theorem dX1_code_25 : decode cX1_code 25 = .ok (.iconst 2, 1) := by decide +kernel
theorem dX1_code_26 : decode cX1_code 26 = .ok (.if_icmp .le 10, 3) := by decide +kernel
theorem dX1_code_29 : decode cX1_code 29 = .ok (.iconst 1, 1) := by decide +kernel
theorem dX1_code_30 : decode cX1_code 30 = .ok (.iload 4, 2) := by decide +kernel
theorem dX1_code_32 : decode cX1_code 32 = .ok (.ishl, 1) := by decide +kernel
theorem dX1_code_33 : decode cX1_code 33 = .ok (.goto 4, 3) := by decide +kernel
theorem dX1_code_36 : decode cX1_code 36 = .ok (.iconst 0, 1) := by decide +kernel
theorem dX1_code_37 : decode cX1_code 37 = .ok (.ior, 1) := by decide +kernel
theorem dX1_code_38 : decode cX1_code 38 = .ok (.istore 5, 2) := by decide +kernel
theorem dX1_code_40 : decode cX1_code 40 = .ok (.iload_n 0, 1) := by decide +kernel
theorem dX1_code_41 : decode cX1_code 41 = .ok (.iload_n 1, 1) := by decide +kernel
theorem dX1_code_42 : decode cX1_code 42 = .ok (.iconst 3, 1) := by decide +kernel
theorem dX1_code_43 : decode cX1_code 43 = .ok (.ishl, 1) := by decide +kernel
theorem dX1_code_44 : decode cX1_code 44 = .ok (.ior, 1) := by decide +kernel
theorem dX1_code_45 : decode cX1_code 45 = .ok (.iload_n 2, 1) := by decide +kernel
theorem dX1_code_46 : decode cX1_code 46 = .ok (.iconst 5, 1) := by decide +kernel
theorem dX1_code_47 : decode cX1_code 47 = .ok (.ishl, 1) := by decide +kernel
theorem dX1_code_48 : decode cX1_code 48 = .ok (.ior, 1) := by decide +kernel
theorem dX1_code_49 : decode cX1_code 49 = .ok (.iload_n 3, 1) := by decide +kernel
theorem dX1_code_50 : decode cX1_code 50 = .ok (.bipush 7, 2) := by decide +kernel
theorem dX1_code_52 : decode cX1_code 52 = .ok (.ishl, 1) := by decide +kernel
theorem dX1_code_53 : decode cX1_code 53 = .ok (.ior, 1) := by decide +kernel
theorem dX1_code_54 : decode cX1_code 54 = .ok (.iload 4, 2) := by decide +kernel
theorem dX1_code_56 : decode cX1_code 56 = .ok (.bipush 9, 2) := by decide +kernel
theorem dX1_code_58 : decode cX1_code 58 = .ok (.ishl, 1) := by decide +kernel
theorem dX1_code_59 : decode cX1_code 59 = .ok (.ior, 1) := by decide +kernel
theorem dX1_code_60 : decode cX1_code 60 = .ok (.iload 5, 2) := by decide +kernel
theorem dX1_code_62 : decode cX1_code 62 = .ok (.bipush 11, 2) := by decide +kernel
theorem dX1_code_64 : decode cX1_code 64 = .ok (.ishl, 1) := by decide +kernel
theorem dX1_code_65 : decode cX1_code 65 = .ok (.ior, 1) := by decide +kernel
theorem dX1_code_66 : decode cX1_code 66 = .ok (.ireturn, 1) := by decide +kernel
theorem dX1_withNot_0 : decode cX1_withNot 0 = .ok (.iload_n 0, 1) := by decide +kernel
theorem dX1_withNot_1 : decode cX1_withNot 1 = .ok (.ldc 11, 2) := by decide +kernel
theorem dX1_withNot_3 : decode cX1_withNot 3 = .ok (.ior, 1) := by decide +kernel
theorem dX1_withNot_4 : decode cX1_withNot 4 = .ok (.ireturn, 1) := by decide +kernel
theorem dX1_isNot_0 : decode cX1_isNot 0 = .ok (.iload_n 0, 1) := by decide +kernel
theorem dX1_isNot_1 : decode cX1_isNot 1 = .ok (.ldc 11, 2) := by decide +kernel
theorem dX1_isNot_3 : decode cX1_isNot 3 = .ok (.iand, 1) := by decide +kernel
theorem dX1_isNot_4 : decode cX1_isNot 4 = .ok (.ifCond .eq 7, 3) := by decide +kernel
theorem dX1_isNot_7 : decode cX1_isNot 7 = .ok (.iconst 1, 1) := by decide +kernel
theorem dX1_isNot_8 : decode cX1_isNot 8 = .ok (.goto 4, 3) := by decide +kernel
theorem dX1_isNot_11 : decode cX1_isNot 11 = .ok (.iconst 0, 1) := by decide +kernel
theorem dX1_isNot_12 : decode cX1_isNot 12 = .ok (.ireturn, 1) := by decide +kernel
theorem dX1_table_0 : decode cX1_table 0 = .ok (.iload_n 0, 1) := by decide +kernel
theorem dX1_table_1 : decode cX1_table 1 = .ok (.bipush 7, 2) := by decide +kernel
theorem dX1_table_3 : decode cX1_table 3 = .ok (.iand, 1) := by decide +kernel
theorem dX1_table_4 : decode cX1_table 4 = .ok (.ireturn, 1) := by decide +kernel
theorem dX1_width_0 : decode cX1_width 0 = .ok (.iload_n 0, 1) := by decide +kernel
theorem dX1_width_1 : decode cX1_width 1 = .ok (.iconst 3, 1) := by decide +kernel
theorem dX1_width_2 : decode cX1_width 2 = .ok (.ishr, 1) := by decide +kernel
theorem dX1_width_3 : decode cX1_width 3 = .ok (.iconst 3, 1) := by decide +kernel
theorem dX1_width_4 : decode cX1_width 4 = .ok (.iand, 1) := by decide +kernel
theorem dX1_width_5 : decode cX1_width 5 = .ok (.ireturn, 1) := by decide +kernel
theorem dX1_variable_0 : decode cX1_variable 0 = .ok (.iload_n 1, 1) := by decide +kernel
theorem dX1_variable_1 : decode cX1_variable 1 = .ok (.ifCond .lt 16, 3) := by decide +kernel
theorem dX1_variable_4 : decode cX1_variable 4 = .ok (.iload_n 1, 1) := by decide +kernel
theorem dX1_variable_5 : decode cX1_variable 5 = .ok (.iload_n 0, 1) := by decide +kernel
theorem dX1_variable_6 : decode cX1_variable 6 = .ok (.iconst 3, 1) := by decide +kernel
theorem dX1_variable_7 : decode cX1_variable 7 = .ok (.ishr, 1) := by decide +kernel
theorem dX1_variable_8 : decode cX1_variable 8 = .ok (.iconst 3, 1) := by decide +kernel
theorem dX1_variable_9 : decode cX1_variable 9 = .ok (.iand, 1) := by decide +kernel
theorem dX1_variable_10 : decode cX1_variable 10 = .ok (.if_icmp .ge 7, 3) := by decide +kernel
theorem dX1_variable_13 : decode cX1_variable 13 = .ok (.iconst 1, 1) := by decide +kernel
theorem dX1_variable_14 : decode cX1_variable 14 = .ok (.goto 4, 3) := by decide +kernel
theorem dX1_variable_17 : decode cX1_variable 17 = .ok (.iconst 0, 1) := by decide +kernel
theorem dX1_variable_18 : decode cX1_variable 18 = .ok (.istore_n 2, 1) := by decide +kernel
theorem dX1_variable_19 : decode cX1_variable 19 = .ok (.iload_n 2, 1) := by decide +kernel
theorem dX1_variable_20 : decode cX1_variable 20 = .ok (.ifCond .eq 15, 3) := by decide +kernel
theorem dX1_variable_23 : decode cX1_variable 23 = .ok (.iload_n 0, 1) := by decide +kernel
theorem dX1_variable_24 : decode cX1_variable 24 = .ok (.iconst 5, 1) := by decide +kernel
theorem dX1_variable_25 : decode cX1_variable 25 = .ok (.iconst 2, 1) := by decide +kernel
theorem dX1_variable_26 : decode cX1_variable 26 = .ok (.iload_n 1, 1) := by decide +kernel
theorem dX1_variable_27 : decode cX1_variable 27 = .ok (.imul, 1) := by decide +kernel
theorem dX1_variable_28 : decode cX1_variable 28 = .ok (.iadd, 1) := by decide +kernel
theorem dX1_variable_29 : decode cX1_variable 29 = .ok (.ishr, 1) := by decide +kernel
theorem dX1_variable_30 : decode cX1_variable 30 = .ok (.iconst 3, 1) := by decide +kernel
theorem dX1_variable_31 : decode cX1_variable 31 = .ok (.iand, 1) := by decide +kernel
theorem dX1_variable_32 : decode cX1_variable 32 = .ok (.goto 4, 3) := by decide +kernel
theorem dX1_variable_35 : decode cX1_variable 35 = .ok (.iconst (-1), 1) := by decide +kernel
theorem dX1_variable_36 : decode cX1_variable 36 = .ok (.ireturn, 1) := by decide +kernel
theorem dX1_variables_0 : decode cX1_variables 0 = .ok (.iload_n 0, 1) := by decide +kernel
theorem dX1_variables_1 : decode cX1_variables 1 = .ok (.bipush 11, 2) := by decide +kernel
theorem dX1_variables_3 : decode cX1_variables 3 = .ok (.ishr, 1) := by decide +kernel
theorem dX1_variables_4 : decode cX1_variables 4 = .ok (.bipush 15, 2) := by decide +kernel
theorem dX1_variables_6 : decode cX1_variables 6 = .ok (.iand, 1) := by decide +kernel
theorem dX1_variables_7 : decode cX1_variables 7 = .ok (.ireturn, 1) := by decide +kernel
theorem dX1_stands_0 : decode cX1_stands 0 = .ok (.iload_n 0, 1) := by decide +kernel
theorem dX1_stands_1 : decode cX1_stands 1 = .ok (.bipush 11, 2) := by decide +kernel
theorem dX1_stands_3 : decode cX1_stands 3 = .ok (.iload_n 1, 1) := by decide +kernel
theorem dX1_stands_4 : decode cX1_stands 4 = .ok (.iadd, 1) := by decide +kernel
theorem dX1_stands_5 : decode cX1_stands 5 = .ok (.ishr, 1) := by decide +kernel
theorem dX1_stands_6 : decode cX1_stands 6 = .ok (.iconst 1, 1) := by decide +kernel
theorem dX1_stands_7 : decode cX1_stands 7 = .ok (.iand, 1) := by decide +kernel
theorem dX1_stands_8 : decode cX1_stands 8 = .ok (.ifCond .eq 7, 3) := by decide +kernel
theorem dX1_stands_11 : decode cX1_stands 11 = .ok (.iconst 1, 1) := by decide +kernel
theorem dX1_stands_12 : decode cX1_stands 12 = .ok (.goto 4, 3) := by decide +kernel
theorem dX1_stands_15 : decode cX1_stands 15 = .ok (.iconst 0, 1) := by decide +kernel
theorem dX1_stands_16 : decode cX1_stands 16 = .ok (.ireturn, 1) := by decide +kernel
theorem dX1_withValue_0 : decode cX1_withValue 0 = .ok (.iload_n 0, 1) := by decide +kernel
theorem dX1_withValue_1 : decode cX1_withValue 1 = .ok (.bipush 15, 2) := by decide +kernel
theorem dX1_withValue_3 : decode cX1_withValue 3 = .ok (.iconst 4, 1) := by decide +kernel
theorem dX1_withValue_4 : decode cX1_withValue 4 = .ok (.iload_n 1, 1) := by decide +kernel
theorem dX1_withValue_5 : decode cX1_withValue 5 = .ok (.imul, 1) := by decide +kernel
theorem dX1_withValue_6 : decode cX1_withValue 6 = .ok (.ishl, 1) := by decide +kernel
theorem dX1_withValue_7 : decode cX1_withValue 7 = .ok (.iconst (-1), 1) := by decide +kernel
theorem dX1_withValue_8 : decode cX1_withValue 8 = .ok (.ixor, 1) := by decide +kernel
theorem dX1_withValue_9 : decode cX1_withValue 9 = .ok (.iand, 1) := by decide +kernel
theorem dX1_withValue_10 : decode cX1_withValue 10 = .ok (.bipush 8, 2) := by decide +kernel
theorem dX1_withValue_12 : decode cX1_withValue 12 = .ok (.iload_n 2, 1) := by decide +kernel
theorem dX1_withValue_13 : decode cX1_withValue 13 = .ok (.ior, 1) := by decide +kernel
theorem dX1_withValue_14 : decode cX1_withValue 14 = .ok (.iconst 4, 1) := by decide +kernel
theorem dX1_withValue_15 : decode cX1_withValue 15 = .ok (.iload_n 1, 1) := by decide +kernel
theorem dX1_withValue_16 : decode cX1_withValue 16 = .ok (.imul, 1) := by decide +kernel
theorem dX1_withValue_17 : decode cX1_withValue 17 = .ok (.ishl, 1) := by decide +kernel
theorem dX1_withValue_18 : decode cX1_withValue 18 = .ok (.ior, 1) := by decide +kernel
theorem dX1_withValue_19 : decode cX1_withValue 19 = .ok (.ireturn, 1) := by decide +kernel
theorem dX1_withoutValue_0 : decode cX1_withoutValue 0 = .ok (.iload_n 0, 1) := by decide +kernel
theorem dX1_withoutValue_1 : decode cX1_withoutValue 1 = .ok (.bipush 15, 2) := by decide +kernel
theorem dX1_withoutValue_3 : decode cX1_withoutValue 3 = .ok (.iconst 4, 1) := by decide +kernel
theorem dX1_withoutValue_4 : decode cX1_withoutValue 4 = .ok (.iload_n 1, 1) := by decide +kernel
theorem dX1_withoutValue_5 : decode cX1_withoutValue 5 = .ok (.imul, 1) := by decide +kernel
theorem dX1_withoutValue_6 : decode cX1_withoutValue 6 = .ok (.ishl, 1) := by decide +kernel
theorem dX1_withoutValue_7 : decode cX1_withoutValue 7 = .ok (.iconst (-1), 1) := by decide +kernel
theorem dX1_withoutValue_8 : decode cX1_withoutValue 8 = .ok (.ixor, 1) := by decide +kernel
theorem dX1_withoutValue_9 : decode cX1_withoutValue 9 = .ok (.iand, 1) := by decide +kernel
theorem dX1_withoutValue_10 : decode cX1_withoutValue 10 = .ok (.ireturn, 1) := by decide +kernel
theorem dX1_hasValue_0 : decode cX1_hasValue 0 = .ok (.iload_n 1, 1) := by decide +kernel
theorem dX1_hasValue_1 : decode cX1_hasValue 1 = .ok (.iconst 4, 1) := by decide +kernel
theorem dX1_hasValue_2 : decode cX1_hasValue 2 = .ok (.iload_n 0, 1) := by decide +kernel
theorem dX1_hasValue_3 : decode cX1_hasValue 3 = .ok (.imul, 1) := by decide +kernel
theorem dX1_hasValue_4 : decode cX1_hasValue 4 = .ok (.ishr, 1) := by decide +kernel
theorem dX1_hasValue_5 : decode cX1_hasValue 5 = .ok (.bipush 8, 2) := by decide +kernel
theorem dX1_hasValue_7 : decode cX1_hasValue 7 = .ok (.iand, 1) := by decide +kernel
theorem dX1_hasValue_8 : decode cX1_hasValue 8 = .ok (.ifCond .eq 7, 3) := by decide +kernel
theorem dX1_hasValue_11 : decode cX1_hasValue 11 = .ok (.iconst 1, 1) := by decide +kernel
theorem dX1_hasValue_12 : decode cX1_hasValue 12 = .ok (.goto 4, 3) := by decide +kernel
theorem dX1_hasValue_15 : decode cX1_hasValue 15 = .ok (.iconst 0, 1) := by decide +kernel
theorem dX1_hasValue_16 : decode cX1_hasValue 16 = .ok (.ireturn, 1) := by decide +kernel
theorem dX1_valueOf_0 : decode cX1_valueOf 0 = .ok (.iload_n 1, 1) := by decide +kernel
theorem dX1_valueOf_1 : decode cX1_valueOf 1 = .ok (.iconst 4, 1) := by decide +kernel
theorem dX1_valueOf_2 : decode cX1_valueOf 2 = .ok (.iload_n 0, 1) := by decide +kernel
theorem dX1_valueOf_3 : decode cX1_valueOf 3 = .ok (.imul, 1) := by decide +kernel
theorem dX1_valueOf_4 : decode cX1_valueOf 4 = .ok (.ishr, 1) := by decide +kernel
theorem dX1_valueOf_5 : decode cX1_valueOf 5 = .ok (.bipush 7, 2) := by decide +kernel
theorem dX1_valueOf_7 : decode cX1_valueOf 7 = .ok (.iand, 1) := by decide +kernel
theorem dX1_valueOf_8 : decode cX1_valueOf 8 = .ok (.ireturn, 1) := by decide +kernel
theorem dX1_spread_0 : decode cX1_spread 0 = .ok (.iload_n 0, 1) := by decide +kernel
theorem dX1_spread_1 : decode cX1_spread 1 = .ok (.istore_n 2, 1) := by decide +kernel
theorem dX1_spread_2 : decode cX1_spread 2 = .ok (.iconst 0, 1) := by decide +kernel
theorem dX1_spread_3 : decode cX1_spread 3 = .ok (.istore_n 3, 1) := by decide +kernel
theorem dX1_spread_4 : decode cX1_spread 4 = .ok (.iconst 0, 1) := by decide +kernel
theorem dX1_spread_5 : decode cX1_spread 5 = .ok (.istore 4, 2) := by decide +kernel
theorem dX1_spread_7 : decode cX1_spread 7 = .ok (.iload 4, 2) := by decide +kernel
theorem dX1_spread_9 : decode cX1_spread 9 = .ok (.iconst 4, 1) := by decide +kernel
theorem dX1_spread_10 : decode cX1_spread 10 = .ok (.if_icmp .ge 33, 3) := by decide +kernel
theorem dX1_spread_13 : decode cX1_spread 13 = .ok (.iload_n 1, 1) := by decide +kernel
theorem dX1_spread_14 : decode cX1_spread 14 = .ok (.iconst 1, 1) := by decide +kernel
theorem dX1_spread_15 : decode cX1_spread 15 = .ok (.iload 4, 2) := by decide +kernel
theorem dX1_spread_17 : decode cX1_spread 17 = .ok (.ishl, 1) := by decide +kernel
theorem dX1_spread_18 : decode cX1_spread 18 = .ok (.iand, 1) := by decide +kernel
theorem dX1_spread_19 : decode cX1_spread 19 = .ok (.ifCond .eq 18, 3) := by decide +kernel
theorem dX1_spread_22 : decode cX1_spread 22 = .ok (.iload_n 3, 1) := by decide +kernel
theorem dX1_spread_23 : decode cX1_spread 23 = .ok (.iload 4, 2) := by decide +kernel
theorem dX1_spread_25 : decode cX1_spread 25 = .ok (.iload_n 2, 1) := by decide +kernel
theorem dX1_spread_26 : decode cX1_spread 26 = .ok (.bipush 7, 2) := by decide +kernel
theorem dX1_spread_28 : decode cX1_spread 28 = .ok (.iand, 1) := by decide +kernel
theorem dX1_spread_29 : decode cX1_spread 29 = .ok (.invokestatic 12, 3) := by decide +kernel
theorem dX1_spread_32 : decode cX1_spread 32 = .ok (.istore_n 3, 1) := by decide +kernel
theorem dX1_spread_33 : decode cX1_spread 33 = .ok (.iload_n 2, 1) := by decide +kernel
theorem dX1_spread_34 : decode cX1_spread 34 = .ok (.iconst 3, 1) := by decide +kernel
theorem dX1_spread_35 : decode cX1_spread 35 = .ok (.ishr, 1) := by decide +kernel
theorem dX1_spread_36 : decode cX1_spread 36 = .ok (.istore_n 2, 1) := by decide +kernel
theorem dX1_spread_37 : decode cX1_spread 37 = .ok (.iinc 4 1, 3) := by decide +kernel
theorem dX1_spread_40 : decode cX1_spread 40 = .ok (.goto (-33), 3) := by decide +kernel
theorem dX1_spread_43 : decode cX1_spread 43 = .ok (.iload_n 3, 1) := by decide +kernel
theorem dX1_spread_44 : decode cX1_spread 44 = .ok (.ireturn, 1) := by decide +kernel
theorem dX1_row_0 : decode cX1_row 0 = .ok (.iconst 0, 1) := by decide +kernel
theorem dX1_row_1 : decode cX1_row 1 = .ok (.istore_n 2, 1) := by decide +kernel
theorem dX1_row_2 : decode cX1_row 2 = .ok (.iconst 0, 1) := by decide +kernel
theorem dX1_row_3 : decode cX1_row 3 = .ok (.istore_n 3, 1) := by decide +kernel
theorem dX1_row_4 : decode cX1_row 4 = .ok (.iload_n 3, 1) := by decide +kernel
theorem dX1_row_5 : decode cX1_row 5 = .ok (.iconst 3, 1) := by decide +kernel
theorem dX1_row_6 : decode cX1_row 6 = .ok (.if_icmp .ge 37, 3) := by decide +kernel
theorem dX1_row_9 : decode cX1_row 9 = .ok (.iload_n 0, 1) := by decide +kernel
theorem dX1_row_10 : decode cX1_row 10 = .ok (.iload_n 3, 1) := by decide +kernel
theorem dX1_row_11 : decode cX1_row 11 = .ok (.invokestatic 16, 3) := by decide +kernel
theorem dX1_row_14 : decode cX1_row 14 = .ok (.istore 4, 2) := by decide +kernel
theorem dX1_row_16 : decode cX1_row 16 = .ok (.iload_n 2, 1) := by decide +kernel
theorem dX1_row_17 : decode cX1_row 17 = .ok (.iconst 3, 1) := by decide +kernel
theorem dX1_row_18 : decode cX1_row 18 = .ok (.ishl, 1) := by decide +kernel
theorem dX1_row_19 : decode cX1_row 19 = .ok (.iload 4, 2) := by decide +kernel
theorem dX1_row_21 : decode cX1_row 21 = .ok (.iconst (-1), 1) := by decide +kernel
theorem dX1_row_22 : decode cX1_row 22 = .ok (.if_icmp .ne 7, 3) := by decide +kernel
theorem dX1_row_25 : decode cX1_row 25 = .ok (.iconst 0, 1) := by decide +kernel
theorem dX1_row_26 : decode cX1_row 26 = .ok (.goto 9, 3) := by decide +kernel
theorem dX1_row_29 : decode cX1_row 29 = .ok (.iload 4, 2) := by decide +kernel
theorem dX1_row_31 : decode cX1_row 31 = .ok (.iload_n 1, 1) := by decide +kernel
theorem dX1_row_32 : decode cX1_row 32 = .ok (.invokestatic 20, 3) := by decide +kernel
theorem dX1_row_35 : decode cX1_row 35 = .ok (.ior, 1) := by decide +kernel
theorem dX1_row_36 : decode cX1_row 36 = .ok (.istore_n 2, 1) := by decide +kernel
theorem dX1_row_37 : decode cX1_row 37 = .ok (.iinc 3 1, 3) := by decide +kernel
theorem dX1_row_40 : decode cX1_row 40 = .ok (.goto (-36), 3) := by decide +kernel
theorem dX1_row_43 : decode cX1_row 43 = .ok (.iload_n 2, 1) := by decide +kernel
theorem dX1_row_44 : decode cX1_row 44 = .ok (.ireturn, 1) := by decide +kernel
theorem dX1_agrees_0 : decode cX1_agrees 0 = .ok (.iconst 0, 1) := by decide +kernel
theorem dX1_agrees_1 : decode cX1_agrees 1 = .ok (.istore_n 2, 1) := by decide +kernel
theorem dX1_agrees_2 : decode cX1_agrees 2 = .ok (.iconst 0, 1) := by decide +kernel
theorem dX1_agrees_3 : decode cX1_agrees 3 = .ok (.istore_n 3, 1) := by decide +kernel
theorem dX1_agrees_4 : decode cX1_agrees 4 = .ok (.iload_n 3, 1) := by decide +kernel
theorem dX1_agrees_5 : decode cX1_agrees 5 = .ok (.iload_n 0, 1) := by decide +kernel
theorem dX1_agrees_6 : decode cX1_agrees 6 = .ok (.invokestatic 23, 3) := by decide +kernel
theorem dX1_agrees_9 : decode cX1_agrees 9 = .ok (.if_icmp .ge 24, 3) := by decide +kernel
theorem dX1_agrees_12 : decode cX1_agrees 12 = .ok (.iload_n 2, 1) := by decide +kernel
theorem dX1_agrees_13 : decode cX1_agrees 13 = .ok (.iload_n 0, 1) := by decide +kernel
theorem dX1_agrees_14 : decode cX1_agrees 14 = .ok (.iload_n 3, 1) := by decide +kernel
theorem dX1_agrees_15 : decode cX1_agrees 15 = .ok (.invokestatic 16, 3) := by decide +kernel
theorem dX1_agrees_18 : decode cX1_agrees 18 = .ok (.iload_n 1, 1) := by decide +kernel
theorem dX1_agrees_19 : decode cX1_agrees 19 = .ok (.iload_n 3, 1) := by decide +kernel
theorem dX1_agrees_20 : decode cX1_agrees 20 = .ok (.invokestatic 27, 3) := by decide +kernel
theorem dX1_agrees_23 : decode cX1_agrees 23 = .ok (.invokestatic 12, 3) := by decide +kernel
theorem dX1_agrees_26 : decode cX1_agrees 26 = .ok (.istore_n 2, 1) := by decide +kernel
theorem dX1_agrees_27 : decode cX1_agrees 27 = .ok (.iinc 3 1, 3) := by decide +kernel
theorem dX1_agrees_30 : decode cX1_agrees 30 = .ok (.goto (-26), 3) := by decide +kernel
theorem dX1_agrees_33 : decode cX1_agrees 33 = .ok (.iload_n 0, 1) := by decide +kernel
theorem dX1_agrees_34 : decode cX1_agrees 34 = .ok (.iload_n 2, 1) := by decide +kernel
theorem dX1_agrees_35 : decode cX1_agrees 35 = .ok (.invokestatic 30, 3) := by decide +kernel
theorem dX1_agrees_38 : decode cX1_agrees 38 = .ok (.iload_n 1, 1) := by decide +kernel
theorem dX1_agrees_39 : decode cX1_agrees 39 = .ok (.if_icmp .ne 7, 3) := by decide +kernel
theorem dX1_agrees_42 : decode cX1_agrees 42 = .ok (.iconst 1, 1) := by decide +kernel
theorem dX1_agrees_43 : decode cX1_agrees 43 = .ok (.goto 4, 3) := by decide +kernel
theorem dX1_agrees_46 : decode cX1_agrees 46 = .ok (.iconst 0, 1) := by decide +kernel
theorem dX1_agrees_47 : decode cX1_agrees 47 = .ok (.ireturn, 1) := by decide +kernel
theorem dX2_init_0 : decode cX2_init 0 = .ok (.aload_n 0, 1) := by decide +kernel
theorem dX2_init_1 : decode cX2_init 1 = .ok (.invokespecial 3, 3) := by decide +kernel
theorem dX2_init_4 : decode cX2_init 4 = .ok (.aload_n 0, 1) := by decide +kernel
theorem dX2_init_5 : decode cX2_init 5 = .ok (.new 9, 3) := by decide +kernel
theorem dX2_init_8 : decode cX2_init 8 = .ok (.dup, 1) := by decide +kernel
theorem dX2_init_9 : decode cX2_init 9 = .ok (.iconst 5, 1) := by decide +kernel
theorem dX2_init_10 : decode cX2_init 10 = .ok (.invokespecial 11, 3) := by decide +kernel
theorem dX2_init_13 : decode cX2_init 13 = .ok (.putfield 14, 3) := by decide +kernel
theorem dX2_init_16 : decode cX2_init 16 = .ok (.return_, 1) := by decide +kernel
theorem dX2_at_0 : decode cX2_at 0 = .ok (.aload_n 0, 1) := by decide +kernel
theorem dX2_at_1 : decode cX2_at 1 = .ok (.getfield 14, 3) := by decide +kernel
theorem dX2_at_4 : decode cX2_at 4 = .ok (.iload_n 1, 1) := by decide +kernel
theorem dX2_at_5 : decode cX2_at 5 = .ok (.invokevirtual 20, 3) := by decide +kernel
theorem dX2_at_8 : decode cX2_at 8 = .ok (.ireturn, 1) := by decide +kernel
theorem dX2_add_0 : decode cX2_add 0 = .ok (.aload_n 0, 1) := by decide +kernel
theorem dX2_add_1 : decode cX2_add 1 = .ok (.getfield 24, 3) := by decide +kernel
theorem dX2_add_4 : decode cX2_add 4 = .ok (.iconst 5, 1) := by decide +kernel
theorem dX2_add_5 : decode cX2_add 5 = .ok (.if_icmp .ge 25, 3) := by decide +kernel
theorem dX2_add_8 : decode cX2_add 8 = .ok (.aload_n 0, 1) := by decide +kernel
theorem dX2_add_9 : decode cX2_add 9 = .ok (.getfield 14, 3) := by decide +kernel
theorem dX2_add_12 : decode cX2_add 12 = .ok (.aload_n 0, 1) := by decide +kernel
theorem dX2_add_13 : decode cX2_add 13 = .ok (.getfield 24, 3) := by decide +kernel
theorem dX2_add_16 : decode cX2_add 16 = .ok (.iload_n 1, 1) := by decide +kernel
theorem dX2_add_17 : decode cX2_add 17 = .ok (.invokevirtual 28, 3) := by decide +kernel
theorem dX2_add_20 : decode cX2_add 20 = .ok (.aload_n 0, 1) := by decide +kernel
theorem dX2_add_21 : decode cX2_add 21 = .ok (.dup, 1) := by decide +kernel
theorem dX2_add_22 : decode cX2_add 22 = .ok (.getfield 24, 3) := by decide +kernel
theorem dX2_add_25 : decode cX2_add 25 = .ok (.iconst 1, 1) := by decide +kernel
theorem dX2_add_26 : decode cX2_add 26 = .ok (.iadd, 1) := by decide +kernel
theorem dX2_add_27 : decode cX2_add 27 = .ok (.putfield 24, 3) := by decide +kernel
theorem dX2_add_30 : decode cX2_add 30 = .ok (.return_, 1) := by decide +kernel
theorem dX2_clear_0 : decode cX2_clear 0 = .ok (.aload_n 0, 1) := by decide +kernel
theorem dX2_clear_1 : decode cX2_clear 1 = .ok (.iconst 0, 1) := by decide +kernel
theorem dX2_clear_2 : decode cX2_clear 2 = .ok (.putfield 24, 3) := by decide +kernel
theorem dX2_clear_5 : decode cX2_clear 5 = .ok (.return_, 1) := by decide +kernel
theorem dX2_copyFrom_0 : decode cX2_copyFrom 0 = .ok (.aload_n 0, 1) := by decide +kernel
theorem dX2_copyFrom_1 : decode cX2_copyFrom 1 = .ok (.getfield 14, 3) := by decide +kernel
theorem dX2_copyFrom_4 : decode cX2_copyFrom 4 = .ok (.aload_n 1, 1) := by decide +kernel
theorem dX2_copyFrom_5 : decode cX2_copyFrom 5 = .ok (.getfield 14, 3) := by decide +kernel
theorem dX2_copyFrom_8 : decode cX2_copyFrom 8 = .ok (.invokevirtual 32, 3) := by decide +kernel
theorem dX2_copyFrom_11 : decode cX2_copyFrom 11 = .ok (.aload_n 0, 1) := by decide +kernel
theorem dX2_copyFrom_12 : decode cX2_copyFrom 12 = .ok (.aload_n 1, 1) := by decide +kernel
theorem dX2_copyFrom_13 : decode cX2_copyFrom 13 = .ok (.getfield 24, 3) := by decide +kernel
theorem dX2_copyFrom_16 : decode cX2_copyFrom 16 = .ok (.putfield 24, 3) := by decide +kernel
theorem dX2_copyFrom_19 : decode cX2_copyFrom 19 = .ok (.return_, 1) := by decide +kernel
theorem dX2_variables_0 : decode cX2_variables 0 = .ok (.iconst 0, 1) := by decide +kernel
theorem dX2_variables_1 : decode cX2_variables 1 = .ok (.istore_n 2, 1) := by decide +kernel
theorem dX2_variables_2 : decode cX2_variables 2 = .ok (.iconst 0, 1) := by decide +kernel
theorem dX2_variables_3 : decode cX2_variables 3 = .ok (.istore_n 3, 1) := by decide +kernel
theorem dX2_variables_4 : decode cX2_variables 4 = .ok (.iload_n 3, 1) := by decide +kernel
theorem dX2_variables_5 : decode cX2_variables 5 = .ok (.aload_n 0, 1) := by decide +kernel
theorem dX2_variables_6 : decode cX2_variables 6 = .ok (.getfield 24, 3) := by decide +kernel
theorem dX2_variables_9 : decode cX2_variables 9 = .ok (.if_icmp .ge 40, 3) := by decide +kernel
theorem dX2_variables_12 : decode cX2_variables 12 = .ok (.aload_n 0, 1) := by decide +kernel
theorem dX2_variables_13 : decode cX2_variables 13 = .ok (.getfield 14, 3) := by decide +kernel
theorem dX2_variables_16 : decode cX2_variables 16 = .ok (.iload_n 3, 1) := by decide +kernel
theorem dX2_variables_17 : decode cX2_variables 17 = .ok (.invokevirtual 20, 3) := by decide +kernel
theorem dX2_variables_20 : decode cX2_variables 20 = .ok (.istore 4, 2) := by decide +kernel
theorem dX2_variables_22 : decode cX2_variables 22 = .ok (.iload_n 2, 1) := by decide +kernel
theorem dX2_variables_23 : decode cX2_variables 23 = .ok (.iload 4, 2) := by decide +kernel
theorem dX2_variables_25 : decode cX2_variables 25 = .ok (.invokestatic 36, 3) := by decide +kernel
theorem dX2_variables_28 : decode cX2_variables 28 = .ok (.iload_n 1, 1) := by decide +kernel
theorem dX2_variables_29 : decode cX2_variables 29 = .ok (.if_icmp .ne 11, 3) := by decide +kernel
theorem dX2_variables_32 : decode cX2_variables 32 = .ok (.iload 4, 2) := by decide +kernel
theorem dX2_variables_34 : decode cX2_variables 34 = .ok (.invokestatic 42, 3) := by decide +kernel
theorem dX2_variables_37 : decode cX2_variables 37 = .ok (.goto 4, 3) := by decide +kernel
theorem dX2_variables_40 : decode cX2_variables 40 = .ok (.iconst 0, 1) := by decide +kernel
theorem dX2_variables_41 : decode cX2_variables 41 = .ok (.ior, 1) := by decide +kernel
theorem dX2_variables_42 : decode cX2_variables 42 = .ok (.istore_n 2, 1) := by decide +kernel
theorem dX2_variables_43 : decode cX2_variables 43 = .ok (.iinc 3 1, 3) := by decide +kernel
theorem dX2_variables_46 : decode cX2_variables 46 = .ok (.goto (-42), 3) := by decide +kernel
theorem dX2_variables_49 : decode cX2_variables 49 = .ok (.iload_n 2, 1) := by decide +kernel
theorem dX2_variables_50 : decode cX2_variables 50 = .ok (.ireturn, 1) := by decide +kernel
theorem dX2_standing_0 : decode cX2_standing 0 = .ok (.iconst 0, 1) := by decide +kernel
theorem dX2_standing_1 : decode cX2_standing 1 = .ok (.istore_n 2, 1) := by decide +kernel
theorem dX2_standing_2 : decode cX2_standing 2 = .ok (.iconst 0, 1) := by decide +kernel
theorem dX2_standing_3 : decode cX2_standing 3 = .ok (.istore_n 3, 1) := by decide +kernel
theorem dX2_standing_4 : decode cX2_standing 4 = .ok (.iload_n 3, 1) := by decide +kernel
theorem dX2_standing_5 : decode cX2_standing 5 = .ok (.aload_n 0, 1) := by decide +kernel
theorem dX2_standing_6 : decode cX2_standing 6 = .ok (.getfield 24, 3) := by decide +kernel
theorem dX2_standing_9 : decode cX2_standing 9 = .ok (.if_icmp .ge 32, 3) := by decide +kernel
theorem dX2_standing_12 : decode cX2_standing 12 = .ok (.iload_n 2, 1) := by decide +kernel
theorem dX2_standing_13 : decode cX2_standing 13 = .ok (.aload_n 0, 1) := by decide +kernel
theorem dX2_standing_14 : decode cX2_standing 14 = .ok (.getfield 14, 3) := by decide +kernel
theorem dX2_standing_17 : decode cX2_standing 17 = .ok (.iload_n 3, 1) := by decide +kernel
theorem dX2_standing_18 : decode cX2_standing 18 = .ok (.invokevirtual 20, 3) := by decide +kernel
theorem dX2_standing_21 : decode cX2_standing 21 = .ok (.iload_n 1, 1) := by decide +kernel
theorem dX2_standing_22 : decode cX2_standing 22 = .ok (.invokestatic 45, 3) := by decide +kernel
theorem dX2_standing_25 : decode cX2_standing 25 = .ok (.ifCond .eq 7, 3) := by decide +kernel
theorem dX2_standing_28 : decode cX2_standing 28 = .ok (.iconst 1, 1) := by decide +kernel
theorem dX2_standing_29 : decode cX2_standing 29 = .ok (.goto 4, 3) := by decide +kernel
theorem dX2_standing_32 : decode cX2_standing 32 = .ok (.iconst 0, 1) := by decide +kernel
theorem dX2_standing_33 : decode cX2_standing 33 = .ok (.iadd, 1) := by decide +kernel
theorem dX2_standing_34 : decode cX2_standing 34 = .ok (.istore_n 2, 1) := by decide +kernel
theorem dX2_standing_35 : decode cX2_standing 35 = .ok (.iinc 3 1, 3) := by decide +kernel
theorem dX2_standing_38 : decode cX2_standing 38 = .ok (.goto (-34), 3) := by decide +kernel
theorem dX2_standing_41 : decode cX2_standing 41 = .ok (.iload_n 2, 1) := by decide +kernel
theorem dX2_standing_42 : decode cX2_standing 42 = .ok (.ireturn, 1) := by decide +kernel
theorem dX2_nextWith_0 : decode cX2_nextWith 0 = .ok (.iload_n 2, 1) := by decide +kernel
theorem dX2_nextWith_1 : decode cX2_nextWith 1 = .ok (.istore_n 3, 1) := by decide +kernel
theorem dX2_nextWith_2 : decode cX2_nextWith 2 = .ok (.iconst 0, 1) := by decide +kernel
theorem dX2_nextWith_3 : decode cX2_nextWith 3 = .ok (.istore 4, 2) := by decide +kernel
theorem dX2_nextWith_5 : decode cX2_nextWith 5 = .ok (.iload 4, 2) := by decide +kernel
theorem dX2_nextWith_7 : decode cX2_nextWith 7 = .ok (.aload_n 0, 1) := by decide +kernel
theorem dX2_nextWith_8 : decode cX2_nextWith 8 = .ok (.getfield 24, 3) := by decide +kernel
theorem dX2_nextWith_11 : decode cX2_nextWith 11 = .ok (.if_icmp .ge 44, 3) := by decide +kernel
theorem dX2_nextWith_14 : decode cX2_nextWith 14 = .ok (.iload_n 3, 1) := by decide +kernel
theorem dX2_nextWith_15 : decode cX2_nextWith 15 = .ok (.iconst 1, 1) := by decide +kernel
theorem dX2_nextWith_16 : decode cX2_nextWith 16 = .ok (.iadd, 1) := by decide +kernel
theorem dX2_nextWith_17 : decode cX2_nextWith 17 = .ok (.aload_n 0, 1) := by decide +kernel
theorem dX2_nextWith_18 : decode cX2_nextWith 18 = .ok (.getfield 24, 3) := by decide +kernel
theorem dX2_nextWith_21 : decode cX2_nextWith 21 = .ok (.if_icmp .lt 7, 3) := by decide +kernel
theorem dX2_nextWith_24 : decode cX2_nextWith 24 = .ok (.iconst 0, 1) := by decide +kernel
theorem dX2_nextWith_25 : decode cX2_nextWith 25 = .ok (.goto 6, 3) := by decide +kernel
theorem dX2_nextWith_28 : decode cX2_nextWith 28 = .ok (.iload_n 3, 1) := by decide +kernel
theorem dX2_nextWith_29 : decode cX2_nextWith 29 = .ok (.iconst 1, 1) := by decide +kernel
theorem dX2_nextWith_30 : decode cX2_nextWith 30 = .ok (.iadd, 1) := by decide +kernel
theorem dX2_nextWith_31 : decode cX2_nextWith 31 = .ok (.istore_n 3, 1) := by decide +kernel
theorem dX2_nextWith_32 : decode cX2_nextWith 32 = .ok (.aload_n 0, 1) := by decide +kernel
theorem dX2_nextWith_33 : decode cX2_nextWith 33 = .ok (.getfield 14, 3) := by decide +kernel
theorem dX2_nextWith_36 : decode cX2_nextWith 36 = .ok (.iload_n 3, 1) := by decide +kernel
theorem dX2_nextWith_37 : decode cX2_nextWith 37 = .ok (.invokevirtual 20, 3) := by decide +kernel
theorem dX2_nextWith_40 : decode cX2_nextWith 40 = .ok (.iload_n 1, 1) := by decide +kernel
theorem dX2_nextWith_41 : decode cX2_nextWith 41 = .ok (.invokestatic 45, 3) := by decide +kernel
theorem dX2_nextWith_44 : decode cX2_nextWith 44 = .ok (.ifCond .eq 5, 3) := by decide +kernel
theorem dX2_nextWith_47 : decode cX2_nextWith 47 = .ok (.iload_n 3, 1) := by decide +kernel
theorem dX2_nextWith_48 : decode cX2_nextWith 48 = .ok (.ireturn, 1) := by decide +kernel
theorem dX2_nextWith_49 : decode cX2_nextWith 49 = .ok (.iinc 4 1, 3) := by decide +kernel
theorem dX2_nextWith_52 : decode cX2_nextWith 52 = .ok (.goto (-47), 3) := by decide +kernel
theorem dX2_nextWith_55 : decode cX2_nextWith 55 = .ok (.iload_n 3, 1) := by decide +kernel
theorem dX2_nextWith_56 : decode cX2_nextWith 56 = .ok (.ireturn, 1) := by decide +kernel
theorem dX3_init_0 : decode cX3_init 0 = .ok (.aload_n 0, 1) := by decide +kernel
theorem dX3_init_1 : decode cX3_init 1 = .ok (.invokespecial 3, 3) := by decide +kernel
theorem dX3_init_4 : decode cX3_init 4 = .ok (.aload_n 0, 1) := by decide +kernel
theorem dX3_init_5 : decode cX3_init 5 = .ok (.new 9, 3) := by decide +kernel
theorem dX3_init_8 : decode cX3_init 8 = .ok (.dup, 1) := by decide +kernel
theorem dX3_init_9 : decode cX3_init 9 = .ok (.iconst 5, 1) := by decide +kernel
theorem dX3_init_10 : decode cX3_init 10 = .ok (.invokespecial 11, 3) := by decide +kernel
theorem dX3_init_13 : decode cX3_init 13 = .ok (.putfield 14, 3) := by decide +kernel
theorem dX3_init_16 : decode cX3_init 16 = .ok (.return_, 1) := by decide +kernel
theorem dX3_weighAll_0 : decode cX3_weighAll 0 = .ok (.iconst 1, 1) := by decide +kernel
theorem dX3_weighAll_1 : decode cX3_weighAll 1 = .ok (.istore_n 3, 1) := by decide +kernel
theorem dX3_weighAll_2 : decode cX3_weighAll 2 = .ok (.iconst 0, 1) := by decide +kernel
theorem dX3_weighAll_3 : decode cX3_weighAll 3 = .ok (.istore 4, 2) := by decide +kernel
theorem dX3_weighAll_5 : decode cX3_weighAll 5 = .ok (.iload 4, 2) := by decide +kernel
theorem dX3_weighAll_7 : decode cX3_weighAll 7 = .ok (.aload_n 1, 1) := by decide +kernel
theorem dX3_weighAll_8 : decode cX3_weighAll 8 = .ok (.getfield 20, 3) := by decide +kernel
theorem dX3_weighAll_11 : decode cX3_weighAll 11 = .ok (.if_icmp .ge 32, 3) := by decide +kernel
theorem dX3_weighAll_14 : decode cX3_weighAll 14 = .ok (.aload_n 0, 1) := by decide +kernel
theorem dX3_weighAll_15 : decode cX3_weighAll 15 = .ok (.getfield 14, 3) := by decide +kernel
theorem dX3_weighAll_18 : decode cX3_weighAll 18 = .ok (.iload 4, 2) := by decide +kernel
theorem dX3_weighAll_20 : decode cX3_weighAll 20 = .ok (.aload_n 1, 1) := by decide +kernel
theorem dX3_weighAll_21 : decode cX3_weighAll 21 = .ok (.iload 4, 2) := by decide +kernel
theorem dX3_weighAll_23 : decode cX3_weighAll 23 = .ok (.invokevirtual 26, 3) := by decide +kernel
theorem dX3_weighAll_26 : decode cX3_weighAll 26 = .ok (.aload_n 2, 1) := by decide +kernel
theorem dX3_weighAll_27 : decode cX3_weighAll 27 = .ok (.invokestatic 30, 3) := by decide +kernel
theorem dX3_weighAll_30 : decode cX3_weighAll 30 = .ok (.invokevirtual 34, 3) := by decide +kernel
theorem dX3_weighAll_33 : decode cX3_weighAll 33 = .ok (.iload_n 3, 1) := by decide +kernel
theorem dX3_weighAll_34 : decode cX3_weighAll 34 = .ok (.iconst 3, 1) := by decide +kernel
theorem dX3_weighAll_35 : decode cX3_weighAll 35 = .ok (.imul, 1) := by decide +kernel
theorem dX3_weighAll_36 : decode cX3_weighAll 36 = .ok (.istore_n 3, 1) := by decide +kernel
theorem dX3_weighAll_37 : decode cX3_weighAll 37 = .ok (.iinc 4 1, 3) := by decide +kernel
theorem dX3_weighAll_40 : decode cX3_weighAll 40 = .ok (.goto (-35), 3) := by decide +kernel
theorem dX3_weighAll_43 : decode cX3_weighAll 43 = .ok (.aload_n 0, 1) := by decide +kernel
theorem dX3_weighAll_44 : decode cX3_weighAll 44 = .ok (.bipush 10, 2) := by decide +kernel
theorem dX3_weighAll_46 : decode cX3_weighAll 46 = .ok (.putfield 38, 3) := by decide +kernel
theorem dX3_weighAll_49 : decode cX3_weighAll 49 = .ok (.aload_n 0, 1) := by decide +kernel
theorem dX3_weighAll_50 : decode cX3_weighAll 50 = .ok (.ldc2_w 41, 3) := by decide +kernel
theorem dX3_weighAll_53 : decode cX3_weighAll 53 = .ok (.putfield 43, 3) := by decide +kernel
theorem dX3_weighAll_56 : decode cX3_weighAll 56 = .ok (.iconst 0, 1) := by decide +kernel
theorem dX3_weighAll_57 : decode cX3_weighAll 57 = .ok (.istore 4, 2) := by decide +kernel
theorem dX3_weighAll_59 : decode cX3_weighAll 59 = .ok (.iload 4, 2) := by decide +kernel
theorem dX3_weighAll_61 : decode cX3_weighAll 61 = .ok (.iload_n 3, 1) := by decide +kernel
theorem dX3_weighAll_62 : decode cX3_weighAll 62 = .ok (.if_icmp .ge 16, 3) := by decide +kernel
theorem dX3_weighAll_65 : decode cX3_weighAll 65 = .ok (.aload_n 0, 1) := by decide +kernel
theorem dX3_weighAll_66 : decode cX3_weighAll 66 = .ok (.aload_n 1, 1) := by decide +kernel
theorem dX3_weighAll_67 : decode cX3_weighAll 67 = .ok (.iload 4, 2) := by decide +kernel
theorem dX3_weighAll_69 : decode cX3_weighAll 69 = .ok (.invokevirtual 47, 3) := by decide +kernel
theorem dX3_weighAll_72 : decode cX3_weighAll 72 = .ok (.iinc 4 1, 3) := by decide +kernel
theorem dX3_weighAll_75 : decode cX3_weighAll 75 = .ok (.goto (-16), 3) := by decide +kernel
theorem dX3_weighAll_78 : decode cX3_weighAll 78 = .ok (.return_, 1) := by decide +kernel
theorem dX3_sizeOf_0 : decode cX3_sizeOf 0 = .ok (.iconst 0, 1) := by decide +kernel
theorem dX3_sizeOf_1 : decode cX3_sizeOf 1 = .ok (.istore_n 2, 1) := by decide +kernel
theorem dX3_sizeOf_2 : decode cX3_sizeOf 2 = .ok (.iconst 0, 1) := by decide +kernel
theorem dX3_sizeOf_3 : decode cX3_sizeOf 3 = .ok (.istore_n 3, 1) := by decide +kernel
theorem dX3_sizeOf_4 : decode cX3_sizeOf 4 = .ok (.iload_n 3, 1) := by decide +kernel
theorem dX3_sizeOf_5 : decode cX3_sizeOf 5 = .ok (.sipush 512, 3) := by decide +kernel
theorem dX3_sizeOf_8 : decode cX3_sizeOf 8 = .ok (.if_icmp .ge 37, 3) := by decide +kernel
theorem dX3_sizeOf_11 : decode cX3_sizeOf 11 = .ok (.iload_n 2, 1) := by decide +kernel
theorem dX3_sizeOf_12 : decode cX3_sizeOf 12 = .ok (.aload_n 1, 1) := by decide +kernel
theorem dX3_sizeOf_13 : decode cX3_sizeOf 13 = .ok (.iload_n 0, 1) := by decide +kernel
theorem dX3_sizeOf_14 : decode cX3_sizeOf 14 = .ok (.invokestatic 51, 3) := by decide +kernel
theorem dX3_sizeOf_17 : decode cX3_sizeOf 17 = .ok (.iload_n 3, 1) := by decide +kernel
theorem dX3_sizeOf_18 : decode cX3_sizeOf 18 = .ok (.invokevirtual 56, 3) := by decide +kernel
theorem dX3_sizeOf_21 : decode cX3_sizeOf 21 = .ok (.ifCond .eq 15, 3) := by decide +kernel
theorem dX3_sizeOf_24 : decode cX3_sizeOf 24 = .ok (.iload_n 0, 1) := by decide +kernel
theorem dX3_sizeOf_25 : decode cX3_sizeOf 25 = .ok (.iload_n 3, 1) := by decide +kernel
theorem dX3_sizeOf_26 : decode cX3_sizeOf 26 = .ok (.invokestatic 62, 3) := by decide +kernel
theorem dX3_sizeOf_29 : decode cX3_sizeOf 29 = .ok (.ifCond .eq 7, 3) := by decide +kernel
theorem dX3_sizeOf_32 : decode cX3_sizeOf 32 = .ok (.iconst 1, 1) := by decide +kernel
theorem dX3_sizeOf_33 : decode cX3_sizeOf 33 = .ok (.goto 4, 3) := by decide +kernel
theorem dX3_sizeOf_36 : decode cX3_sizeOf 36 = .ok (.iconst 0, 1) := by decide +kernel
theorem dX3_sizeOf_37 : decode cX3_sizeOf 37 = .ok (.iadd, 1) := by decide +kernel
theorem dX3_sizeOf_38 : decode cX3_sizeOf 38 = .ok (.istore_n 2, 1) := by decide +kernel
theorem dX3_sizeOf_39 : decode cX3_sizeOf 39 = .ok (.iinc 3 1, 3) := by decide +kernel
theorem dX3_sizeOf_42 : decode cX3_sizeOf 42 = .ok (.goto (-38), 3) := by decide +kernel
theorem dX3_sizeOf_45 : decode cX3_sizeOf 45 = .ok (.iload_n 2, 1) := by decide +kernel
theorem dX3_sizeOf_46 : decode cX3_sizeOf 46 = .ok (.ireturn, 1) := by decide +kernel
theorem dX3_weigh_0 : decode cX3_weigh 0 = .ok (.iload_n 2, 1) := by decide +kernel
theorem dX3_weigh_1 : decode cX3_weigh 1 = .ok (.istore_n 3, 1) := by decide +kernel
theorem dX3_weigh_2 : decode cX3_weigh 2 = .ok (.iconst 0, 1) := by decide +kernel
theorem dX3_weigh_3 : decode cX3_weigh 3 = .ok (.istore 4, 2) := by decide +kernel
theorem dX3_weigh_5 : decode cX3_weigh 5 = .ok (.lconst 1, 1) := by decide +kernel
theorem dX3_weigh_6 : decode cX3_weigh 6 = .ok (.lstore 5, 2) := by decide +kernel
theorem dX3_weigh_8 : decode cX3_weigh 8 = .ok (.iconst 0, 1) := by decide +kernel
theorem dX3_weigh_9 : decode cX3_weigh 9 = .ok (.istore 7, 2) := by decide +kernel
theorem dX3_weigh_11 : decode cX3_weigh 11 = .ok (.iconst 0, 1) := by decide +kernel
theorem dX3_weigh_12 : decode cX3_weigh 12 = .ok (.istore 8, 2) := by decide +kernel
theorem dX3_weigh_14 : decode cX3_weigh 14 = .ok (.iconst 0, 1) := by decide +kernel
theorem dX3_weigh_15 : decode cX3_weigh 15 = .ok (.istore 9, 2) := by decide +kernel
theorem dX3_weigh_17 : decode cX3_weigh 17 = .ok (.iload 9, 2) := by decide +kernel
theorem dX3_weigh_19 : decode cX3_weigh 19 = .ok (.aload_n 1, 1) := by decide +kernel
theorem dX3_weigh_20 : decode cX3_weigh 20 = .ok (.getfield 20, 3) := by decide +kernel
theorem dX3_weigh_23 : decode cX3_weigh 23 = .ok (.if_icmp .ge 85, 3) := by decide +kernel
theorem dX3_weigh_26 : decode cX3_weigh 26 = .ok (.aload_n 1, 1) := by decide +kernel
theorem dX3_weigh_27 : decode cX3_weigh 27 = .ok (.iload 9, 2) := by decide +kernel
theorem dX3_weigh_29 : decode cX3_weigh 29 = .ok (.invokevirtual 26, 3) := by decide +kernel
theorem dX3_weigh_32 : decode cX3_weigh 32 = .ok (.invokestatic 65, 3) := by decide +kernel
theorem dX3_weigh_35 : decode cX3_weigh 35 = .ok (.istore 10, 2) := by decide +kernel
theorem dX3_weigh_37 : decode cX3_weigh 37 = .ok (.iload_n 3, 1) := by decide +kernel
theorem dX3_weigh_38 : decode cX3_weigh 38 = .ok (.iconst 3, 1) := by decide +kernel
theorem dX3_weigh_39 : decode cX3_weigh 39 = .ok (.irem, 1) := by decide +kernel
theorem dX3_weigh_40 : decode cX3_weigh 40 = .ok (.istore 11, 2) := by decide +kernel
theorem dX3_weigh_42 : decode cX3_weigh 42 = .ok (.iload_n 3, 1) := by decide +kernel
theorem dX3_weigh_43 : decode cX3_weigh 43 = .ok (.iconst 3, 1) := by decide +kernel
theorem dX3_weigh_44 : decode cX3_weigh 44 = .ok (.idiv, 1) := by decide +kernel
theorem dX3_weigh_45 : decode cX3_weigh 45 = .ok (.istore_n 3, 1) := by decide +kernel
theorem dX3_weigh_46 : decode cX3_weigh 46 = .ok (.iload 4, 2) := by decide +kernel
theorem dX3_weigh_48 : decode cX3_weigh 48 = .ok (.iload 11, 2) := by decide +kernel
theorem dX3_weigh_50 : decode cX3_weigh 50 = .ok (.iadd, 1) := by decide +kernel
theorem dX3_weigh_51 : decode cX3_weigh 51 = .ok (.istore 4, 2) := by decide +kernel
theorem dX3_weigh_53 : decode cX3_weigh 53 = .ok (.iconst 0, 1) := by decide +kernel
theorem dX3_weigh_54 : decode cX3_weigh 54 = .ok (.istore 12, 2) := by decide +kernel
theorem dX3_weigh_56 : decode cX3_weigh 56 = .ok (.iload 12, 2) := by decide +kernel
theorem dX3_weigh_58 : decode cX3_weigh 58 = .ok (.iload 11, 2) := by decide +kernel
theorem dX3_weigh_60 : decode cX3_weigh 60 = .ok (.if_icmp .ge 42, 3) := by decide +kernel
theorem dX3_weigh_63 : decode cX3_weigh 63 = .ok (.lload 5, 2) := by decide +kernel
theorem dX3_weigh_65 : decode cX3_weigh 65 = .ok (.aload_n 0, 1) := by decide +kernel
theorem dX3_weigh_66 : decode cX3_weigh 66 = .ok (.getfield 14, 3) := by decide +kernel
theorem dX3_weigh_69 : decode cX3_weigh 69 = .ok (.iload 9, 2) := by decide +kernel
theorem dX3_weigh_71 : decode cX3_weigh 71 = .ok (.invokevirtual 68, 3) := by decide +kernel
theorem dX3_weigh_74 : decode cX3_weigh 74 = .ok (.invokestatic 69, 3) := by decide +kernel
theorem dX3_weigh_77 : decode cX3_weigh 77 = .ok (.lstore 5, 2) := by decide +kernel
theorem dX3_weigh_79 : decode cX3_weigh 79 = .ok (.iload 8, 2) := by decide +kernel
theorem dX3_weigh_81 : decode cX3_weigh 81 = .ok (.iload 7, 2) := by decide +kernel
theorem dX3_weigh_83 : decode cX3_weigh 83 = .ok (.iload 10, 2) := by decide +kernel
theorem dX3_weigh_85 : decode cX3_weigh 85 = .ok (.iand, 1) := by decide +kernel
theorem dX3_weigh_86 : decode cX3_weigh 86 = .ok (.ior, 1) := by decide +kernel
theorem dX3_weigh_87 : decode cX3_weigh 87 = .ok (.istore 8, 2) := by decide +kernel
theorem dX3_weigh_89 : decode cX3_weigh 89 = .ok (.iload 7, 2) := by decide +kernel
theorem dX3_weigh_91 : decode cX3_weigh 91 = .ok (.iload 10, 2) := by decide +kernel
theorem dX3_weigh_93 : decode cX3_weigh 93 = .ok (.ior, 1) := by decide +kernel
theorem dX3_weigh_94 : decode cX3_weigh 94 = .ok (.istore 7, 2) := by decide +kernel
theorem dX3_weigh_96 : decode cX3_weigh 96 = .ok (.iinc 12 1, 3) := by decide +kernel
theorem dX3_weigh_99 : decode cX3_weigh 99 = .ok (.goto (-43), 3) := by decide +kernel
theorem dX3_weigh_102 : decode cX3_weigh 102 = .ok (.iinc 9 1, 3) := by decide +kernel
theorem dX3_weigh_105 : decode cX3_weigh 105 = .ok (.goto (-88), 3) := by decide +kernel
theorem dX3_weigh_108 : decode cX3_weigh 108 = .ok (.iload 8, 2) := by decide +kernel
theorem dX3_weigh_110 : decode cX3_weigh 110 = .ok (.aload_n 1, 1) := by decide +kernel
theorem dX3_weigh_111 : decode cX3_weigh 111 = .ok (.iconst 0, 1) := by decide +kernel
theorem dX3_weigh_112 : decode cX3_weigh 112 = .ok (.invokevirtual 73, 3) := by decide +kernel
theorem dX3_weigh_115 : decode cX3_weigh 115 = .ok (.if_icmp .ne 29, 3) := by decide +kernel
theorem dX3_weigh_118 : decode cX3_weigh 118 = .ok (.aload_n 0, 1) := by decide +kernel
theorem dX3_weigh_119 : decode cX3_weigh 119 = .ok (.aload_n 0, 1) := by decide +kernel
theorem dX3_weigh_120 : decode cX3_weigh 120 = .ok (.getfield 38, 3) := by decide +kernel
theorem dX3_weigh_123 : decode cX3_weigh 123 = .ok (.iload 4, 2) := by decide +kernel
theorem dX3_weigh_125 : decode cX3_weigh 125 = .ok (.invokestatic 76, 3) := by decide +kernel
theorem dX3_weigh_128 : decode cX3_weigh 128 = .ok (.putfield 38, 3) := by decide +kernel
theorem dX3_weigh_131 : decode cX3_weigh 131 = .ok (.aload_n 0, 1) := by decide +kernel
theorem dX3_weigh_132 : decode cX3_weigh 132 = .ok (.aload_n 0, 1) := by decide +kernel
theorem dX3_weigh_133 : decode cX3_weigh 133 = .ok (.getfield 43, 3) := by decide +kernel
theorem dX3_weigh_136 : decode cX3_weigh 136 = .ok (.lload 5, 2) := by decide +kernel
theorem dX3_weigh_138 : decode cX3_weigh 138 = .ok (.invokestatic 82, 3) := by decide +kernel
theorem dX3_weigh_141 : decode cX3_weigh 141 = .ok (.putfield 43, 3) := by decide +kernel
theorem dX3_weigh_144 : decode cX3_weigh 144 = .ok (.return_, 1) := by decide +kernel
theorem dX3_times_0 : decode cX3_times 0 = .ok (.iload_n 2, 1) := by decide +kernel
theorem dX3_times_1 : decode cX3_times 1 = .ok (.ifCond .ne 5, 3) := by decide +kernel
theorem dX3_times_4 : decode cX3_times 4 = .ok (.lconst 0, 1) := by decide +kernel
theorem dX3_times_5 : decode cX3_times 5 = .ok (.lreturn, 1) := by decide +kernel
theorem dX3_times_6 : decode cX3_times 6 = .ok (.lload_n 0, 1) := by decide +kernel
theorem dX3_times_7 : decode cX3_times 7 = .ok (.ldc2_w 41, 3) := by decide +kernel
theorem dX3_times_10 : decode cX3_times 10 = .ok (.iload_n 2, 1) := by decide +kernel
theorem dX3_times_11 : decode cX3_times 11 = .ok (.i2l, 1) := by decide +kernel
theorem dX3_times_12 : decode cX3_times 12 = .ok (.ldiv, 1) := by decide +kernel
theorem dX3_times_13 : decode cX3_times 13 = .ok (.lcmp, 1) := by decide +kernel
theorem dX3_times_14 : decode cX3_times 14 = .ok (.ifCond .le 9, 3) := by decide +kernel
theorem dX3_times_17 : decode cX3_times 17 = .ok (.ldc2_w 41, 3) := by decide +kernel
theorem dX3_times_20 : decode cX3_times 20 = .ok (.goto 7, 3) := by decide +kernel
theorem dX3_times_23 : decode cX3_times 23 = .ok (.lload_n 0, 1) := by decide +kernel
theorem dX3_times_24 : decode cX3_times 24 = .ok (.iload_n 2, 1) := by decide +kernel
theorem dX3_times_25 : decode cX3_times 25 = .ok (.i2l, 1) := by decide +kernel
theorem dX3_times_26 : decode cX3_times 26 = .ok (.lmul, 1) := by decide +kernel
theorem dX3_times_27 : decode cX3_times 27 = .ok (.lreturn, 1) := by decide +kernel
theorem dX4_init_0 : decode cX4_init 0 = .ok (.aload_n 0, 1) := by decide +kernel
theorem dX4_init_1 : decode cX4_init 1 = .ok (.invokespecial 3, 3) := by decide +kernel
theorem dX4_init_4 : decode cX4_init 4 = .ok (.aload_n 0, 1) := by decide +kernel
theorem dX4_init_5 : decode cX4_init 5 = .ok (.new 9, 3) := by decide +kernel
theorem dX4_init_8 : decode cX4_init 8 = .ok (.dup, 1) := by decide +kernel
theorem dX4_init_9 : decode cX4_init 9 = .ok (.invokespecial 11, 3) := by decide +kernel
theorem dX4_init_12 : decode cX4_init 12 = .ok (.putfield 12, 3) := by decide +kernel
theorem dX4_init_15 : decode cX4_init 15 = .ok (.aload_n 0, 1) := by decide +kernel
theorem dX4_init_16 : decode cX4_init 16 = .ok (.new 18, 3) := by decide +kernel
theorem dX4_init_19 : decode cX4_init 19 = .ok (.dup, 1) := by decide +kernel
theorem dX4_init_20 : decode cX4_init 20 = .ok (.invokespecial 20, 3) := by decide +kernel
theorem dX4_init_23 : decode cX4_init 23 = .ok (.putfield 21, 3) := by decide +kernel
theorem dX4_init_26 : decode cX4_init 26 = .ok (.aload_n 0, 1) := by decide +kernel
theorem dX4_init_27 : decode cX4_init 27 = .ok (.new 18, 3) := by decide +kernel
theorem dX4_init_30 : decode cX4_init 30 = .ok (.dup, 1) := by decide +kernel
theorem dX4_init_31 : decode cX4_init 31 = .ok (.invokespecial 20, 3) := by decide +kernel
theorem dX4_init_34 : decode cX4_init 34 = .ok (.putfield 25, 3) := by decide +kernel
theorem dX4_init_37 : decode cX4_init 37 = .ok (.aload_n 0, 1) := by decide +kernel
theorem dX4_init_38 : decode cX4_init 38 = .ok (.new 28, 3) := by decide +kernel
theorem dX4_init_41 : decode cX4_init 41 = .ok (.dup, 1) := by decide +kernel
theorem dX4_init_42 : decode cX4_init 42 = .ok (.iconst 5, 1) := by decide +kernel
theorem dX4_init_43 : decode cX4_init 43 = .ok (.invokespecial 30, 3) := by decide +kernel
theorem dX4_init_46 : decode cX4_init 46 = .ok (.putfield 33, 3) := by decide +kernel
theorem dX4_init_49 : decode cX4_init 49 = .ok (.aload_n 0, 1) := by decide +kernel
theorem dX4_init_50 : decode cX4_init 50 = .ok (.new 28, 3) := by decide +kernel
theorem dX4_init_53 : decode cX4_init 53 = .ok (.dup, 1) := by decide +kernel
theorem dX4_init_54 : decode cX4_init 54 = .ok (.iconst 5, 1) := by decide +kernel
theorem dX4_init_55 : decode cX4_init 55 = .ok (.invokespecial 30, 3) := by decide +kernel
theorem dX4_init_58 : decode cX4_init 58 = .ok (.putfield 37, 3) := by decide +kernel
theorem dX4_init_61 : decode cX4_init 61 = .ok (.aload_n 0, 1) := by decide +kernel
theorem dX4_init_62 : decode cX4_init 62 = .ok (.new 28, 3) := by decide +kernel
theorem dX4_init_65 : decode cX4_init 65 = .ok (.dup, 1) := by decide +kernel
theorem dX4_init_66 : decode cX4_init 66 = .ok (.sipush 2560, 3) := by decide +kernel
theorem dX4_init_69 : decode cX4_init 69 = .ok (.invokespecial 30, 3) := by decide +kernel
theorem dX4_init_72 : decode cX4_init 72 = .ok (.putfield 40, 3) := by decide +kernel
theorem dX4_init_75 : decode cX4_init 75 = .ok (.aload_n 0, 1) := by decide +kernel
theorem dX4_init_76 : decode cX4_init 76 = .ok (.new 28, 3) := by decide +kernel
theorem dX4_init_79 : decode cX4_init 79 = .ok (.dup, 1) := by decide +kernel
theorem dX4_init_80 : decode cX4_init 80 = .ok (.iconst 5, 1) := by decide +kernel
theorem dX4_init_81 : decode cX4_init 81 = .ok (.invokespecial 30, 3) := by decide +kernel
theorem dX4_init_84 : decode cX4_init 84 = .ok (.putfield 43, 3) := by decide +kernel
theorem dX4_init_87 : decode cX4_init 87 = .ok (.return_, 1) := by decide +kernel
theorem dX4_forget_0 : decode cX4_forget 0 = .ok (.aload_n 0, 1) := by decide +kernel
theorem dX4_forget_1 : decode cX4_forget 1 = .ok (.iconst 0, 1) := by decide +kernel
theorem dX4_forget_2 : decode cX4_forget 2 = .ok (.putfield 46, 3) := by decide +kernel
theorem dX4_forget_5 : decode cX4_forget 5 = .ok (.return_, 1) := by decide +kernel
theorem dX4_refresh_0 : decode cX4_refresh 0 = .ok (.aload_n 0, 1) := by decide +kernel
theorem dX4_refresh_1 : decode cX4_refresh 1 = .ok (.getfield 46, 3) := by decide +kernel
theorem dX4_refresh_4 : decode cX4_refresh 4 = .ok (.ifCond .eq 4, 3) := by decide +kernel
theorem dX4_refresh_7 : decode cX4_refresh 7 = .ok (.return_, 1) := by decide +kernel
theorem dX4_refresh_8 : decode cX4_refresh 8 = .ok (.aload_n 0, 1) := by decide +kernel
theorem dX4_refresh_9 : decode cX4_refresh 9 = .ok (.iconst 1, 1) := by decide +kernel
theorem dX4_refresh_10 : decode cX4_refresh 10 = .ok (.putfield 46, 3) := by decide +kernel
theorem dX4_refresh_13 : decode cX4_refresh 13 = .ok (.aload_n 1, 1) := by decide +kernel
theorem dX4_refresh_14 : decode cX4_refresh 14 = .ok (.aload_n 0, 1) := by decide +kernel
theorem dX4_refresh_15 : decode cX4_refresh 15 = .ok (.getfield 37, 3) := by decide +kernel
theorem dX4_refresh_18 : decode cX4_refresh 18 = .ok (.iconst (-1), 1) := by decide +kernel
theorem dX4_refresh_19 : decode cX4_refresh 19 = .ok (.iconst (-1), 1) := by decide +kernel
theorem dX4_refresh_20 : decode cX4_refresh 20 = .ok (.invokestatic 50, 3) := by decide +kernel
theorem dX4_refresh_23 : decode cX4_refresh 23 = .ok (.pop, 1) := by decide +kernel
theorem dX4_refresh_24 : decode cX4_refresh 24 = .ok (.aload_n 0, 1) := by decide +kernel
theorem dX4_refresh_25 : decode cX4_refresh 25 = .ok (.getfield 21, 3) := by decide +kernel
theorem dX4_refresh_28 : decode cX4_refresh 28 = .ok (.aload_n 1, 1) := by decide +kernel
theorem dX4_refresh_29 : decode cX4_refresh 29 = .ok (.getfield 54, 3) := by decide +kernel
theorem dX4_refresh_32 : decode cX4_refresh 32 = .ok (.invokevirtual 59, 3) := by decide +kernel
theorem dX4_refresh_35 : decode cX4_refresh 35 = .ok (.aload_n 0, 1) := by decide +kernel
theorem dX4_refresh_36 : decode cX4_refresh 36 = .ok (.iconst 0, 1) := by decide +kernel
theorem dX4_refresh_37 : decode cX4_refresh 37 = .ok (.putfield 63, 3) := by decide +kernel
theorem dX4_refresh_40 : decode cX4_refresh 40 = .ok (.iconst 0, 1) := by decide +kernel
theorem dX4_refresh_41 : decode cX4_refresh 41 = .ok (.istore_n 2, 1) := by decide +kernel
theorem dX4_refresh_42 : decode cX4_refresh 42 = .ok (.iload_n 2, 1) := by decide +kernel
theorem dX4_refresh_43 : decode cX4_refresh 43 = .ok (.iconst 5, 1) := by decide +kernel
theorem dX4_refresh_44 : decode cX4_refresh 44 = .ok (.if_icmp .ge 101, 3) := by decide +kernel
theorem dX4_refresh_47 : decode cX4_refresh 47 = .ok (.aload_n 0, 1) := by decide +kernel
theorem dX4_refresh_48 : decode cX4_refresh 48 = .ok (.aload_n 1, 1) := by decide +kernel
theorem dX4_refresh_49 : decode cX4_refresh 49 = .ok (.iload_n 2, 1) := by decide +kernel
theorem dX4_refresh_50 : decode cX4_refresh 50 = .ok (.invokevirtual 67, 3) := by decide +kernel
theorem dX4_refresh_53 : decode cX4_refresh 53 = .ok (.istore_n 3, 1) := by decide +kernel
theorem dX4_refresh_54 : decode cX4_refresh 54 = .ok (.iconst 0, 1) := by decide +kernel
theorem dX4_refresh_55 : decode cX4_refresh 55 = .ok (.istore 4, 2) := by decide +kernel
theorem dX4_refresh_57 : decode cX4_refresh 57 = .ok (.iload_n 3, 1) := by decide +kernel
theorem dX4_refresh_58 : decode cX4_refresh 58 = .ok (.ifCond .eq 81, 3) := by decide +kernel
theorem dX4_refresh_61 : decode cX4_refresh 61 = .ok (.iload 4, 2) := by decide +kernel
theorem dX4_refresh_63 : decode cX4_refresh 63 = .ok (.ldc 71, 2) := by decide +kernel
theorem dX4_refresh_65 : decode cX4_refresh 65 = .ok (.if_icmp .ge 74, 3) := by decide +kernel
theorem dX4_refresh_68 : decode cX4_refresh 68 = .ok (.aload_n 0, 1) := by decide +kernel
theorem dX4_refresh_69 : decode cX4_refresh 69 = .ok (.dup, 1) := by decide +kernel
theorem dX4_refresh_70 : decode cX4_refresh 70 = .ok (.getfield 63, 3) := by decide +kernel
theorem dX4_refresh_73 : decode cX4_refresh 73 = .ok (.iconst 1, 1) := by decide +kernel
theorem dX4_refresh_74 : decode cX4_refresh 74 = .ok (.iadd, 1) := by decide +kernel
theorem dX4_refresh_75 : decode cX4_refresh 75 = .ok (.putfield 63, 3) := by decide +kernel
theorem dX4_refresh_78 : decode cX4_refresh 78 = .ok (.aload_n 0, 1) := by decide +kernel
theorem dX4_refresh_79 : decode cX4_refresh 79 = .ok (.getfield 25, 3) := by decide +kernel
theorem dX4_refresh_82 : decode cX4_refresh 82 = .ok (.invokevirtual 72, 3) := by decide +kernel
theorem dX4_refresh_85 : decode cX4_refresh 85 = .ok (.iconst 0, 1) := by decide +kernel
theorem dX4_refresh_86 : decode cX4_refresh 86 = .ok (.istore 5, 2) := by decide +kernel
theorem dX4_refresh_88 : decode cX4_refresh 88 = .ok (.iload 5, 2) := by decide +kernel
theorem dX4_refresh_90 : decode cX4_refresh 90 = .ok (.aload_n 1, 1) := by decide +kernel
theorem dX4_refresh_91 : decode cX4_refresh 91 = .ok (.getfield 75, 3) := by decide +kernel
theorem dX4_refresh_94 : decode cX4_refresh 94 = .ok (.if_icmp .ge 27, 3) := by decide +kernel
theorem dX4_refresh_97 : decode cX4_refresh 97 = .ok (.aload_n 0, 1) := by decide +kernel
theorem dX4_refresh_98 : decode cX4_refresh 98 = .ok (.aload_n 1, 1) := by decide +kernel
theorem dX4_refresh_99 : decode cX4_refresh 99 = .ok (.iload 5, 2) := by decide +kernel
theorem dX4_refresh_101 : decode cX4_refresh 101 = .ok (.iload_n 2, 1) := by decide +kernel
theorem dX4_refresh_102 : decode cX4_refresh 102 = .ok (.invokevirtual 78, 3) := by decide +kernel
theorem dX4_refresh_105 : decode cX4_refresh 105 = .ok (.ifCond .eq 10, 3) := by decide +kernel
theorem dX4_refresh_108 : decode cX4_refresh 108 = .ok (.aload_n 0, 1) := by decide +kernel
theorem dX4_refresh_109 : decode cX4_refresh 109 = .ok (.aload_n 1, 1) := by decide +kernel
theorem dX4_refresh_110 : decode cX4_refresh 110 = .ok (.iload 5, 2) := by decide +kernel
theorem dX4_refresh_112 : decode cX4_refresh 112 = .ok (.invokevirtual 82, 3) := by decide +kernel
theorem dX4_refresh_115 : decode cX4_refresh 115 = .ok (.iinc 5 1, 3) := by decide +kernel
theorem dX4_refresh_118 : decode cX4_refresh 118 = .ok (.goto (-30), 3) := by decide +kernel
theorem dX4_refresh_121 : decode cX4_refresh 121 = .ok (.aload_n 0, 1) := by decide +kernel
theorem dX4_refresh_122 : decode cX4_refresh 122 = .ok (.getfield 21, 3) := by decide +kernel
theorem dX4_refresh_125 : decode cX4_refresh 125 = .ok (.aload_n 0, 1) := by decide +kernel
theorem dX4_refresh_126 : decode cX4_refresh 126 = .ok (.getfield 25, 3) := by decide +kernel
theorem dX4_refresh_129 : decode cX4_refresh 129 = .ok (.invokevirtual 86, 3) := by decide +kernel
theorem dX4_refresh_132 : decode cX4_refresh 132 = .ok (.istore_n 3, 1) := by decide +kernel
theorem dX4_refresh_133 : decode cX4_refresh 133 = .ok (.iinc 4 1, 3) := by decide +kernel
theorem dX4_refresh_136 : decode cX4_refresh 136 = .ok (.goto (-79), 3) := by decide +kernel
theorem dX4_refresh_139 : decode cX4_refresh 139 = .ok (.iinc 2 1, 3) := by decide +kernel
theorem dX4_refresh_142 : decode cX4_refresh 142 = .ok (.goto (-100), 3) := by decide +kernel
theorem dX4_refresh_145 : decode cX4_refresh 145 = .ok (.aload_n 0, 1) := by decide +kernel
theorem dX4_refresh_146 : decode cX4_refresh 146 = .ok (.getfield 43, 3) := by decide +kernel
theorem dX4_refresh_149 : decode cX4_refresh 149 = .ok (.iconst 0, 1) := by decide +kernel
theorem dX4_refresh_150 : decode cX4_refresh 150 = .ok (.invokevirtual 90, 3) := by decide +kernel
theorem dX4_refresh_153 : decode cX4_refresh 153 = .ok (.aload_n 0, 1) := by decide +kernel
theorem dX4_refresh_154 : decode cX4_refresh 154 = .ok (.getfield 40, 3) := by decide +kernel
theorem dX4_refresh_157 : decode cX4_refresh 157 = .ok (.iconst 0, 1) := by decide +kernel
theorem dX4_refresh_158 : decode cX4_refresh 158 = .ok (.invokevirtual 90, 3) := by decide +kernel
theorem dX4_refresh_161 : decode cX4_refresh 161 = .ok (.iconst 0, 1) := by decide +kernel
theorem dX4_refresh_162 : decode cX4_refresh 162 = .ok (.istore_n 2, 1) := by decide +kernel
theorem dX4_refresh_163 : decode cX4_refresh 163 = .ok (.iload_n 2, 1) := by decide +kernel
theorem dX4_refresh_164 : decode cX4_refresh 164 = .ok (.aload_n 1, 1) := by decide +kernel
theorem dX4_refresh_165 : decode cX4_refresh 165 = .ok (.getfield 75, 3) := by decide +kernel
theorem dX4_refresh_168 : decode cX4_refresh 168 = .ok (.if_icmp .ge 23, 3) := by decide +kernel
theorem dX4_refresh_171 : decode cX4_refresh 171 = .ok (.aload_n 1, 1) := by decide +kernel
theorem dX4_refresh_172 : decode cX4_refresh 172 = .ok (.iload_n 2, 1) := by decide +kernel
theorem dX4_refresh_173 : decode cX4_refresh 173 = .ok (.invokevirtual 93, 3) := by decide +kernel
theorem dX4_refresh_176 : decode cX4_refresh 176 = .ok (.ifCond .ne 9, 3) := by decide +kernel
theorem dX4_refresh_179 : decode cX4_refresh 179 = .ok (.aload_n 0, 1) := by decide +kernel
theorem dX4_refresh_180 : decode cX4_refresh 180 = .ok (.aload_n 1, 1) := by decide +kernel
theorem dX4_refresh_181 : decode cX4_refresh 181 = .ok (.iload_n 2, 1) := by decide +kernel
theorem dX4_refresh_182 : decode cX4_refresh 182 = .ok (.invokevirtual 82, 3) := by decide +kernel
theorem dX4_refresh_185 : decode cX4_refresh 185 = .ok (.iinc 2 1, 3) := by decide +kernel
theorem dX4_refresh_188 : decode cX4_refresh 188 = .ok (.goto (-25), 3) := by decide +kernel
theorem dX4_refresh_191 : decode cX4_refresh 191 = .ok (.return_, 1) := by decide +kernel
theorem dX4_hasWork_0 : decode cX4_hasWork 0 = .ok (.iconst 0, 1) := by decide +kernel
theorem dX4_hasWork_1 : decode cX4_hasWork 1 = .ok (.istore_n 3, 1) := by decide +kernel
theorem dX4_hasWork_2 : decode cX4_hasWork 2 = .ok (.iload_n 3, 1) := by decide +kernel
theorem dX4_hasWork_3 : decode cX4_hasWork 3 = .ok (.aload_n 1, 1) := by decide +kernel
theorem dX4_hasWork_4 : decode cX4_hasWork 4 = .ok (.getfield 75, 3) := by decide +kernel
theorem dX4_hasWork_7 : decode cX4_hasWork 7 = .ok (.if_icmp .ge 21, 3) := by decide +kernel
theorem dX4_hasWork_10 : decode cX4_hasWork 10 = .ok (.aload_n 0, 1) := by decide +kernel
theorem dX4_hasWork_11 : decode cX4_hasWork 11 = .ok (.aload_n 1, 1) := by decide +kernel
theorem dX4_hasWork_12 : decode cX4_hasWork 12 = .ok (.iload_n 3, 1) := by decide +kernel
theorem dX4_hasWork_13 : decode cX4_hasWork 13 = .ok (.iload_n 2, 1) := by decide +kernel
theorem dX4_hasWork_14 : decode cX4_hasWork 14 = .ok (.invokevirtual 78, 3) := by decide +kernel
theorem dX4_hasWork_17 : decode cX4_hasWork 17 = .ok (.ifCond .eq 5, 3) := by decide +kernel
theorem dX4_hasWork_20 : decode cX4_hasWork 20 = .ok (.iconst 1, 1) := by decide +kernel
theorem dX4_hasWork_21 : decode cX4_hasWork 21 = .ok (.ireturn, 1) := by decide +kernel
theorem dX4_hasWork_22 : decode cX4_hasWork 22 = .ok (.iinc 3 1, 3) := by decide +kernel
theorem dX4_hasWork_25 : decode cX4_hasWork 25 = .ok (.goto (-23), 3) := by decide +kernel
theorem dX4_hasWork_28 : decode cX4_hasWork 28 = .ok (.iconst 0, 1) := by decide +kernel
theorem dX4_hasWork_29 : decode cX4_hasWork 29 = .ok (.ireturn, 1) := by decide +kernel
theorem dX4_works_0 : decode cX4_works 0 = .ok (.aload_n 1, 1) := by decide +kernel
theorem dX4_works_1 : decode cX4_works 1 = .ok (.iload_n 2, 1) := by decide +kernel
theorem dX4_works_2 : decode cX4_works 2 = .ok (.invokevirtual 93, 3) := by decide +kernel
theorem dX4_works_5 : decode cX4_works 5 = .ok (.ifCond .ne 29, 3) := by decide +kernel
theorem dX4_works_8 : decode cX4_works 8 = .ok (.aload_n 0, 1) := by decide +kernel
theorem dX4_works_9 : decode cX4_works 9 = .ok (.getfield 37, 3) := by decide +kernel
theorem dX4_works_12 : decode cX4_works 12 = .ok (.aload_n 1, 1) := by decide +kernel
theorem dX4_works_13 : decode cX4_works 13 = .ok (.getfield 97, 3) := by decide +kernel
theorem dX4_works_16 : decode cX4_works 16 = .ok (.iload_n 2, 1) := by decide +kernel
theorem dX4_works_17 : decode cX4_works 17 = .ok (.invokevirtual 100, 3) := by decide +kernel
theorem dX4_works_20 : decode cX4_works 20 = .ok (.invokestatic 104, 3) := by decide +kernel
theorem dX4_works_23 : decode cX4_works 23 = .ok (.invokevirtual 100, 3) := by decide +kernel
theorem dX4_works_26 : decode cX4_works 26 = .ok (.iload_n 3, 1) := by decide +kernel
theorem dX4_works_27 : decode cX4_works 27 = .ok (.if_icmp .ne 7, 3) := by decide +kernel
theorem dX4_works_30 : decode cX4_works 30 = .ok (.iconst 1, 1) := by decide +kernel
theorem dX4_works_31 : decode cX4_works 31 = .ok (.goto 4, 3) := by decide +kernel
theorem dX4_works_34 : decode cX4_works 34 = .ok (.iconst 0, 1) := by decide +kernel
theorem dX4_works_35 : decode cX4_works 35 = .ok (.ireturn, 1) := by decide +kernel
theorem dX4_fire_0 : decode cX4_fire 0 = .ok (.aload_n 1, 1) := by decide +kernel
theorem dX4_fire_1 : decode cX4_fire 1 = .ok (.iload_n 2, 1) := by decide +kernel
theorem dX4_fire_2 : decode cX4_fire 2 = .ok (.invokevirtual 109, 3) := by decide +kernel
theorem dX4_fire_5 : decode cX4_fire 5 = .ok (.astore_n 3, 1) := by decide +kernel
theorem dX4_fire_6 : decode cX4_fire 6 = .ok (.aload_n 1, 1) := by decide +kernel
theorem dX4_fire_7 : decode cX4_fire 7 = .ok (.getfield 97, 3) := by decide +kernel
theorem dX4_fire_10 : decode cX4_fire 10 = .ok (.iload_n 2, 1) := by decide +kernel
theorem dX4_fire_11 : decode cX4_fire 11 = .ok (.invokevirtual 100, 3) := by decide +kernel
theorem dX4_fire_14 : decode cX4_fire 14 = .ok (.istore 4, 2) := by decide +kernel
theorem dX4_fire_16 : decode cX4_fire 16 = .ok (.aload_n 0, 1) := by decide +kernel
theorem dX4_fire_17 : decode cX4_fire 17 = .ok (.getfield 12, 3) := by decide +kernel
theorem dX4_fire_20 : decode cX4_fire 20 = .ok (.aload_n 3, 1) := by decide +kernel
theorem dX4_fire_21 : decode cX4_fire 21 = .ok (.bipush 123, 2) := by decide +kernel
theorem dX4_fire_23 : decode cX4_fire 23 = .ok (.invokevirtual 113, 3) := by decide +kernel
theorem dX4_fire_26 : decode cX4_fire 26 = .ok (.iconst 0, 1) := by decide +kernel
theorem dX4_fire_27 : decode cX4_fire 27 = .ok (.istore 5, 2) := by decide +kernel
theorem dX4_fire_29 : decode cX4_fire 29 = .ok (.iload 5, 2) := by decide +kernel
theorem dX4_fire_31 : decode cX4_fire 31 = .ok (.sipush 4096, 3) := by decide +kernel
theorem dX4_fire_34 : decode cX4_fire 34 = .ok (.if_icmp .gt 114, 3) := by decide +kernel
theorem dX4_fire_37 : decode cX4_fire 37 = .ok (.aload_n 0, 1) := by decide +kernel
theorem dX4_fire_38 : decode cX4_fire 38 = .ok (.getfield 12, 3) := by decide +kernel
theorem dX4_fire_41 : decode cX4_fire 41 = .ok (.aload_n 0, 1) := by decide +kernel
theorem dX4_fire_42 : decode cX4_fire 42 = .ok (.getfield 21, 3) := by decide +kernel
theorem dX4_fire_45 : decode cX4_fire 45 = .ok (.invokevirtual 117, 3) := by decide +kernel
theorem dX4_fire_48 : decode cX4_fire 48 = .ok (.ifCond .eq 100, 3) := by decide +kernel
theorem dX4_fire_51 : decode cX4_fire 51 = .ok (.aload_n 0, 1) := by decide +kernel
theorem dX4_fire_52 : decode cX4_fire 52 = .ok (.aload_n 3, 1) := by decide +kernel
theorem dX4_fire_53 : decode cX4_fire 53 = .ok (.invokevirtual 120, 3) := by decide +kernel
theorem dX4_fire_56 : decode cX4_fire 56 = .ok (.ifCond .eq 6, 3) := by decide +kernel
theorem dX4_fire_59 : decode cX4_fire 59 = .ok (.goto 83, 3) := by decide +kernel
theorem dX4_fire_62 : decode cX4_fire 62 = .ok (.iload 4, 2) := by decide +kernel
theorem dX4_fire_64 : decode cX4_fire 64 = .ok (.aload_n 0, 1) := by decide +kernel
theorem dX4_fire_65 : decode cX4_fire 65 = .ok (.getfield 12, 3) := by decide +kernel
theorem dX4_fire_68 : decode cX4_fire 68 = .ok (.getfield 124, 3) := by decide +kernel
theorem dX4_fire_71 : decode cX4_fire 71 = .ok (.invokestatic 127, 3) := by decide +kernel
theorem dX4_fire_74 : decode cX4_fire 74 = .ok (.istore 6, 2) := by decide +kernel
theorem dX4_fire_76 : decode cX4_fire 76 = .ok (.iload 4, 2) := by decide +kernel
theorem dX4_fire_78 : decode cX4_fire 78 = .ok (.invokestatic 104, 3) := by decide +kernel
theorem dX4_fire_81 : decode cX4_fire 81 = .ok (.sipush 512, 3) := by decide +kernel
theorem dX4_fire_84 : decode cX4_fire 84 = .ok (.imul, 1) := by decide +kernel
theorem dX4_fire_85 : decode cX4_fire 85 = .ok (.iload 6, 2) := by decide +kernel
theorem dX4_fire_87 : decode cX4_fire 87 = .ok (.iadd, 1) := by decide +kernel
theorem dX4_fire_88 : decode cX4_fire 88 = .ok (.istore 7, 2) := by decide +kernel
theorem dX4_fire_90 : decode cX4_fire 90 = .ok (.aload_n 0, 1) := by decide +kernel
theorem dX4_fire_91 : decode cX4_fire 91 = .ok (.getfield 25, 3) := by decide +kernel
theorem dX4_fire_94 : decode cX4_fire 94 = .ok (.iload 4, 2) := by decide +kernel
theorem dX4_fire_96 : decode cX4_fire 96 = .ok (.invokestatic 104, 3) := by decide +kernel
theorem dX4_fire_99 : decode cX4_fire 99 = .ok (.iload 6, 2) := by decide +kernel
theorem dX4_fire_101 : decode cX4_fire 101 = .ok (.invokevirtual 131, 3) := by decide +kernel
theorem dX4_fire_104 : decode cX4_fire 104 = .ok (.aload_n 0, 1) := by decide +kernel
theorem dX4_fire_105 : decode cX4_fire 105 = .ok (.getfield 40, 3) := by decide +kernel
theorem dX4_fire_108 : decode cX4_fire 108 = .ok (.iload 7, 2) := by decide +kernel
theorem dX4_fire_110 : decode cX4_fire 110 = .ok (.aload_n 0, 1) := by decide +kernel
theorem dX4_fire_111 : decode cX4_fire 111 = .ok (.getfield 40, 3) := by decide +kernel
theorem dX4_fire_114 : decode cX4_fire 114 = .ok (.iload 7, 2) := by decide +kernel
theorem dX4_fire_116 : decode cX4_fire 116 = .ok (.invokevirtual 100, 3) := by decide +kernel
theorem dX4_fire_119 : decode cX4_fire 119 = .ok (.iconst 1, 1) := by decide +kernel
theorem dX4_fire_120 : decode cX4_fire 120 = .ok (.iadd, 1) := by decide +kernel
theorem dX4_fire_121 : decode cX4_fire 121 = .ok (.invokevirtual 135, 3) := by decide +kernel
theorem dX4_fire_124 : decode cX4_fire 124 = .ok (.aload_n 0, 1) := by decide +kernel
theorem dX4_fire_125 : decode cX4_fire 125 = .ok (.getfield 43, 3) := by decide +kernel
theorem dX4_fire_128 : decode cX4_fire 128 = .ok (.iload_n 2, 1) := by decide +kernel
theorem dX4_fire_129 : decode cX4_fire 129 = .ok (.aload_n 0, 1) := by decide +kernel
theorem dX4_fire_130 : decode cX4_fire 130 = .ok (.getfield 43, 3) := by decide +kernel
theorem dX4_fire_133 : decode cX4_fire 133 = .ok (.iload_n 2, 1) := by decide +kernel
theorem dX4_fire_134 : decode cX4_fire 134 = .ok (.invokevirtual 100, 3) := by decide +kernel
theorem dX4_fire_137 : decode cX4_fire 137 = .ok (.iconst 1, 1) := by decide +kernel
theorem dX4_fire_138 : decode cX4_fire 138 = .ok (.iadd, 1) := by decide +kernel
theorem dX4_fire_139 : decode cX4_fire 139 = .ok (.invokevirtual 135, 3) := by decide +kernel
theorem dX4_fire_142 : decode cX4_fire 142 = .ok (.iinc 5 1, 3) := by decide +kernel
theorem dX4_fire_145 : decode cX4_fire 145 = .ok (.goto (-116), 3) := by decide +kernel
theorem dX4_fire_148 : decode cX4_fire 148 = .ok (.return_, 1) := by decide +kernel
theorem dX4_isBarred_0 : decode cX4_isBarred 0 = .ok (.iconst 0, 1) := by decide +kernel
theorem dX4_isBarred_1 : decode cX4_isBarred 1 = .ok (.istore_n 2, 1) := by decide +kernel
theorem dX4_isBarred_2 : decode cX4_isBarred 2 = .ok (.iload_n 2, 1) := by decide +kernel
theorem dX4_isBarred_3 : decode cX4_isBarred 3 = .ok (.aload_n 1, 1) := by decide +kernel
theorem dX4_isBarred_4 : decode cX4_isBarred 4 = .ok (.getfield 138, 3) := by decide +kernel
theorem dX4_isBarred_7 : decode cX4_isBarred 7 = .ok (.if_icmp .ge 49, 3) := by decide +kernel
theorem dX4_isBarred_10 : decode cX4_isBarred 10 = .ok (.aload_n 1, 1) := by decide +kernel
theorem dX4_isBarred_11 : decode cX4_isBarred 11 = .ok (.iload_n 2, 1) := by decide +kernel
theorem dX4_isBarred_12 : decode cX4_isBarred 12 = .ok (.invokevirtual 143, 3) := by decide +kernel
theorem dX4_isBarred_15 : decode cX4_isBarred 15 = .ok (.istore_n 3, 1) := by decide +kernel
theorem dX4_isBarred_16 : decode cX4_isBarred 16 = .ok (.iload_n 3, 1) := by decide +kernel
theorem dX4_isBarred_17 : decode cX4_isBarred 17 = .ok (.invokestatic 144, 3) := by decide +kernel
theorem dX4_isBarred_20 : decode cX4_isBarred 20 = .ok (.ifCond .eq 30, 3) := by decide +kernel
theorem dX4_isBarred_23 : decode cX4_isBarred 23 = .ok (.aload_n 0, 1) := by decide +kernel
theorem dX4_isBarred_24 : decode cX4_isBarred 24 = .ok (.getfield 21, 3) := by decide +kernel
theorem dX4_isBarred_27 : decode cX4_isBarred 27 = .ok (.iload_n 3, 1) := by decide +kernel
theorem dX4_isBarred_28 : decode cX4_isBarred 28 = .ok (.invokestatic 104, 3) := by decide +kernel
theorem dX4_isBarred_31 : decode cX4_isBarred 31 = .ok (.iload_n 3, 1) := by decide +kernel
theorem dX4_isBarred_32 : decode cX4_isBarred 32 = .ok (.aload_n 0, 1) := by decide +kernel
theorem dX4_isBarred_33 : decode cX4_isBarred 33 = .ok (.getfield 12, 3) := by decide +kernel
theorem dX4_isBarred_36 : decode cX4_isBarred 36 = .ok (.getfield 124, 3) := by decide +kernel
theorem dX4_isBarred_39 : decode cX4_isBarred 39 = .ok (.invokestatic 127, 3) := by decide +kernel
theorem dX4_isBarred_42 : decode cX4_isBarred 42 = .ok (.invokevirtual 147, 3) := by decide +kernel
theorem dX4_isBarred_45 : decode cX4_isBarred 45 = .ok (.ifCond .eq 5, 3) := by decide +kernel
theorem dX4_isBarred_48 : decode cX4_isBarred 48 = .ok (.iconst 1, 1) := by decide +kernel
theorem dX4_isBarred_49 : decode cX4_isBarred 49 = .ok (.ireturn, 1) := by decide +kernel
theorem dX4_isBarred_50 : decode cX4_isBarred 50 = .ok (.iinc 2 1, 3) := by decide +kernel
theorem dX4_isBarred_53 : decode cX4_isBarred 53 = .ok (.goto (-51), 3) := by decide +kernel
theorem dX4_isBarred_56 : decode cX4_isBarred 56 = .ok (.iconst 0, 1) := by decide +kernel
theorem dX4_isBarred_57 : decode cX4_isBarred 57 = .ok (.ireturn, 1) := by decide +kernel
theorem dX4_reasonsOf_0 : decode cX4_reasonsOf 0 = .ok (.aload_n 0, 1) := by decide +kernel
theorem dX4_reasonsOf_1 : decode cX4_reasonsOf 1 = .ok (.getfield 40, 3) := by decide +kernel
theorem dX4_reasonsOf_4 : decode cX4_reasonsOf 4 = .ok (.iload_n 2, 1) := by decide +kernel
theorem dX4_reasonsOf_5 : decode cX4_reasonsOf 5 = .ok (.sipush 512, 3) := by decide +kernel
theorem dX4_reasonsOf_8 : decode cX4_reasonsOf 8 = .ok (.imul, 1) := by decide +kernel
theorem dX4_reasonsOf_9 : decode cX4_reasonsOf 9 = .ok (.iload_n 3, 1) := by decide +kernel
theorem dX4_reasonsOf_10 : decode cX4_reasonsOf 10 = .ok (.iadd, 1) := by decide +kernel
theorem dX4_reasonsOf_11 : decode cX4_reasonsOf 11 = .ok (.invokevirtual 100, 3) := by decide +kernel
theorem dX4_reasonsOf_14 : decode cX4_reasonsOf 14 = .ok (.aload_n 1, 1) := by decide +kernel
theorem dX4_reasonsOf_15 : decode cX4_reasonsOf 15 = .ok (.getfield 54, 3) := by decide +kernel
theorem dX4_reasonsOf_18 : decode cX4_reasonsOf 18 = .ok (.iload_n 2, 1) := by decide +kernel
theorem dX4_reasonsOf_19 : decode cX4_reasonsOf 19 = .ok (.iload_n 3, 1) := by decide +kernel
theorem dX4_reasonsOf_20 : decode cX4_reasonsOf 20 = .ok (.invokevirtual 147, 3) := by decide +kernel
theorem dX4_reasonsOf_23 : decode cX4_reasonsOf 23 = .ok (.ifCond .eq 7, 3) := by decide +kernel
theorem dX4_reasonsOf_26 : decode cX4_reasonsOf 26 = .ok (.iconst 1, 1) := by decide +kernel
theorem dX4_reasonsOf_27 : decode cX4_reasonsOf 27 = .ok (.goto 4, 3) := by decide +kernel
theorem dX4_reasonsOf_30 : decode cX4_reasonsOf 30 = .ok (.iconst 0, 1) := by decide +kernel
theorem dX4_reasonsOf_31 : decode cX4_reasonsOf 31 = .ok (.iadd, 1) := by decide +kernel
theorem dX4_reasonsOf_32 : decode cX4_reasonsOf 32 = .ok (.ireturn, 1) := by decide +kernel
theorem dX4_staysLayered_0 : decode cX4_staysLayered 0 = .ok (.aload_n 1, 1) := by decide +kernel
theorem dX4_staysLayered_1 : decode cX4_staysLayered 1 = .ok (.aload_n 0, 1) := by decide +kernel
theorem dX4_staysLayered_2 : decode cX4_staysLayered 2 = .ok (.getfield 33, 3) := by decide +kernel
theorem dX4_staysLayered_5 : decode cX4_staysLayered 5 = .ok (.iload_n 2, 1) := by decide +kernel
theorem dX4_staysLayered_6 : decode cX4_staysLayered 6 = .ok (.iload_n 3, 1) := by decide +kernel
theorem dX4_staysLayered_7 : decode cX4_staysLayered 7 = .ok (.invokestatic 50, 3) := by decide +kernel
theorem dX4_staysLayered_10 : decode cX4_staysLayered 10 = .ok (.ireturn, 1) := by decide +kernel
theorem dX4_settle_0 : decode cX4_settle 0 = .ok (.aload_n 1, 1) := by decide +kernel
theorem dX4_settle_1 : decode cX4_settle 1 = .ok (.iconst 0, 1) := by decide +kernel
theorem dX4_settle_2 : decode cX4_settle 2 = .ok (.invokevirtual 90, 3) := by decide +kernel
theorem dX4_settle_5 : decode cX4_settle 5 = .ok (.iconst 1, 1) := by decide +kernel
theorem dX4_settle_6 : decode cX4_settle 6 = .ok (.istore 4, 2) := by decide +kernel
theorem dX4_settle_8 : decode cX4_settle 8 = .ok (.iconst 0, 1) := by decide +kernel
theorem dX4_settle_9 : decode cX4_settle 9 = .ok (.istore 5, 2) := by decide +kernel
theorem dX4_settle_11 : decode cX4_settle 11 = .ok (.iload 4, 2) := by decide +kernel
theorem dX4_settle_13 : decode cX4_settle 13 = .ok (.ifCond .eq 118, 3) := by decide +kernel
theorem dX4_settle_16 : decode cX4_settle 16 = .ok (.iload 5, 2) := by decide +kernel
theorem dX4_settle_18 : decode cX4_settle 18 = .ok (.iconst 5, 1) := by decide +kernel
theorem dX4_settle_19 : decode cX4_settle 19 = .ok (.if_icmp .ge 112, 3) := by decide +kernel
theorem dX4_settle_22 : decode cX4_settle 22 = .ok (.iconst 0, 1) := by decide +kernel
theorem dX4_settle_23 : decode cX4_settle 23 = .ok (.istore 4, 2) := by decide +kernel
theorem dX4_settle_25 : decode cX4_settle 25 = .ok (.iconst 0, 1) := by decide +kernel
theorem dX4_settle_26 : decode cX4_settle 26 = .ok (.istore 6, 2) := by decide +kernel
theorem dX4_settle_28 : decode cX4_settle 28 = .ok (.iload 6, 2) := by decide +kernel
theorem dX4_settle_30 : decode cX4_settle 30 = .ok (.aload_n 0, 1) := by decide +kernel
theorem dX4_settle_31 : decode cX4_settle 31 = .ok (.getfield 75, 3) := by decide +kernel
theorem dX4_settle_34 : decode cX4_settle 34 = .ok (.if_icmp .ge 91, 3) := by decide +kernel
theorem dX4_settle_37 : decode cX4_settle 37 = .ok (.aload_n 0, 1) := by decide +kernel
theorem dX4_settle_38 : decode cX4_settle 38 = .ok (.iload 6, 2) := by decide +kernel
theorem dX4_settle_40 : decode cX4_settle 40 = .ok (.invokevirtual 109, 3) := by decide +kernel
theorem dX4_settle_43 : decode cX4_settle 43 = .ok (.astore 7, 2) := by decide +kernel
theorem dX4_settle_45 : decode cX4_settle 45 = .ok (.aload_n 0, 1) := by decide +kernel
theorem dX4_settle_46 : decode cX4_settle 46 = .ok (.getfield 97, 3) := by decide +kernel
theorem dX4_settle_49 : decode cX4_settle 49 = .ok (.iload 6, 2) := by decide +kernel
theorem dX4_settle_51 : decode cX4_settle 51 = .ok (.invokevirtual 100, 3) := by decide +kernel
theorem dX4_settle_54 : decode cX4_settle 54 = .ok (.istore 8, 2) := by decide +kernel
theorem dX4_settle_56 : decode cX4_settle 56 = .ok (.iconst 0, 1) := by decide +kernel
theorem dX4_settle_57 : decode cX4_settle 57 = .ok (.istore 9, 2) := by decide +kernel
theorem dX4_settle_59 : decode cX4_settle 59 = .ok (.iload 9, 2) := by decide +kernel
theorem dX4_settle_61 : decode cX4_settle 61 = .ok (.aload 7, 2) := by decide +kernel
theorem dX4_settle_63 : decode cX4_settle 63 = .ok (.getfield 138, 3) := by decide +kernel
theorem dX4_settle_66 : decode cX4_settle 66 = .ok (.if_icmp .ge 27, 3) := by decide +kernel
theorem dX4_settle_69 : decode cX4_settle 69 = .ok (.iload 4, 2) := by decide +kernel
theorem dX4_settle_71 : decode cX4_settle 71 = .ok (.aload_n 1, 1) := by decide +kernel
theorem dX4_settle_72 : decode cX4_settle 72 = .ok (.iload 8, 2) := by decide +kernel
theorem dX4_settle_74 : decode cX4_settle 74 = .ok (.aload 7, 2) := by decide +kernel
theorem dX4_settle_76 : decode cX4_settle 76 = .ok (.iload 9, 2) := by decide +kernel
theorem dX4_settle_78 : decode cX4_settle 78 = .ok (.invokevirtual 143, 3) := by decide +kernel
theorem dX4_settle_81 : decode cX4_settle 81 = .ok (.invokestatic 151, 3) := by decide +kernel
theorem dX4_settle_84 : decode cX4_settle 84 = .ok (.ior, 1) := by decide +kernel
theorem dX4_settle_85 : decode cX4_settle 85 = .ok (.istore 4, 2) := by decide +kernel
theorem dX4_settle_87 : decode cX4_settle 87 = .ok (.iinc 9 1, 3) := by decide +kernel
theorem dX4_settle_90 : decode cX4_settle 90 = .ok (.goto (-31), 3) := by decide +kernel
theorem dX4_settle_93 : decode cX4_settle 93 = .ok (.iload 4, 2) := by decide +kernel
theorem dX4_settle_95 : decode cX4_settle 95 = .ok (.iload 6, 2) := by decide +kernel
theorem dX4_settle_97 : decode cX4_settle 97 = .ok (.iload_n 2, 1) := by decide +kernel
theorem dX4_settle_98 : decode cX4_settle 98 = .ok (.if_icmp .ne 17, 3) := by decide +kernel
theorem dX4_settle_101 : decode cX4_settle 101 = .ok (.aload_n 1, 1) := by decide +kernel
theorem dX4_settle_102 : decode cX4_settle 102 = .ok (.iload 8, 2) := by decide +kernel
theorem dX4_settle_104 : decode cX4_settle 104 = .ok (.iload_n 3, 1) := by decide +kernel
theorem dX4_settle_105 : decode cX4_settle 105 = .ok (.invokestatic 151, 3) := by decide +kernel
theorem dX4_settle_108 : decode cX4_settle 108 = .ok (.ifCond .eq 7, 3) := by decide +kernel
theorem dX4_settle_111 : decode cX4_settle 111 = .ok (.iconst 1, 1) := by decide +kernel
theorem dX4_settle_112 : decode cX4_settle 112 = .ok (.goto 4, 3) := by decide +kernel
theorem dX4_settle_115 : decode cX4_settle 115 = .ok (.iconst 0, 1) := by decide +kernel
theorem dX4_settle_116 : decode cX4_settle 116 = .ok (.ior, 1) := by decide +kernel
theorem dX4_settle_117 : decode cX4_settle 117 = .ok (.istore 4, 2) := by decide +kernel
theorem dX4_settle_119 : decode cX4_settle 119 = .ok (.iinc 6 1, 3) := by decide +kernel
theorem dX4_settle_122 : decode cX4_settle 122 = .ok (.goto (-94), 3) := by decide +kernel
theorem dX4_settle_125 : decode cX4_settle 125 = .ok (.iinc 5 1, 3) := by decide +kernel
theorem dX4_settle_128 : decode cX4_settle 128 = .ok (.goto (-117), 3) := by decide +kernel
theorem dX4_settle_131 : decode cX4_settle 131 = .ok (.iload 4, 2) := by decide +kernel
theorem dX4_settle_133 : decode cX4_settle 133 = .ok (.ifCond .ne 7, 3) := by decide +kernel
theorem dX4_settle_136 : decode cX4_settle 136 = .ok (.iconst 1, 1) := by decide +kernel
theorem dX4_settle_137 : decode cX4_settle 137 = .ok (.goto 4, 3) := by decide +kernel
theorem dX4_settle_140 : decode cX4_settle 140 = .ok (.iconst 0, 1) := by decide +kernel
theorem dX4_settle_141 : decode cX4_settle 141 = .ok (.ireturn, 1) := by decide +kernel
theorem dX4_raise_0 : decode cX4_raise 0 = .ok (.aload_n 0, 1) := by decide +kernel
theorem dX4_raise_1 : decode cX4_raise 1 = .ok (.iload_n 2, 1) := by decide +kernel
theorem dX4_raise_2 : decode cX4_raise 2 = .ok (.invokestatic 104, 3) := by decide +kernel
theorem dX4_raise_5 : decode cX4_raise 5 = .ok (.invokevirtual 100, 3) := by decide +kernel
theorem dX4_raise_8 : decode cX4_raise 8 = .ok (.iload_n 2, 1) := by decide +kernel
theorem dX4_raise_9 : decode cX4_raise 9 = .ok (.invokestatic 144, 3) := by decide +kernel
theorem dX4_raise_12 : decode cX4_raise 12 = .ok (.ifCond .eq 7, 3) := by decide +kernel
theorem dX4_raise_15 : decode cX4_raise 15 = .ok (.iconst 1, 1) := by decide +kernel
theorem dX4_raise_16 : decode cX4_raise 16 = .ok (.goto 4, 3) := by decide +kernel
theorem dX4_raise_19 : decode cX4_raise 19 = .ok (.iconst 0, 1) := by decide +kernel
theorem dX4_raise_20 : decode cX4_raise 20 = .ok (.iadd, 1) := by decide +kernel
theorem dX4_raise_21 : decode cX4_raise 21 = .ok (.istore_n 3, 1) := by decide +kernel
theorem dX4_raise_22 : decode cX4_raise 22 = .ok (.aload_n 0, 1) := by decide +kernel
theorem dX4_raise_23 : decode cX4_raise 23 = .ok (.iload_n 1, 1) := by decide +kernel
theorem dX4_raise_24 : decode cX4_raise 24 = .ok (.invokestatic 104, 3) := by decide +kernel
theorem dX4_raise_27 : decode cX4_raise 27 = .ok (.invokevirtual 100, 3) := by decide +kernel
theorem dX4_raise_30 : decode cX4_raise 30 = .ok (.iload_n 3, 1) := by decide +kernel
theorem dX4_raise_31 : decode cX4_raise 31 = .ok (.if_icmp .lt 5, 3) := by decide +kernel
theorem dX4_raise_34 : decode cX4_raise 34 = .ok (.iconst 0, 1) := by decide +kernel
theorem dX4_raise_35 : decode cX4_raise 35 = .ok (.ireturn, 1) := by decide +kernel
theorem dX4_raise_36 : decode cX4_raise 36 = .ok (.aload_n 0, 1) := by decide +kernel
theorem dX4_raise_37 : decode cX4_raise 37 = .ok (.iload_n 1, 1) := by decide +kernel
theorem dX4_raise_38 : decode cX4_raise 38 = .ok (.invokestatic 104, 3) := by decide +kernel
theorem dX4_raise_41 : decode cX4_raise 41 = .ok (.iload_n 3, 1) := by decide +kernel
theorem dX4_raise_42 : decode cX4_raise 42 = .ok (.invokevirtual 135, 3) := by decide +kernel
theorem dX4_raise_45 : decode cX4_raise 45 = .ok (.iconst 1, 1) := by decide +kernel
theorem dX4_raise_46 : decode cX4_raise 46 = .ok (.ireturn, 1) := by decide +kernel
theorem dX5_init_0 : decode cX5_init 0 = .ok (.aload_n 0, 1) := by decide +kernel
theorem dX5_init_1 : decode cX5_init 1 = .ok (.invokespecial 3, 3) := by decide +kernel
theorem dX5_init_4 : decode cX5_init 4 = .ok (.aload_n 0, 1) := by decide +kernel
theorem dX5_init_5 : decode cX5_init 5 = .ok (.bipush 10, 2) := by decide +kernel
theorem dX5_init_7 : decode cX5_init 7 = .ok (.anewarray 9, 3) := by decide +kernel
theorem dX5_init_10 : decode cX5_init 10 = .ok (.putfield 11, 3) := by decide +kernel
theorem dX5_init_13 : decode cX5_init 13 = .ok (.iconst 0, 1) := by decide +kernel
theorem dX5_init_14 : decode cX5_init 14 = .ok (.istore_n 1, 1) := by decide +kernel
theorem dX5_init_15 : decode cX5_init 15 = .ok (.iload_n 1, 1) := by decide +kernel
theorem dX5_init_16 : decode cX5_init 16 = .ok (.aload_n 0, 1) := by decide +kernel
theorem dX5_init_17 : decode cX5_init 17 = .ok (.getfield 11, 3) := by decide +kernel
theorem dX5_init_20 : decode cX5_init 20 = .ok (.arraylength, 1) := by decide +kernel
theorem dX5_init_21 : decode cX5_init 21 = .ok (.if_icmp .ge 22, 3) := by decide +kernel
theorem dX5_init_24 : decode cX5_init 24 = .ok (.aload_n 0, 1) := by decide +kernel
theorem dX5_init_25 : decode cX5_init 25 = .ok (.getfield 11, 3) := by decide +kernel
theorem dX5_init_28 : decode cX5_init 28 = .ok (.iload_n 1, 1) := by decide +kernel
theorem dX5_init_29 : decode cX5_init 29 = .ok (.new 9, 3) := by decide +kernel
theorem dX5_init_32 : decode cX5_init 32 = .ok (.dup, 1) := by decide +kernel
theorem dX5_init_33 : decode cX5_init 33 = .ok (.invokespecial 17, 3) := by decide +kernel
theorem dX5_init_36 : decode cX5_init 36 = .ok (.aastore, 1) := by decide +kernel
theorem dX5_init_37 : decode cX5_init 37 = .ok (.iinc 1 1, 3) := by decide +kernel
theorem dX5_init_40 : decode cX5_init 40 = .ok (.goto (-25), 3) := by decide +kernel
theorem dX5_init_43 : decode cX5_init 43 = .ok (.return_, 1) := by decide +kernel
theorem dX5_keep_0 : decode cX5_keep 0 = .ok (.aload_n 0, 1) := by decide +kernel
theorem dX5_keep_1 : decode cX5_keep 1 = .ok (.aload_n 0, 1) := by decide +kernel
theorem dX5_keep_2 : decode cX5_keep 2 = .ok (.getfield 18, 3) := by decide +kernel
theorem dX5_keep_5 : decode cX5_keep 5 = .ok (.invokevirtual 22, 3) := by decide +kernel
theorem dX5_keep_8 : decode cX5_keep 8 = .ok (.astore_n 2, 1) := by decide +kernel
theorem dX5_keep_9 : decode cX5_keep 9 = .ok (.aload_n 2, 1) := by decide +kernel
theorem dX5_keep_10 : decode cX5_keep 10 = .ok (.ifnull 8, 3) := by decide +kernel
theorem dX5_keep_13 : decode cX5_keep 13 = .ok (.aload_n 2, 1) := by decide +kernel
theorem dX5_keep_14 : decode cX5_keep 14 = .ok (.aload_n 1, 1) := by decide +kernel
theorem dX5_keep_15 : decode cX5_keep 15 = .ok (.invokevirtual 26, 3) := by decide +kernel
theorem dX5_keep_18 : decode cX5_keep 18 = .ok (.aload_n 0, 1) := by decide +kernel
theorem dX5_keep_19 : decode cX5_keep 19 = .ok (.aload_n 0, 1) := by decide +kernel
theorem dX5_keep_20 : decode cX5_keep 20 = .ok (.getfield 18, 3) := by decide +kernel
theorem dX5_keep_23 : decode cX5_keep 23 = .ok (.iconst 1, 1) := by decide +kernel
theorem dX5_keep_24 : decode cX5_keep 24 = .ok (.iadd, 1) := by decide +kernel
theorem dX5_keep_25 : decode cX5_keep 25 = .ok (.bipush 10, 2) := by decide +kernel
theorem dX5_keep_27 : decode cX5_keep 27 = .ok (.if_icmp .lt 7, 3) := by decide +kernel
theorem dX5_keep_30 : decode cX5_keep 30 = .ok (.iconst 0, 1) := by decide +kernel
theorem dX5_keep_31 : decode cX5_keep 31 = .ok (.goto 9, 3) := by decide +kernel
theorem dX5_keep_34 : decode cX5_keep 34 = .ok (.aload_n 0, 1) := by decide +kernel
theorem dX5_keep_35 : decode cX5_keep 35 = .ok (.getfield 18, 3) := by decide +kernel
theorem dX5_keep_38 : decode cX5_keep 38 = .ok (.iconst 1, 1) := by decide +kernel
theorem dX5_keep_39 : decode cX5_keep 39 = .ok (.iadd, 1) := by decide +kernel
theorem dX5_keep_40 : decode cX5_keep 40 = .ok (.putfield 18, 3) := by decide +kernel
theorem dX5_keep_43 : decode cX5_keep 43 = .ok (.aload_n 0, 1) := by decide +kernel
theorem dX5_keep_44 : decode cX5_keep 44 = .ok (.aload_n 0, 1) := by decide +kernel
theorem dX5_keep_45 : decode cX5_keep 45 = .ok (.getfield 30, 3) := by decide +kernel
theorem dX5_keep_48 : decode cX5_keep 48 = .ok (.bipush 10, 2) := by decide +kernel
theorem dX5_keep_50 : decode cX5_keep 50 = .ok (.if_icmp .ge 12, 3) := by decide +kernel
theorem dX5_keep_53 : decode cX5_keep 53 = .ok (.aload_n 0, 1) := by decide +kernel
theorem dX5_keep_54 : decode cX5_keep 54 = .ok (.getfield 30, 3) := by decide +kernel
theorem dX5_keep_57 : decode cX5_keep 57 = .ok (.iconst 1, 1) := by decide +kernel
theorem dX5_keep_58 : decode cX5_keep 58 = .ok (.iadd, 1) := by decide +kernel
theorem dX5_keep_59 : decode cX5_keep 59 = .ok (.goto 5, 3) := by decide +kernel
theorem dX5_keep_62 : decode cX5_keep 62 = .ok (.bipush 10, 2) := by decide +kernel
theorem dX5_keep_64 : decode cX5_keep 64 = .ok (.putfield 30, 3) := by decide +kernel
theorem dX5_keep_67 : decode cX5_keep 67 = .ok (.return_, 1) := by decide +kernel
theorem dX5_bringBack_0 : decode cX5_bringBack 0 = .ok (.aload_n 0, 1) := by decide +kernel
theorem dX5_bringBack_1 : decode cX5_bringBack 1 = .ok (.aload_n 0, 1) := by decide +kernel
theorem dX5_bringBack_2 : decode cX5_bringBack 2 = .ok (.getfield 18, 3) := by decide +kernel
theorem dX5_bringBack_5 : decode cX5_bringBack 5 = .ok (.ifCond .gt 8, 3) := by decide +kernel
theorem dX5_bringBack_8 : decode cX5_bringBack 8 = .ok (.bipush 9, 2) := by decide +kernel
theorem dX5_bringBack_10 : decode cX5_bringBack 10 = .ok (.goto 9, 3) := by decide +kernel
theorem dX5_bringBack_13 : decode cX5_bringBack 13 = .ok (.aload_n 0, 1) := by decide +kernel
theorem dX5_bringBack_14 : decode cX5_bringBack 14 = .ok (.getfield 18, 3) := by decide +kernel
theorem dX5_bringBack_17 : decode cX5_bringBack 17 = .ok (.iconst 1, 1) := by decide +kernel
theorem dX5_bringBack_18 : decode cX5_bringBack 18 = .ok (.isub, 1) := by decide +kernel
theorem dX5_bringBack_19 : decode cX5_bringBack 19 = .ok (.putfield 18, 3) := by decide +kernel
theorem dX5_bringBack_22 : decode cX5_bringBack 22 = .ok (.aload_n 0, 1) := by decide +kernel
theorem dX5_bringBack_23 : decode cX5_bringBack 23 = .ok (.aload_n 0, 1) := by decide +kernel
theorem dX5_bringBack_24 : decode cX5_bringBack 24 = .ok (.getfield 18, 3) := by decide +kernel
theorem dX5_bringBack_27 : decode cX5_bringBack 27 = .ok (.invokevirtual 22, 3) := by decide +kernel
theorem dX5_bringBack_30 : decode cX5_bringBack 30 = .ok (.astore_n 2, 1) := by decide +kernel
theorem dX5_bringBack_31 : decode cX5_bringBack 31 = .ok (.aload_n 2, 1) := by decide +kernel
theorem dX5_bringBack_32 : decode cX5_bringBack 32 = .ok (.ifnull 8, 3) := by decide +kernel
theorem dX5_bringBack_35 : decode cX5_bringBack 35 = .ok (.aload_n 1, 1) := by decide +kernel
theorem dX5_bringBack_36 : decode cX5_bringBack 36 = .ok (.aload_n 2, 1) := by decide +kernel
theorem dX5_bringBack_37 : decode cX5_bringBack 37 = .ok (.invokevirtual 26, 3) := by decide +kernel
theorem dX5_bringBack_40 : decode cX5_bringBack 40 = .ok (.aload_n 0, 1) := by decide +kernel
theorem dX5_bringBack_41 : decode cX5_bringBack 41 = .ok (.dup, 1) := by decide +kernel
theorem dX5_bringBack_42 : decode cX5_bringBack 42 = .ok (.getfield 30, 3) := by decide +kernel
theorem dX5_bringBack_45 : decode cX5_bringBack 45 = .ok (.iconst 1, 1) := by decide +kernel
theorem dX5_bringBack_46 : decode cX5_bringBack 46 = .ok (.isub, 1) := by decide +kernel
theorem dX5_bringBack_47 : decode cX5_bringBack 47 = .ok (.putfield 30, 3) := by decide +kernel
theorem dX5_bringBack_50 : decode cX5_bringBack 50 = .ok (.return_, 1) := by decide +kernel
theorem dX5_slotAt_0 : decode cX5_slotAt 0 = .ok (.iload_n 1, 1) := by decide +kernel
theorem dX5_slotAt_1 : decode cX5_slotAt 1 = .ok (.ifCond .lt 21, 3) := by decide +kernel
theorem dX5_slotAt_4 : decode cX5_slotAt 4 = .ok (.iload_n 1, 1) := by decide +kernel
theorem dX5_slotAt_5 : decode cX5_slotAt 5 = .ok (.aload_n 0, 1) := by decide +kernel
theorem dX5_slotAt_6 : decode cX5_slotAt 6 = .ok (.getfield 11, 3) := by decide +kernel
theorem dX5_slotAt_9 : decode cX5_slotAt 9 = .ok (.arraylength, 1) := by decide +kernel
theorem dX5_slotAt_10 : decode cX5_slotAt 10 = .ok (.if_icmp .ge 12, 3) := by decide +kernel
theorem dX5_slotAt_13 : decode cX5_slotAt 13 = .ok (.aload_n 0, 1) := by decide +kernel
theorem dX5_slotAt_14 : decode cX5_slotAt 14 = .ok (.getfield 11, 3) := by decide +kernel
theorem dX5_slotAt_17 : decode cX5_slotAt 17 = .ok (.iload_n 1, 1) := by decide +kernel
theorem dX5_slotAt_18 : decode cX5_slotAt 18 = .ok (.aaload, 1) := by decide +kernel
theorem dX5_slotAt_19 : decode cX5_slotAt 19 = .ok (.goto 4, 3) := by decide +kernel
theorem dX5_slotAt_22 : decode cX5_slotAt 22 = .ok (.aconst_null, 1) := by decide +kernel
theorem dX5_slotAt_23 : decode cX5_slotAt 23 = .ok (.areturn, 1) := by decide +kernel
theorem dX6_init_0 : decode cX6_init 0 = .ok (.aload_n 0, 1) := by decide +kernel
theorem dX6_init_1 : decode cX6_init 1 = .ok (.invokespecial 1, 3) := by decide +kernel
theorem dX6_init_4 : decode cX6_init 4 = .ok (.aload_n 0, 1) := by decide +kernel
theorem dX6_init_5 : decode cX6_init 5 = .ok (.iload_n 1, 1) := by decide +kernel
theorem dX6_init_6 : decode cX6_init 6 = .ok (.ifCond .ge 7, 3) := by decide +kernel
theorem dX6_init_9 : decode cX6_init 9 = .ok (.iconst 0, 1) := by decide +kernel
theorem dX6_init_10 : decode cX6_init 10 = .ok (.goto 4, 3) := by decide +kernel
theorem dX6_init_13 : decode cX6_init 13 = .ok (.iload_n 1, 1) := by decide +kernel
theorem dX6_init_14 : decode cX6_init 14 = .ok (.newarray .int, 2) := by decide +kernel
theorem dX6_init_16 : decode cX6_init 16 = .ok (.putfield 7, 3) := by decide +kernel
theorem dX6_init_19 : decode cX6_init 19 = .ok (.return_, 1) := by decide +kernel
theorem dX6_at_0 : decode cX6_at 0 = .ok (.iload_n 1, 1) := by decide +kernel
theorem dX6_at_1 : decode cX6_at 1 = .ok (.ifCond .lt 21, 3) := by decide +kernel
theorem dX6_at_4 : decode cX6_at 4 = .ok (.iload_n 1, 1) := by decide +kernel
theorem dX6_at_5 : decode cX6_at 5 = .ok (.aload_n 0, 1) := by decide +kernel
theorem dX6_at_6 : decode cX6_at 6 = .ok (.getfield 7, 3) := by decide +kernel
theorem dX6_at_9 : decode cX6_at 9 = .ok (.arraylength, 1) := by decide +kernel
theorem dX6_at_10 : decode cX6_at 10 = .ok (.if_icmp .ge 12, 3) := by decide +kernel
theorem dX6_at_13 : decode cX6_at 13 = .ok (.aload_n 0, 1) := by decide +kernel
theorem dX6_at_14 : decode cX6_at 14 = .ok (.getfield 7, 3) := by decide +kernel
theorem dX6_at_17 : decode cX6_at 17 = .ok (.iload_n 1, 1) := by decide +kernel
theorem dX6_at_18 : decode cX6_at 18 = .ok (.iaload, 1) := by decide +kernel
theorem dX6_at_19 : decode cX6_at 19 = .ok (.goto 4, 3) := by decide +kernel
theorem dX6_at_22 : decode cX6_at 22 = .ok (.iconst 0, 1) := by decide +kernel
theorem dX6_at_23 : decode cX6_at 23 = .ok (.ireturn, 1) := by decide +kernel
theorem dX6_put_0 : decode cX6_put 0 = .ok (.iload_n 1, 1) := by decide +kernel
theorem dX6_put_1 : decode cX6_put 1 = .ok (.ifCond .lt 19, 3) := by decide +kernel
theorem dX6_put_4 : decode cX6_put 4 = .ok (.iload_n 1, 1) := by decide +kernel
theorem dX6_put_5 : decode cX6_put 5 = .ok (.aload_n 0, 1) := by decide +kernel
theorem dX6_put_6 : decode cX6_put 6 = .ok (.getfield 7, 3) := by decide +kernel
theorem dX6_put_9 : decode cX6_put 9 = .ok (.arraylength, 1) := by decide +kernel
theorem dX6_put_10 : decode cX6_put 10 = .ok (.if_icmp .ge 10, 3) := by decide +kernel
theorem dX6_put_13 : decode cX6_put 13 = .ok (.aload_n 0, 1) := by decide +kernel
theorem dX6_put_14 : decode cX6_put 14 = .ok (.getfield 7, 3) := by decide +kernel
theorem dX6_put_17 : decode cX6_put 17 = .ok (.iload_n 1, 1) := by decide +kernel
theorem dX6_put_18 : decode cX6_put 18 = .ok (.iload_n 2, 1) := by decide +kernel
theorem dX6_put_19 : decode cX6_put 19 = .ok (.iastore, 1) := by decide +kernel
theorem dX6_put_20 : decode cX6_put 20 = .ok (.return_, 1) := by decide +kernel
theorem dX6_fill_0 : decode cX6_fill 0 = .ok (.aload_n 0, 1) := by decide +kernel
theorem dX6_fill_1 : decode cX6_fill 1 = .ok (.getfield 7, 3) := by decide +kernel
theorem dX6_fill_4 : decode cX6_fill 4 = .ok (.iload_n 1, 1) := by decide +kernel
theorem dX6_fill_5 : decode cX6_fill 5 = .ok (.invokestatic 13, 3) := by decide +kernel
theorem dX6_fill_8 : decode cX6_fill 8 = .ok (.return_, 1) := by decide +kernel
theorem dX6_copyFrom_0 : decode cX6_copyFrom 0 = .ok (.iconst 0, 1) := by decide +kernel
theorem dX6_copyFrom_1 : decode cX6_copyFrom 1 = .ok (.istore_n 2, 1) := by decide +kernel
theorem dX6_copyFrom_2 : decode cX6_copyFrom 2 = .ok (.iload_n 2, 1) := by decide +kernel
theorem dX6_copyFrom_3 : decode cX6_copyFrom 3 = .ok (.aload_n 0, 1) := by decide +kernel
theorem dX6_copyFrom_4 : decode cX6_copyFrom 4 = .ok (.getfield 7, 3) := by decide +kernel
theorem dX6_copyFrom_7 : decode cX6_copyFrom 7 = .ok (.arraylength, 1) := by decide +kernel
theorem dX6_copyFrom_8 : decode cX6_copyFrom 8 = .ok (.if_icmp .ge 30, 3) := by decide +kernel
theorem dX6_copyFrom_11 : decode cX6_copyFrom 11 = .ok (.iload_n 2, 1) := by decide +kernel
theorem dX6_copyFrom_12 : decode cX6_copyFrom 12 = .ok (.aload_n 1, 1) := by decide +kernel
theorem dX6_copyFrom_13 : decode cX6_copyFrom 13 = .ok (.getfield 7, 3) := by decide +kernel
theorem dX6_copyFrom_16 : decode cX6_copyFrom 16 = .ok (.arraylength, 1) := by decide +kernel
theorem dX6_copyFrom_17 : decode cX6_copyFrom 17 = .ok (.if_icmp .ge 21, 3) := by decide +kernel
theorem dX6_copyFrom_20 : decode cX6_copyFrom 20 = .ok (.aload_n 0, 1) := by decide +kernel
theorem dX6_copyFrom_21 : decode cX6_copyFrom 21 = .ok (.getfield 7, 3) := by decide +kernel
theorem dX6_copyFrom_24 : decode cX6_copyFrom 24 = .ok (.iload_n 2, 1) := by decide +kernel
theorem dX6_copyFrom_25 : decode cX6_copyFrom 25 = .ok (.aload_n 1, 1) := by decide +kernel
theorem dX6_copyFrom_26 : decode cX6_copyFrom 26 = .ok (.getfield 7, 3) := by decide +kernel
theorem dX6_copyFrom_29 : decode cX6_copyFrom 29 = .ok (.iload_n 2, 1) := by decide +kernel
theorem dX6_copyFrom_30 : decode cX6_copyFrom 30 = .ok (.iaload, 1) := by decide +kernel
theorem dX6_copyFrom_31 : decode cX6_copyFrom 31 = .ok (.iastore, 1) := by decide +kernel
theorem dX6_copyFrom_32 : decode cX6_copyFrom 32 = .ok (.iinc 2 1, 3) := by decide +kernel
theorem dX6_copyFrom_35 : decode cX6_copyFrom 35 = .ok (.goto (-33), 3) := by decide +kernel
theorem dX6_copyFrom_38 : decode cX6_copyFrom 38 = .ok (.return_, 1) := by decide +kernel
theorem dX7_init_0 : decode cX7_init 0 = .ok (.aload_n 0, 1) := by decide +kernel
theorem dX7_init_1 : decode cX7_init 1 = .ok (.invokespecial 3, 3) := by decide +kernel
theorem dX7_init_4 : decode cX7_init 4 = .ok (.aload_n 0, 1) := by decide +kernel
theorem dX7_init_5 : decode cX7_init 5 = .ok (.bipush 40, 2) := by decide +kernel
theorem dX7_init_7 : decode cX7_init 7 = .ok (.newarray .long, 2) := by decide +kernel
theorem dX7_init_9 : decode cX7_init 9 = .ok (.putfield 9, 3) := by decide +kernel
theorem dX7_init_12 : decode cX7_init 12 = .ok (.return_, 1) := by decide +kernel
theorem dX7_word_0 : decode cX7_word 0 = .ok (.iload_n 1, 1) := by decide +kernel
theorem dX7_word_1 : decode cX7_word 1 = .ok (.bipush 8, 2) := by decide +kernel
theorem dX7_word_3 : decode cX7_word 3 = .ok (.imul, 1) := by decide +kernel
theorem dX7_word_4 : decode cX7_word 4 = .ok (.iload_n 2, 1) := by decide +kernel
theorem dX7_word_5 : decode cX7_word 5 = .ok (.iadd, 1) := by decide +kernel
theorem dX7_word_6 : decode cX7_word 6 = .ok (.istore_n 3, 1) := by decide +kernel
theorem dX7_word_7 : decode cX7_word 7 = .ok (.iload_n 3, 1) := by decide +kernel
theorem dX7_word_8 : decode cX7_word 8 = .ok (.ifCond .lt 21, 3) := by decide +kernel
theorem dX7_word_11 : decode cX7_word 11 = .ok (.iload_n 3, 1) := by decide +kernel
theorem dX7_word_12 : decode cX7_word 12 = .ok (.aload_n 0, 1) := by decide +kernel
theorem dX7_word_13 : decode cX7_word 13 = .ok (.getfield 9, 3) := by decide +kernel
theorem dX7_word_16 : decode cX7_word 16 = .ok (.arraylength, 1) := by decide +kernel
theorem dX7_word_17 : decode cX7_word 17 = .ok (.if_icmp .ge 12, 3) := by decide +kernel
theorem dX7_word_20 : decode cX7_word 20 = .ok (.aload_n 0, 1) := by decide +kernel
theorem dX7_word_21 : decode cX7_word 21 = .ok (.getfield 9, 3) := by decide +kernel
theorem dX7_word_24 : decode cX7_word 24 = .ok (.iload_n 3, 1) := by decide +kernel
theorem dX7_word_25 : decode cX7_word 25 = .ok (.laload, 1) := by decide +kernel
theorem dX7_word_26 : decode cX7_word 26 = .ok (.goto 4, 3) := by decide +kernel
theorem dX7_word_29 : decode cX7_word 29 = .ok (.lconst 0, 1) := by decide +kernel
theorem dX7_word_30 : decode cX7_word 30 = .ok (.lreturn, 1) := by decide +kernel
theorem dX7_has_0 : decode cX7_has 0 = .ok (.iload_n 1, 1) := by decide +kernel
theorem dX7_has_1 : decode cX7_has 1 = .ok (.bipush 8, 2) := by decide +kernel
theorem dX7_has_3 : decode cX7_has 3 = .ok (.imul, 1) := by decide +kernel
theorem dX7_has_4 : decode cX7_has 4 = .ok (.iload_n 2, 1) := by decide +kernel
theorem dX7_has_5 : decode cX7_has 5 = .ok (.bipush 6, 2) := by decide +kernel
theorem dX7_has_7 : decode cX7_has 7 = .ok (.ishr, 1) := by decide +kernel
theorem dX7_has_8 : decode cX7_has 8 = .ok (.iadd, 1) := by decide +kernel
theorem dX7_has_9 : decode cX7_has 9 = .ok (.istore_n 3, 1) := by decide +kernel
theorem dX7_has_10 : decode cX7_has 10 = .ok (.iload_n 3, 1) := by decide +kernel
theorem dX7_has_11 : decode cX7_has 11 = .ok (.ifCond .lt 34, 3) := by decide +kernel
theorem dX7_has_14 : decode cX7_has 14 = .ok (.iload_n 3, 1) := by decide +kernel
theorem dX7_has_15 : decode cX7_has 15 = .ok (.aload_n 0, 1) := by decide +kernel
theorem dX7_has_16 : decode cX7_has 16 = .ok (.getfield 9, 3) := by decide +kernel
theorem dX7_has_19 : decode cX7_has 19 = .ok (.arraylength, 1) := by decide +kernel
theorem dX7_has_20 : decode cX7_has 20 = .ok (.if_icmp .ge 25, 3) := by decide +kernel
theorem dX7_has_23 : decode cX7_has 23 = .ok (.aload_n 0, 1) := by decide +kernel
theorem dX7_has_24 : decode cX7_has 24 = .ok (.getfield 9, 3) := by decide +kernel
theorem dX7_has_27 : decode cX7_has 27 = .ok (.iload_n 3, 1) := by decide +kernel
theorem dX7_has_28 : decode cX7_has 28 = .ok (.laload, 1) := by decide +kernel
theorem dX7_has_29 : decode cX7_has 29 = .ok (.iload_n 2, 1) := by decide +kernel
theorem dX7_has_30 : decode cX7_has 30 = .ok (.bipush 63, 2) := by decide +kernel
theorem dX7_has_32 : decode cX7_has 32 = .ok (.iand, 1) := by decide +kernel
theorem dX7_has_33 : decode cX7_has 33 = .ok (.lshr, 1) := by decide +kernel
theorem dX7_has_34 : decode cX7_has 34 = .ok (.lconst 1, 1) := by decide +kernel
theorem dX7_has_35 : decode cX7_has 35 = .ok (.land, 1) := by decide +kernel
theorem dX7_has_36 : decode cX7_has 36 = .ok (.lconst 0, 1) := by decide +kernel
theorem dX7_has_37 : decode cX7_has 37 = .ok (.lcmp, 1) := by decide +kernel
theorem dX7_has_38 : decode cX7_has 38 = .ok (.ifCond .eq 7, 3) := by decide +kernel
theorem dX7_has_41 : decode cX7_has 41 = .ok (.iconst 1, 1) := by decide +kernel
theorem dX7_has_42 : decode cX7_has 42 = .ok (.goto 4, 3) := by decide +kernel
theorem dX7_has_45 : decode cX7_has 45 = .ok (.iconst 0, 1) := by decide +kernel
theorem dX7_has_46 : decode cX7_has 46 = .ok (.ireturn, 1) := by decide +kernel
theorem dX7_add_0 : decode cX7_add 0 = .ok (.iload_n 1, 1) := by decide +kernel
theorem dX7_add_1 : decode cX7_add 1 = .ok (.bipush 8, 2) := by decide +kernel
theorem dX7_add_3 : decode cX7_add 3 = .ok (.imul, 1) := by decide +kernel
theorem dX7_add_4 : decode cX7_add 4 = .ok (.iload_n 2, 1) := by decide +kernel
theorem dX7_add_5 : decode cX7_add 5 = .ok (.bipush 6, 2) := by decide +kernel
theorem dX7_add_7 : decode cX7_add 7 = .ok (.ishr, 1) := by decide +kernel
theorem dX7_add_8 : decode cX7_add 8 = .ok (.iadd, 1) := by decide +kernel
theorem dX7_add_9 : decode cX7_add 9 = .ok (.istore_n 3, 1) := by decide +kernel
theorem dX7_add_10 : decode cX7_add 10 = .ok (.iload_n 3, 1) := by decide +kernel
theorem dX7_add_11 : decode cX7_add 11 = .ok (.ifCond .lt 27, 3) := by decide +kernel
theorem dX7_add_14 : decode cX7_add 14 = .ok (.iload_n 3, 1) := by decide +kernel
theorem dX7_add_15 : decode cX7_add 15 = .ok (.aload_n 0, 1) := by decide +kernel
theorem dX7_add_16 : decode cX7_add 16 = .ok (.getfield 9, 3) := by decide +kernel
theorem dX7_add_19 : decode cX7_add 19 = .ok (.arraylength, 1) := by decide +kernel
theorem dX7_add_20 : decode cX7_add 20 = .ok (.if_icmp .ge 18, 3) := by decide +kernel
theorem dX7_add_23 : decode cX7_add 23 = .ok (.aload_n 0, 1) := by decide +kernel
theorem dX7_add_24 : decode cX7_add 24 = .ok (.getfield 9, 3) := by decide +kernel
theorem dX7_add_27 : decode cX7_add 27 = .ok (.iload_n 3, 1) := by decide +kernel
theorem dX7_add_28 : decode cX7_add 28 = .ok (.dup2, 1) := by decide +kernel
theorem dX7_add_29 : decode cX7_add 29 = .ok (.laload, 1) := by decide +kernel
theorem dX7_add_30 : decode cX7_add 30 = .ok (.lconst 1, 1) := by decide +kernel
theorem dX7_add_31 : decode cX7_add 31 = .ok (.iload_n 2, 1) := by decide +kernel
theorem dX7_add_32 : decode cX7_add 32 = .ok (.bipush 63, 2) := by decide +kernel
theorem dX7_add_34 : decode cX7_add 34 = .ok (.iand, 1) := by decide +kernel
theorem dX7_add_35 : decode cX7_add 35 = .ok (.lshl, 1) := by decide +kernel
theorem dX7_add_36 : decode cX7_add 36 = .ok (.lor, 1) := by decide +kernel
theorem dX7_add_37 : decode cX7_add 37 = .ok (.lastore, 1) := by decide +kernel
theorem dX7_add_38 : decode cX7_add 38 = .ok (.return_, 1) := by decide +kernel
theorem dX7_remove_0 : decode cX7_remove 0 = .ok (.iload_n 1, 1) := by decide +kernel
theorem dX7_remove_1 : decode cX7_remove 1 = .ok (.bipush 8, 2) := by decide +kernel
theorem dX7_remove_3 : decode cX7_remove 3 = .ok (.imul, 1) := by decide +kernel
theorem dX7_remove_4 : decode cX7_remove 4 = .ok (.iload_n 2, 1) := by decide +kernel
theorem dX7_remove_5 : decode cX7_remove 5 = .ok (.bipush 6, 2) := by decide +kernel
theorem dX7_remove_7 : decode cX7_remove 7 = .ok (.ishr, 1) := by decide +kernel
theorem dX7_remove_8 : decode cX7_remove 8 = .ok (.iadd, 1) := by decide +kernel
theorem dX7_remove_9 : decode cX7_remove 9 = .ok (.istore_n 3, 1) := by decide +kernel
theorem dX7_remove_10 : decode cX7_remove 10 = .ok (.iload_n 3, 1) := by decide +kernel
theorem dX7_remove_11 : decode cX7_remove 11 = .ok (.ifCond .lt 31, 3) := by decide +kernel
theorem dX7_remove_14 : decode cX7_remove 14 = .ok (.iload_n 3, 1) := by decide +kernel
theorem dX7_remove_15 : decode cX7_remove 15 = .ok (.aload_n 0, 1) := by decide +kernel
theorem dX7_remove_16 : decode cX7_remove 16 = .ok (.getfield 9, 3) := by decide +kernel
theorem dX7_remove_19 : decode cX7_remove 19 = .ok (.arraylength, 1) := by decide +kernel
theorem dX7_remove_20 : decode cX7_remove 20 = .ok (.if_icmp .ge 22, 3) := by decide +kernel
theorem dX7_remove_23 : decode cX7_remove 23 = .ok (.aload_n 0, 1) := by decide +kernel
theorem dX7_remove_24 : decode cX7_remove 24 = .ok (.getfield 9, 3) := by decide +kernel
theorem dX7_remove_27 : decode cX7_remove 27 = .ok (.iload_n 3, 1) := by decide +kernel
theorem dX7_remove_28 : decode cX7_remove 28 = .ok (.dup2, 1) := by decide +kernel
theorem dX7_remove_29 : decode cX7_remove 29 = .ok (.laload, 1) := by decide +kernel
theorem dX7_remove_30 : decode cX7_remove 30 = .ok (.lconst 1, 1) := by decide +kernel
theorem dX7_remove_31 : decode cX7_remove 31 = .ok (.iload_n 2, 1) := by decide +kernel
theorem dX7_remove_32 : decode cX7_remove 32 = .ok (.bipush 63, 2) := by decide +kernel
theorem dX7_remove_34 : decode cX7_remove 34 = .ok (.iand, 1) := by decide +kernel
theorem dX7_remove_35 : decode cX7_remove 35 = .ok (.lshl, 1) := by decide +kernel
theorem dX7_remove_36 : decode cX7_remove 36 = .ok (.ldc2_w 15, 3) := by decide +kernel
theorem dX7_remove_39 : decode cX7_remove 39 = .ok (.lxor, 1) := by decide +kernel
theorem dX7_remove_40 : decode cX7_remove 40 = .ok (.land, 1) := by decide +kernel
theorem dX7_remove_41 : decode cX7_remove 41 = .ok (.lastore, 1) := by decide +kernel
theorem dX7_remove_42 : decode cX7_remove 42 = .ok (.return_, 1) := by decide +kernel
theorem dX7_clear_0 : decode cX7_clear 0 = .ok (.aload_n 0, 1) := by decide +kernel
theorem dX7_clear_1 : decode cX7_clear 1 = .ok (.getfield 9, 3) := by decide +kernel
theorem dX7_clear_4 : decode cX7_clear 4 = .ok (.lconst 0, 1) := by decide +kernel
theorem dX7_clear_5 : decode cX7_clear 5 = .ok (.invokestatic 17, 3) := by decide +kernel
theorem dX7_clear_8 : decode cX7_clear 8 = .ok (.return_, 1) := by decide +kernel
theorem dX7_copyFrom_0 : decode cX7_copyFrom 0 = .ok (.iconst 0, 1) := by decide +kernel
theorem dX7_copyFrom_1 : decode cX7_copyFrom 1 = .ok (.istore_n 2, 1) := by decide +kernel
theorem dX7_copyFrom_2 : decode cX7_copyFrom 2 = .ok (.iload_n 2, 1) := by decide +kernel
theorem dX7_copyFrom_3 : decode cX7_copyFrom 3 = .ok (.aload_n 0, 1) := by decide +kernel
theorem dX7_copyFrom_4 : decode cX7_copyFrom 4 = .ok (.getfield 9, 3) := by decide +kernel
theorem dX7_copyFrom_7 : decode cX7_copyFrom 7 = .ok (.arraylength, 1) := by decide +kernel
