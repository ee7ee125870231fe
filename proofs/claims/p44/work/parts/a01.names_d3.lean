theorem dX11_addAtom_64 : decode cX11_addAtom 64 = .ok (.invokevirtual 159, 3) := by decide +kernel
theorem dX11_addAtom_67 : decode cX11_addAtom 67 = .ok (.iload_n 3, 1) := by decide +kernel
theorem dX11_addAtom_68 : decode cX11_addAtom 68 = .ok (.iload 4, 2) := by decide +kernel
theorem dX11_addAtom_70 : decode cX11_addAtom 70 = .ok (.iload 5, 2) := by decide +kernel
theorem dX11_addAtom_72 : decode cX11_addAtom 72 = .ok (.invokestatic 77, 3) := by decide +kernel
theorem dX11_addAtom_75 : decode cX11_addAtom 75 = .ok (.invokevirtual 90, 3) := by decide +kernel
theorem dX11_addAtom_78 : decode cX11_addAtom 78 = .ok (.aload 6, 2) := by decide +kernel
theorem dX11_addAtom_80 : decode cX11_addAtom 80 = .ok (.getfield 151, 3) := by decide +kernel
theorem dX11_addAtom_83 : decode cX11_addAtom 83 = .ok (.iconst 1, 1) := by decide +kernel
theorem dX11_addAtom_84 : decode cX11_addAtom 84 = .ok (.isub, 1) := by decide +kernel
theorem dX11_addAtom_85 : decode cX11_addAtom 85 = .ok (.ireturn, 1) := by decide +kernel
theorem dX11_setOrder_0 : decode cX11_setOrder 0 = .ok (.aload_n 0, 1) := by decide +kernel
theorem dX11_setOrder_1 : decode cX11_setOrder 1 = .ok (.iload_n 1, 1) := by decide +kernel
theorem dX11_setOrder_2 : decode cX11_setOrder 2 = .ok (.invokevirtual 145, 3) := by decide +kernel
theorem dX11_setOrder_5 : decode cX11_setOrder 5 = .ok (.iload_n 2, 1) := by decide +kernel
theorem dX11_setOrder_6 : decode cX11_setOrder 6 = .ok (.invokestatic 167, 3) := by decide +kernel
theorem dX11_setOrder_9 : decode cX11_setOrder 9 = .ok (.ifCond .ne 13, 3) := by decide +kernel
theorem dX11_setOrder_12 : decode cX11_setOrder 12 = .ok (.new 97, 3) := by decide +kernel
theorem dX11_setOrder_15 : decode cX11_setOrder 15 = .ok (.dup, 1) := by decide +kernel
theorem dX11_setOrder_16 : decode cX11_setOrder 16 = .ok (.ldc 171, 2) := by decide +kernel
theorem dX11_setOrder_18 : decode cX11_setOrder 18 = .ok (.invokespecial 101, 3) := by decide +kernel
theorem dX11_setOrder_21 : decode cX11_setOrder 21 = .ok (.athrow, 1) := by decide +kernel
theorem dX11_setOrder_22 : decode cX11_setOrder 22 = .ok (.aload_n 0, 1) := by decide +kernel
theorem dX11_setOrder_23 : decode cX11_setOrder 23 = .ok (.getfield 10, 3) := by decide +kernel
theorem dX11_setOrder_26 : decode cX11_setOrder 26 = .ok (.getfield 173, 3) := by decide +kernel
theorem dX11_setOrder_29 : decode cX11_setOrder 29 = .ok (.iload_n 1, 1) := by decide +kernel
theorem dX11_setOrder_30 : decode cX11_setOrder 30 = .ok (.invokevirtual 159, 3) := by decide +kernel
theorem dX11_setOrder_33 : decode cX11_setOrder 33 = .ok (.istore_n 3, 1) := by decide +kernel
theorem dX11_setOrder_34 : decode cX11_setOrder 34 = .ok (.aload_n 0, 1) := by decide +kernel
theorem dX11_setOrder_35 : decode cX11_setOrder 35 = .ok (.invokevirtual 112, 3) := by decide +kernel
theorem dX11_setOrder_38 : decode cX11_setOrder 38 = .ok (.aload_n 0, 1) := by decide +kernel
theorem dX11_setOrder_39 : decode cX11_setOrder 39 = .ok (.getfield 10, 3) := by decide +kernel
theorem dX11_setOrder_42 : decode cX11_setOrder 42 = .ok (.getfield 173, 3) := by decide +kernel
theorem dX11_setOrder_45 : decode cX11_setOrder 45 = .ok (.iload_n 1, 1) := by decide +kernel
theorem dX11_setOrder_46 : decode cX11_setOrder 46 = .ok (.iload_n 2, 1) := by decide +kernel
theorem dX11_setOrder_47 : decode cX11_setOrder 47 = .ok (.invokevirtual 176, 3) := by decide +kernel
theorem dX11_setOrder_50 : decode cX11_setOrder 50 = .ok (.iload_n 3, 1) := by decide +kernel
theorem dX11_setOrder_51 : decode cX11_setOrder 51 = .ok (.ireturn, 1) := by decide +kernel
theorem dX11_clearIdle_0 : decode cX11_clearIdle 0 = .ok (.aload_n 0, 1) := by decide +kernel
theorem dX11_clearIdle_1 : decode cX11_clearIdle 1 = .ok (.iload_n 1, 1) := by decide +kernel
theorem dX11_clearIdle_2 : decode cX11_clearIdle 2 = .ok (.invokevirtual 145, 3) := by decide +kernel
theorem dX11_clearIdle_5 : decode cX11_clearIdle 5 = .ok (.aload_n 0, 1) := by decide +kernel
theorem dX11_clearIdle_6 : decode cX11_clearIdle 6 = .ok (.iload_n 1, 1) := by decide +kernel
theorem dX11_clearIdle_7 : decode cX11_clearIdle 7 = .ok (.iload_n 2, 1) := by decide +kernel
theorem dX11_clearIdle_8 : decode cX11_clearIdle 8 = .ok (.invokevirtual 179, 3) := by decide +kernel
theorem dX11_clearIdle_11 : decode cX11_clearIdle 11 = .ok (.aload_n 0, 1) := by decide +kernel
theorem dX11_clearIdle_12 : decode cX11_clearIdle 12 = .ok (.getfield 26, 3) := by decide +kernel
theorem dX11_clearIdle_15 : decode cX11_clearIdle 15 = .ok (.aload_n 0, 1) := by decide +kernel
theorem dX11_clearIdle_16 : decode cX11_clearIdle 16 = .ok (.getfield 10, 3) := by decide +kernel
theorem dX11_clearIdle_19 : decode cX11_clearIdle 19 = .ok (.invokevirtual 182, 3) := by decide +kernel
theorem dX11_clearIdle_22 : decode cX11_clearIdle 22 = .ok (.aload_n 0, 1) := by decide +kernel
theorem dX11_clearIdle_23 : decode cX11_clearIdle 23 = .ok (.iload_n 1, 1) := by decide +kernel
theorem dX11_clearIdle_24 : decode cX11_clearIdle 24 = .ok (.invokevirtual 186, 3) := by decide +kernel
theorem dX11_clearIdle_27 : decode cX11_clearIdle 27 = .ok (.aload_n 0, 1) := by decide +kernel
theorem dX11_clearIdle_28 : decode cX11_clearIdle 28 = .ok (.getfield 10, 3) := by decide +kernel
theorem dX11_clearIdle_31 : decode cX11_clearIdle 31 = .ok (.iload_n 1, 1) := by decide +kernel
theorem dX11_clearIdle_32 : decode cX11_clearIdle 32 = .ok (.invokevirtual 94, 3) := by decide +kernel
theorem dX11_clearIdle_35 : decode cX11_clearIdle 35 = .ok (.iload_n 2, 1) := by decide +kernel
theorem dX11_clearIdle_36 : decode cX11_clearIdle 36 = .ok (.invokevirtual 189, 3) := by decide +kernel
theorem dX11_clearIdle_39 : decode cX11_clearIdle 39 = .ok (.istore_n 3, 1) := by decide +kernel
theorem dX11_clearIdle_40 : decode cX11_clearIdle 40 = .ok (.aload_n 0, 1) := by decide +kernel
theorem dX11_clearIdle_41 : decode cX11_clearIdle 41 = .ok (.iload_n 3, 1) := by decide +kernel
theorem dX11_clearIdle_42 : decode cX11_clearIdle 42 = .ok (.invokevirtual 190, 3) := by decide +kernel
theorem dX11_clearIdle_45 : decode cX11_clearIdle 45 = .ok (.aload_n 0, 1) := by decide +kernel
theorem dX11_clearIdle_46 : decode cX11_clearIdle 46 = .ok (.invokevirtual 112, 3) := by decide +kernel
theorem dX11_clearIdle_49 : decode cX11_clearIdle 49 = .ok (.aload_n 0, 1) := by decide +kernel
theorem dX11_clearIdle_50 : decode cX11_clearIdle 50 = .ok (.getfield 26, 3) := by decide +kernel
theorem dX11_clearIdle_53 : decode cX11_clearIdle 53 = .ok (.invokevirtual 115, 3) := by decide +kernel
theorem dX11_clearIdle_56 : decode cX11_clearIdle 56 = .ok (.iload_n 3, 1) := by decide +kernel
theorem dX11_clearIdle_57 : decode cX11_clearIdle 57 = .ok (.invokestatic 193, 3) := by decide +kernel
theorem dX11_clearIdle_60 : decode cX11_clearIdle 60 = .ok (.istore 4, 2) := by decide +kernel
theorem dX11_clearIdle_62 : decode cX11_clearIdle 62 = .ok (.aload_n 0, 1) := by decide +kernel
theorem dX11_clearIdle_63 : decode cX11_clearIdle 63 = .ok (.getfield 10, 3) := by decide +kernel
theorem dX11_clearIdle_66 : decode cX11_clearIdle 66 = .ok (.getfield 66, 3) := by decide +kernel
theorem dX11_clearIdle_69 : decode cX11_clearIdle 69 = .ok (.iload 4, 2) := by decide +kernel
theorem dX11_clearIdle_71 : decode cX11_clearIdle 71 = .ok (.invokevirtual 131, 3) := by decide +kernel
theorem dX11_clearIdle_74 : decode cX11_clearIdle 74 = .ok (.istore 5, 2) := by decide +kernel
theorem dX11_clearIdle_76 : decode cX11_clearIdle 76 = .ok (.aload_n 0, 1) := by decide +kernel
theorem dX11_clearIdle_77 : decode cX11_clearIdle 77 = .ok (.getfield 10, 3) := by decide +kernel
theorem dX11_clearIdle_80 : decode cX11_clearIdle 80 = .ok (.getfield 66, 3) := by decide +kernel
theorem dX11_clearIdle_83 : decode cX11_clearIdle 83 = .ok (.iload 4, 2) := by decide +kernel
theorem dX11_clearIdle_85 : decode cX11_clearIdle 85 = .ok (.aload_n 0, 1) := by decide +kernel
theorem dX11_clearIdle_86 : decode cX11_clearIdle 86 = .ok (.getfield 54, 3) := by decide +kernel
theorem dX11_clearIdle_89 : decode cX11_clearIdle 89 = .ok (.invokevirtual 196, 3) := by decide +kernel
theorem dX11_clearIdle_92 : decode cX11_clearIdle 92 = .ok (.iload 5, 2) := by decide +kernel
theorem dX11_clearIdle_94 : decode cX11_clearIdle 94 = .ok (.aload_n 0, 1) := by decide +kernel
theorem dX11_clearIdle_95 : decode cX11_clearIdle 95 = .ok (.getfield 10, 3) := by decide +kernel
theorem dX11_clearIdle_98 : decode cX11_clearIdle 98 = .ok (.getfield 66, 3) := by decide +kernel
theorem dX11_clearIdle_101 : decode cX11_clearIdle 101 = .ok (.iload 4, 2) := by decide +kernel
theorem dX11_clearIdle_103 : decode cX11_clearIdle 103 = .ok (.invokevirtual 131, 3) := by decide +kernel
theorem dX11_clearIdle_106 : decode cX11_clearIdle 106 = .ok (.isub, 1) := by decide +kernel
theorem dX11_clearIdle_107 : decode cX11_clearIdle 107 = .ok (.ireturn, 1) := by decide +kernel
theorem dX11_addRule_0 : decode cX11_addRule 0 = .ok (.aload_n 0, 1) := by decide +kernel
theorem dX11_addRule_1 : decode cX11_addRule 1 = .ok (.iload_n 1, 1) := by decide +kernel
theorem dX11_addRule_2 : decode cX11_addRule 2 = .ok (.invokevirtual 118, 3) := by decide +kernel
theorem dX11_addRule_5 : decode cX11_addRule 5 = .ok (.aload_n 0, 1) := by decide +kernel
theorem dX11_addRule_6 : decode cX11_addRule 6 = .ok (.iload_n 1, 1) := by decide +kernel
theorem dX11_addRule_7 : decode cX11_addRule 7 = .ok (.iload_n 2, 1) := by decide +kernel
theorem dX11_addRule_8 : decode cX11_addRule 8 = .ok (.iload_n 3, 1) := by decide +kernel
theorem dX11_addRule_9 : decode cX11_addRule 9 = .ok (.iload 4, 2) := by decide +kernel
theorem dX11_addRule_11 : decode cX11_addRule 11 = .ok (.invokevirtual 148, 3) := by decide +kernel
theorem dX11_addRule_14 : decode cX11_addRule 14 = .ok (.aload_n 0, 1) := by decide +kernel
theorem dX11_addRule_15 : decode cX11_addRule 15 = .ok (.getfield 10, 3) := by decide +kernel
theorem dX11_addRule_18 : decode cX11_addRule 18 = .ok (.getfield 200, 3) := by decide +kernel
theorem dX11_addRule_21 : decode cX11_addRule 21 = .ok (.iconst 5, 1) := by decide +kernel
theorem dX11_addRule_22 : decode cX11_addRule 22 = .ok (.if_icmp .lt 13, 3) := by decide +kernel
theorem dX11_addRule_25 : decode cX11_addRule 25 = .ok (.new 107, 3) := by decide +kernel
theorem dX11_addRule_28 : decode cX11_addRule 28 = .ok (.dup, 1) := by decide +kernel
theorem dX11_addRule_29 : decode cX11_addRule 29 = .ok (.ldc 203, 2) := by decide +kernel
theorem dX11_addRule_31 : decode cX11_addRule 31 = .ok (.invokespecial 111, 3) := by decide +kernel
theorem dX11_addRule_34 : decode cX11_addRule 34 = .ok (.athrow, 1) := by decide +kernel
theorem dX11_addRule_35 : decode cX11_addRule 35 = .ok (.aload_n 0, 1) := by decide +kernel
theorem dX11_addRule_36 : decode cX11_addRule 36 = .ok (.invokevirtual 112, 3) := by decide +kernel
theorem dX11_addRule_39 : decode cX11_addRule 39 = .ok (.aload_n 0, 1) := by decide +kernel
theorem dX11_addRule_40 : decode cX11_addRule 40 = .ok (.getfield 26, 3) := by decide +kernel
theorem dX11_addRule_43 : decode cX11_addRule 43 = .ok (.invokevirtual 115, 3) := by decide +kernel
theorem dX11_addRule_46 : decode cX11_addRule 46 = .ok (.aload_n 0, 1) := by decide +kernel
theorem dX11_addRule_47 : decode cX11_addRule 47 = .ok (.getfield 10, 3) := by decide +kernel
theorem dX11_addRule_50 : decode cX11_addRule 50 = .ok (.iload_n 1, 1) := by decide +kernel
theorem dX11_addRule_51 : decode cX11_addRule 51 = .ok (.aload_n 0, 1) := by decide +kernel
theorem dX11_addRule_52 : decode cX11_addRule 52 = .ok (.getfield 10, 3) := by decide +kernel
theorem dX11_addRule_55 : decode cX11_addRule 55 = .ok (.getfield 155, 3) := by decide +kernel
theorem dX11_addRule_58 : decode cX11_addRule 58 = .ok (.iload_n 1, 1) := by decide +kernel
theorem dX11_addRule_59 : decode cX11_addRule 59 = .ok (.invokevirtual 159, 3) := by decide +kernel
theorem dX11_addRule_62 : decode cX11_addRule 62 = .ok (.iload_n 2, 1) := by decide +kernel
theorem dX11_addRule_63 : decode cX11_addRule 63 = .ok (.iload_n 3, 1) := by decide +kernel
theorem dX11_addRule_64 : decode cX11_addRule 64 = .ok (.iload 4, 2) := by decide +kernel
theorem dX11_addRule_66 : decode cX11_addRule 66 = .ok (.invokestatic 77, 3) := by decide +kernel
theorem dX11_addRule_69 : decode cX11_addRule 69 = .ok (.invokevirtual 83, 3) := by decide +kernel
theorem dX11_addRule_72 : decode cX11_addRule 72 = .ok (.aload_n 0, 1) := by decide +kernel
theorem dX11_addRule_73 : decode cX11_addRule 73 = .ok (.getfield 10, 3) := by decide +kernel
theorem dX11_addRule_76 : decode cX11_addRule 76 = .ok (.getfield 200, 3) := by decide +kernel
theorem dX11_addRule_79 : decode cX11_addRule 79 = .ok (.iconst 1, 1) := by decide +kernel
theorem dX11_addRule_80 : decode cX11_addRule 80 = .ok (.isub, 1) := by decide +kernel
theorem dX11_addRule_81 : decode cX11_addRule 81 = .ok (.ireturn, 1) := by decide +kernel
theorem dX11_addRuleAtom_0 : decode cX11_addRuleAtom 0 = .ok (.aload_n 0, 1) := by decide +kernel
theorem dX11_addRuleAtom_1 : decode cX11_addRuleAtom 1 = .ok (.iload_n 1, 1) := by decide +kernel
theorem dX11_addRuleAtom_2 : decode cX11_addRuleAtom 2 = .ok (.invokevirtual 205, 3) := by decide +kernel
theorem dX11_addRuleAtom_5 : decode cX11_addRuleAtom 5 = .ok (.aload_n 0, 1) := by decide +kernel
theorem dX11_addRuleAtom_6 : decode cX11_addRuleAtom 6 = .ok (.iload_n 2, 1) := by decide +kernel
theorem dX11_addRuleAtom_7 : decode cX11_addRuleAtom 7 = .ok (.invokevirtual 118, 3) := by decide +kernel
theorem dX11_addRuleAtom_10 : decode cX11_addRuleAtom 10 = .ok (.aload_n 0, 1) := by decide +kernel
theorem dX11_addRuleAtom_11 : decode cX11_addRuleAtom 11 = .ok (.iload_n 2, 1) := by decide +kernel
theorem dX11_addRuleAtom_12 : decode cX11_addRuleAtom 12 = .ok (.iload_n 3, 1) := by decide +kernel
theorem dX11_addRuleAtom_13 : decode cX11_addRuleAtom 13 = .ok (.iload 4, 2) := by decide +kernel
theorem dX11_addRuleAtom_15 : decode cX11_addRuleAtom 15 = .ok (.iload 5, 2) := by decide +kernel
theorem dX11_addRuleAtom_17 : decode cX11_addRuleAtom 17 = .ok (.invokevirtual 148, 3) := by decide +kernel
theorem dX11_addRuleAtom_20 : decode cX11_addRuleAtom 20 = .ok (.aload_n 0, 1) := by decide +kernel
theorem dX11_addRuleAtom_21 : decode cX11_addRuleAtom 21 = .ok (.getfield 10, 3) := by decide +kernel
theorem dX11_addRuleAtom_24 : decode cX11_addRuleAtom 24 = .ok (.iload_n 1, 1) := by decide +kernel
theorem dX11_addRuleAtom_25 : decode cX11_addRuleAtom 25 = .ok (.invokevirtual 86, 3) := by decide +kernel
theorem dX11_addRuleAtom_28 : decode cX11_addRuleAtom 28 = .ok (.astore 7, 2) := by decide +kernel
theorem dX11_addRuleAtom_30 : decode cX11_addRuleAtom 30 = .ok (.aload 7, 2) := by decide +kernel
theorem dX11_addRuleAtom_32 : decode cX11_addRuleAtom 32 = .ok (.getfield 151, 3) := by decide +kernel
theorem dX11_addRuleAtom_35 : decode cX11_addRuleAtom 35 = .ok (.iconst 4, 1) := by decide +kernel
theorem dX11_addRuleAtom_36 : decode cX11_addRuleAtom 36 = .ok (.if_icmp .lt 13, 3) := by decide +kernel
theorem dX11_addRuleAtom_39 : decode cX11_addRuleAtom 39 = .ok (.new 107, 3) := by decide +kernel
theorem dX11_addRuleAtom_42 : decode cX11_addRuleAtom 42 = .ok (.dup, 1) := by decide +kernel
theorem dX11_addRuleAtom_43 : decode cX11_addRuleAtom 43 = .ok (.ldc 208, 2) := by decide +kernel
theorem dX11_addRuleAtom_45 : decode cX11_addRuleAtom 45 = .ok (.invokespecial 111, 3) := by decide +kernel
theorem dX11_addRuleAtom_48 : decode cX11_addRuleAtom 48 = .ok (.athrow, 1) := by decide +kernel
theorem dX11_addRuleAtom_49 : decode cX11_addRuleAtom 49 = .ok (.iload_n 2, 1) := by decide +kernel
theorem dX11_addRuleAtom_50 : decode cX11_addRuleAtom 50 = .ok (.aload_n 0, 1) := by decide +kernel
theorem dX11_addRuleAtom_51 : decode cX11_addRuleAtom 51 = .ok (.getfield 10, 3) := by decide +kernel
theorem dX11_addRuleAtom_54 : decode cX11_addRuleAtom 54 = .ok (.getfield 155, 3) := by decide +kernel
theorem dX11_addRuleAtom_57 : decode cX11_addRuleAtom 57 = .ok (.iload_n 2, 1) := by decide +kernel
theorem dX11_addRuleAtom_58 : decode cX11_addRuleAtom 58 = .ok (.invokevirtual 159, 3) := by decide +kernel
theorem dX11_addRuleAtom_61 : decode cX11_addRuleAtom 61 = .ok (.iload_n 3, 1) := by decide +kernel
theorem dX11_addRuleAtom_62 : decode cX11_addRuleAtom 62 = .ok (.iload 4, 2) := by decide +kernel
theorem dX11_addRuleAtom_64 : decode cX11_addRuleAtom 64 = .ok (.iload 5, 2) := by decide +kernel
theorem dX11_addRuleAtom_66 : decode cX11_addRuleAtom 66 = .ok (.invokestatic 77, 3) := by decide +kernel
theorem dX11_addRuleAtom_69 : decode cX11_addRuleAtom 69 = .ok (.istore 8, 2) := by decide +kernel
theorem dX11_addRuleAtom_71 : decode cX11_addRuleAtom 71 = .ok (.iload 6, 2) := by decide +kernel
theorem dX11_addRuleAtom_73 : decode cX11_addRuleAtom 73 = .ok (.ifCond .eq 11, 3) := by decide +kernel
theorem dX11_addRuleAtom_76 : decode cX11_addRuleAtom 76 = .ok (.iload 8, 2) := by decide +kernel
theorem dX11_addRuleAtom_78 : decode cX11_addRuleAtom 78 = .ok (.invokestatic 210, 3) := by decide +kernel
theorem dX11_addRuleAtom_81 : decode cX11_addRuleAtom 81 = .ok (.goto 5, 3) := by decide +kernel
theorem dX11_addRuleAtom_84 : decode cX11_addRuleAtom 84 = .ok (.iload 8, 2) := by decide +kernel
theorem dX11_addRuleAtom_86 : decode cX11_addRuleAtom 86 = .ok (.istore 9, 2) := by decide +kernel
theorem dX11_addRuleAtom_88 : decode cX11_addRuleAtom 88 = .ok (.aload_n 0, 1) := by decide +kernel
theorem dX11_addRuleAtom_89 : decode cX11_addRuleAtom 89 = .ok (.getfield 26, 3) := by decide +kernel
theorem dX11_addRuleAtom_92 : decode cX11_addRuleAtom 92 = .ok (.aload_n 0, 1) := by decide +kernel
theorem dX11_addRuleAtom_93 : decode cX11_addRuleAtom 93 = .ok (.getfield 10, 3) := by decide +kernel
theorem dX11_addRuleAtom_96 : decode cX11_addRuleAtom 96 = .ok (.iload_n 1, 1) := by decide +kernel
theorem dX11_addRuleAtom_97 : decode cX11_addRuleAtom 97 = .ok (.iload 9, 2) := by decide +kernel
theorem dX11_addRuleAtom_99 : decode cX11_addRuleAtom 99 = .ok (.invokevirtual 213, 3) := by decide +kernel
theorem dX11_addRuleAtom_102 : decode cX11_addRuleAtom 102 = .ok (.ifCond .ne 13, 3) := by decide +kernel
theorem dX11_addRuleAtom_105 : decode cX11_addRuleAtom 105 = .ok (.new 107, 3) := by decide +kernel
theorem dX11_addRuleAtom_108 : decode cX11_addRuleAtom 108 = .ok (.dup, 1) := by decide +kernel
theorem dX11_addRuleAtom_109 : decode cX11_addRuleAtom 109 = .ok (.ldc 217, 2) := by decide +kernel
theorem dX11_addRuleAtom_111 : decode cX11_addRuleAtom 111 = .ok (.invokespecial 111, 3) := by decide +kernel
theorem dX11_addRuleAtom_114 : decode cX11_addRuleAtom 114 = .ok (.athrow, 1) := by decide +kernel
theorem dX11_addRuleAtom_115 : decode cX11_addRuleAtom 115 = .ok (.aload_n 0, 1) := by decide +kernel
theorem dX11_addRuleAtom_116 : decode cX11_addRuleAtom 116 = .ok (.invokevirtual 112, 3) := by decide +kernel
theorem dX11_addRuleAtom_119 : decode cX11_addRuleAtom 119 = .ok (.aload_n 0, 1) := by decide +kernel
theorem dX11_addRuleAtom_120 : decode cX11_addRuleAtom 120 = .ok (.getfield 26, 3) := by decide +kernel
theorem dX11_addRuleAtom_123 : decode cX11_addRuleAtom 123 = .ok (.invokevirtual 115, 3) := by decide +kernel
theorem dX11_addRuleAtom_126 : decode cX11_addRuleAtom 126 = .ok (.aload 7, 2) := by decide +kernel
theorem dX11_addRuleAtom_128 : decode cX11_addRuleAtom 128 = .ok (.iload 9, 2) := by decide +kernel
theorem dX11_addRuleAtom_130 : decode cX11_addRuleAtom 130 = .ok (.invokevirtual 90, 3) := by decide +kernel
theorem dX11_addRuleAtom_133 : decode cX11_addRuleAtom 133 = .ok (.aload 7, 2) := by decide +kernel
theorem dX11_addRuleAtom_135 : decode cX11_addRuleAtom 135 = .ok (.getfield 151, 3) := by decide +kernel
theorem dX11_addRuleAtom_138 : decode cX11_addRuleAtom 138 = .ok (.ireturn, 1) := by decide +kernel
theorem dX11_dropRule_0 : decode cX11_dropRule 0 = .ok (.aload_n 0, 1) := by decide +kernel
theorem dX11_dropRule_1 : decode cX11_dropRule 1 = .ok (.iload_n 1, 1) := by decide +kernel
theorem dX11_dropRule_2 : decode cX11_dropRule 2 = .ok (.invokevirtual 205, 3) := by decide +kernel
theorem dX11_dropRule_5 : decode cX11_dropRule 5 = .ok (.aload_n 0, 1) := by decide +kernel
theorem dX11_dropRule_6 : decode cX11_dropRule 6 = .ok (.invokevirtual 112, 3) := by decide +kernel
theorem dX11_dropRule_9 : decode cX11_dropRule 9 = .ok (.aload_n 0, 1) := by decide +kernel
theorem dX11_dropRule_10 : decode cX11_dropRule 10 = .ok (.getfield 26, 3) := by decide +kernel
theorem dX11_dropRule_13 : decode cX11_dropRule 13 = .ok (.invokevirtual 115, 3) := by decide +kernel
theorem dX11_dropRule_16 : decode cX11_dropRule 16 = .ok (.aload_n 0, 1) := by decide +kernel
theorem dX11_dropRule_17 : decode cX11_dropRule 17 = .ok (.getfield 10, 3) := by decide +kernel
theorem dX11_dropRule_20 : decode cX11_dropRule 20 = .ok (.iload_n 1, 1) := by decide +kernel
theorem dX11_dropRule_21 : decode cX11_dropRule 21 = .ok (.invokevirtual 219, 3) := by decide +kernel
theorem dX11_dropRule_24 : decode cX11_dropRule 24 = .ok (.aload_n 0, 1) := by decide +kernel
theorem dX11_dropRule_25 : decode cX11_dropRule 25 = .ok (.getfield 10, 3) := by decide +kernel
theorem dX11_dropRule_28 : decode cX11_dropRule 28 = .ok (.getfield 200, 3) := by decide +kernel
theorem dX11_dropRule_31 : decode cX11_dropRule 31 = .ok (.ireturn, 1) := by decide +kernel
theorem dX11_undo_0 : decode cX11_undo 0 = .ok (.aload_n 0, 1) := by decide +kernel
theorem dX11_undo_1 : decode cX11_undo 1 = .ok (.getfield 19, 3) := by decide +kernel
theorem dX11_undo_4 : decode cX11_undo 4 = .ok (.getfield 222, 3) := by decide +kernel
theorem dX11_undo_7 : decode cX11_undo 7 = .ok (.ifCond .ne 5, 3) := by decide +kernel
theorem dX11_undo_10 : decode cX11_undo 10 = .ok (.iconst (-1), 1) := by decide +kernel
theorem dX11_undo_11 : decode cX11_undo 11 = .ok (.ireturn, 1) := by decide +kernel
theorem dX11_undo_12 : decode cX11_undo 12 = .ok (.aload_n 0, 1) := by decide +kernel
theorem dX11_undo_13 : decode cX11_undo 13 = .ok (.getfield 19, 3) := by decide +kernel
theorem dX11_undo_16 : decode cX11_undo 16 = .ok (.aload_n 0, 1) := by decide +kernel
theorem dX11_undo_17 : decode cX11_undo 17 = .ok (.getfield 10, 3) := by decide +kernel
theorem dX11_undo_20 : decode cX11_undo 20 = .ok (.invokevirtual 225, 3) := by decide +kernel
theorem dX11_undo_23 : decode cX11_undo 23 = .ok (.aload_n 0, 1) := by decide +kernel
theorem dX11_undo_24 : decode cX11_undo 24 = .ok (.getfield 26, 3) := by decide +kernel
theorem dX11_undo_27 : decode cX11_undo 27 = .ok (.invokevirtual 115, 3) := by decide +kernel
theorem dX11_undo_30 : decode cX11_undo 30 = .ok (.aload_n 0, 1) := by decide +kernel
theorem dX11_undo_31 : decode cX11_undo 31 = .ok (.iconst (-1), 1) := by decide +kernel
theorem dX11_undo_32 : decode cX11_undo 32 = .ok (.putfield 58, 3) := by decide +kernel
theorem dX11_undo_35 : decode cX11_undo 35 = .ok (.aload_n 0, 1) := by decide +kernel
theorem dX11_undo_36 : decode cX11_undo 36 = .ok (.getfield 19, 3) := by decide +kernel
theorem dX11_undo_39 : decode cX11_undo 39 = .ok (.getfield 222, 3) := by decide +kernel
theorem dX11_undo_42 : decode cX11_undo 42 = .ok (.ireturn, 1) := by decide +kernel
theorem dX11_factCount_0 : decode cX11_factCount 0 = .ok (.aload_n 0, 1) := by decide +kernel
theorem dX11_factCount_1 : decode cX11_factCount 1 = .ok (.iload_n 1, 1) := by decide +kernel
theorem dX11_factCount_2 : decode cX11_factCount 2 = .ok (.invokevirtual 118, 3) := by decide +kernel
theorem dX11_factCount_5 : decode cX11_factCount 5 = .ok (.aload_n 0, 1) := by decide +kernel
theorem dX11_factCount_6 : decode cX11_factCount 6 = .ok (.getfield 10, 3) := by decide +kernel
theorem dX11_factCount_9 : decode cX11_factCount 9 = .ok (.getfield 66, 3) := by decide +kernel
theorem dX11_factCount_12 : decode cX11_factCount 12 = .ok (.iload_n 1, 1) := by decide +kernel
theorem dX11_factCount_13 : decode cX11_factCount 13 = .ok (.invokevirtual 131, 3) := by decide +kernel
theorem dX11_factCount_16 : decode cX11_factCount 16 = .ok (.ireturn, 1) := by decide +kernel
theorem dX11_rowCount_0 : decode cX11_rowCount 0 = .ok (.aload_n 0, 1) := by decide +kernel
theorem dX11_rowCount_1 : decode cX11_rowCount 1 = .ok (.iload_n 1, 1) := by decide +kernel
theorem dX11_rowCount_2 : decode cX11_rowCount 2 = .ok (.invokevirtual 118, 3) := by decide +kernel
theorem dX11_rowCount_5 : decode cX11_rowCount 5 = .ok (.aload_n 0, 1) := by decide +kernel
theorem dX11_rowCount_6 : decode cX11_rowCount 6 = .ok (.getfield 26, 3) := by decide +kernel
theorem dX11_rowCount_9 : decode cX11_rowCount 9 = .ok (.aload_n 0, 1) := by decide +kernel
theorem dX11_rowCount_10 : decode cX11_rowCount 10 = .ok (.getfield 10, 3) := by decide +kernel
theorem dX11_rowCount_13 : decode cX11_rowCount 13 = .ok (.invokevirtual 182, 3) := by decide +kernel
theorem dX11_rowCount_16 : decode cX11_rowCount 16 = .ok (.aload_n 0, 1) := by decide +kernel
theorem dX11_rowCount_17 : decode cX11_rowCount 17 = .ok (.getfield 26, 3) := by decide +kernel
theorem dX11_rowCount_20 : decode cX11_rowCount 20 = .ok (.getfield 228, 3) := by decide +kernel
theorem dX11_rowCount_23 : decode cX11_rowCount 23 = .ok (.iload_n 1, 1) := by decide +kernel
theorem dX11_rowCount_24 : decode cX11_rowCount 24 = .ok (.invokevirtual 131, 3) := by decide +kernel
theorem dX11_rowCount_27 : decode cX11_rowCount 27 = .ok (.ireturn, 1) := by decide +kernel
theorem dX11_isFact_0 : decode cX11_isFact 0 = .ok (.aload_n 0, 1) := by decide +kernel
theorem dX11_isFact_1 : decode cX11_isFact 1 = .ok (.iload_n 1, 1) := by decide +kernel
theorem dX11_isFact_2 : decode cX11_isFact 2 = .ok (.invokevirtual 118, 3) := by decide +kernel
theorem dX11_isFact_5 : decode cX11_isFact 5 = .ok (.aload_n 0, 1) := by decide +kernel
theorem dX11_isFact_6 : decode cX11_isFact 6 = .ok (.iload_n 1, 1) := by decide +kernel
theorem dX11_isFact_7 : decode cX11_isFact 7 = .ok (.iload_n 2, 1) := by decide +kernel
theorem dX11_isFact_8 : decode cX11_isFact 8 = .ok (.iload_n 3, 1) := by decide +kernel
theorem dX11_isFact_9 : decode cX11_isFact 9 = .ok (.iload 4, 2) := by decide +kernel
theorem dX11_isFact_11 : decode cX11_isFact 11 = .ok (.invokevirtual 121, 3) := by decide +kernel
theorem dX11_isFact_14 : decode cX11_isFact 14 = .ok (.aload_n 0, 1) := by decide +kernel
theorem dX11_isFact_15 : decode cX11_isFact 15 = .ok (.getfield 10, 3) := by decide +kernel
theorem dX11_isFact_18 : decode cX11_isFact 18 = .ok (.getfield 66, 3) := by decide +kernel
theorem dX11_isFact_21 : decode cX11_isFact 21 = .ok (.iload_n 1, 1) := by decide +kernel
theorem dX11_isFact_22 : decode cX11_isFact 22 = .ok (.iload_n 2, 1) := by decide +kernel
theorem dX11_isFact_23 : decode cX11_isFact 23 = .ok (.iload_n 3, 1) := by decide +kernel
theorem dX11_isFact_24 : decode cX11_isFact 24 = .ok (.iload 4, 2) := by decide +kernel
theorem dX11_isFact_26 : decode cX11_isFact 26 = .ok (.invokestatic 69, 3) := by decide +kernel
theorem dX11_isFact_29 : decode cX11_isFact 29 = .ok (.invokevirtual 125, 3) := by decide +kernel
theorem dX11_isFact_32 : decode cX11_isFact 32 = .ok (.ireturn, 1) := by decide +kernel
theorem dX11_reasons_0 : decode cX11_reasons 0 = .ok (.aload_n 0, 1) := by decide +kernel
theorem dX11_reasons_1 : decode cX11_reasons 1 = .ok (.iload_n 1, 1) := by decide +kernel
theorem dX11_reasons_2 : decode cX11_reasons 2 = .ok (.invokevirtual 118, 3) := by decide +kernel
theorem dX11_reasons_5 : decode cX11_reasons 5 = .ok (.aload_n 0, 1) := by decide +kernel
theorem dX11_reasons_6 : decode cX11_reasons 6 = .ok (.iload_n 1, 1) := by decide +kernel
theorem dX11_reasons_7 : decode cX11_reasons 7 = .ok (.iload_n 2, 1) := by decide +kernel
theorem dX11_reasons_8 : decode cX11_reasons 8 = .ok (.iload_n 3, 1) := by decide +kernel
theorem dX11_reasons_9 : decode cX11_reasons 9 = .ok (.iload 4, 2) := by decide +kernel
theorem dX11_reasons_11 : decode cX11_reasons 11 = .ok (.invokevirtual 121, 3) := by decide +kernel
theorem dX11_reasons_14 : decode cX11_reasons 14 = .ok (.aload_n 0, 1) := by decide +kernel
theorem dX11_reasons_15 : decode cX11_reasons 15 = .ok (.getfield 26, 3) := by decide +kernel
theorem dX11_reasons_18 : decode cX11_reasons 18 = .ok (.aload_n 0, 1) := by decide +kernel
theorem dX11_reasons_19 : decode cX11_reasons 19 = .ok (.getfield 10, 3) := by decide +kernel
theorem dX11_reasons_22 : decode cX11_reasons 22 = .ok (.invokevirtual 182, 3) := by decide +kernel
theorem dX11_reasons_25 : decode cX11_reasons 25 = .ok (.aload_n 0, 1) := by decide +kernel
theorem dX11_reasons_26 : decode cX11_reasons 26 = .ok (.getfield 26, 3) := by decide +kernel
theorem dX11_reasons_29 : decode cX11_reasons 29 = .ok (.aload_n 0, 1) := by decide +kernel
theorem dX11_reasons_30 : decode cX11_reasons 30 = .ok (.getfield 10, 3) := by decide +kernel
theorem dX11_reasons_33 : decode cX11_reasons 33 = .ok (.iload_n 1, 1) := by decide +kernel
theorem dX11_reasons_34 : decode cX11_reasons 34 = .ok (.iload_n 2, 1) := by decide +kernel
theorem dX11_reasons_35 : decode cX11_reasons 35 = .ok (.iload_n 3, 1) := by decide +kernel
theorem dX11_reasons_36 : decode cX11_reasons 36 = .ok (.iload 4, 2) := by decide +kernel
theorem dX11_reasons_38 : decode cX11_reasons 38 = .ok (.invokestatic 69, 3) := by decide +kernel
theorem dX11_reasons_41 : decode cX11_reasons 41 = .ok (.invokevirtual 231, 3) := by decide +kernel
theorem dX11_reasons_44 : decode cX11_reasons 44 = .ok (.ireturn, 1) := by decide +kernel
theorem dX11_rowAt_0 : decode cX11_rowAt 0 = .ok (.aload_n 0, 1) := by decide +kernel
theorem dX11_rowAt_1 : decode cX11_rowAt 1 = .ok (.iload_n 1, 1) := by decide +kernel
theorem dX11_rowAt_2 : decode cX11_rowAt 2 = .ok (.invokevirtual 118, 3) := by decide +kernel
theorem dX11_rowAt_5 : decode cX11_rowAt 5 = .ok (.aload_n 0, 1) := by decide +kernel
theorem dX11_rowAt_6 : decode cX11_rowAt 6 = .ok (.iload_n 1, 1) := by decide +kernel
theorem dX11_rowAt_7 : decode cX11_rowAt 7 = .ok (.iload_n 3, 1) := by decide +kernel
theorem dX11_rowAt_8 : decode cX11_rowAt 8 = .ok (.invokevirtual 235, 3) := by decide +kernel
theorem dX11_rowAt_11 : decode cX11_rowAt 11 = .ok (.aload_n 0, 1) := by decide +kernel
theorem dX11_rowAt_12 : decode cX11_rowAt 12 = .ok (.getfield 26, 3) := by decide +kernel
theorem dX11_rowAt_15 : decode cX11_rowAt 15 = .ok (.aload_n 0, 1) := by decide +kernel
theorem dX11_rowAt_16 : decode cX11_rowAt 16 = .ok (.getfield 10, 3) := by decide +kernel
theorem dX11_rowAt_19 : decode cX11_rowAt 19 = .ok (.invokevirtual 182, 3) := by decide +kernel
theorem dX11_rowAt_22 : decode cX11_rowAt 22 = .ok (.iload_n 2, 1) := by decide +kernel
theorem dX11_rowAt_23 : decode cX11_rowAt 23 = .ok (.ifCond .lt 18, 3) := by decide +kernel
theorem dX11_rowAt_26 : decode cX11_rowAt 26 = .ok (.iload_n 2, 1) := by decide +kernel
theorem dX11_rowAt_27 : decode cX11_rowAt 27 = .ok (.aload_n 0, 1) := by decide +kernel
theorem dX11_rowAt_28 : decode cX11_rowAt 28 = .ok (.getfield 26, 3) := by decide +kernel
theorem dX11_rowAt_31 : decode cX11_rowAt 31 = .ok (.getfield 228, 3) := by decide +kernel
theorem dX11_rowAt_34 : decode cX11_rowAt 34 = .ok (.iload_n 1, 1) := by decide +kernel
theorem dX11_rowAt_35 : decode cX11_rowAt 35 = .ok (.invokevirtual 131, 3) := by decide +kernel
theorem dX11_rowAt_38 : decode cX11_rowAt 38 = .ok (.if_icmp .lt 13, 3) := by decide +kernel
theorem dX11_rowAt_41 : decode cX11_rowAt 41 = .ok (.new 238, 3) := by decide +kernel
theorem dX11_rowAt_44 : decode cX11_rowAt 44 = .ok (.dup, 1) := by decide +kernel
theorem dX11_rowAt_45 : decode cX11_rowAt 45 = .ok (.ldc 240, 2) := by decide +kernel
theorem dX11_rowAt_47 : decode cX11_rowAt 47 = .ok (.invokespecial 242, 3) := by decide +kernel
theorem dX11_rowAt_50 : decode cX11_rowAt 50 = .ok (.athrow, 1) := by decide +kernel
theorem dX11_rowAt_51 : decode cX11_rowAt 51 = .ok (.aload_n 0, 1) := by decide +kernel
theorem dX11_rowAt_52 : decode cX11_rowAt 52 = .ok (.getfield 26, 3) := by decide +kernel
theorem dX11_rowAt_55 : decode cX11_rowAt 55 = .ok (.getfield 228, 3) := by decide +kernel
theorem dX11_rowAt_58 : decode cX11_rowAt 58 = .ok (.iload_n 1, 1) := by decide +kernel
theorem dX11_rowAt_59 : decode cX11_rowAt 59 = .ok (.iload_n 2, 1) := by decide +kernel
theorem dX11_rowAt_60 : decode cX11_rowAt 60 = .ok (.invokevirtual 243, 3) := by decide +kernel
theorem dX11_rowAt_63 : decode cX11_rowAt 63 = .ok (.iload_n 3, 1) := by decide +kernel
theorem dX11_rowAt_64 : decode cX11_rowAt 64 = .ok (.invokestatic 247, 3) := by decide +kernel
theorem dX11_rowAt_67 : decode cX11_rowAt 67 = .ok (.ireturn, 1) := by decide +kernel
theorem dX11_answers_0 : decode cX11_answers 0 = .ok (.aload_n 0, 1) := by decide +kernel
theorem dX11_answers_1 : decode cX11_answers 1 = .ok (.iload_n 1, 1) := by decide +kernel
theorem dX11_answers_2 : decode cX11_answers 2 = .ok (.invokevirtual 145, 3) := by decide +kernel
theorem dX11_answers_5 : decode cX11_answers 5 = .ok (.aload_n 0, 1) := by decide +kernel
theorem dX11_answers_6 : decode cX11_answers 6 = .ok (.getfield 26, 3) := by decide +kernel
theorem dX11_answers_9 : decode cX11_answers 9 = .ok (.aload_n 0, 1) := by decide +kernel
theorem dX11_answers_10 : decode cX11_answers 10 = .ok (.getfield 10, 3) := by decide +kernel
theorem dX11_answers_13 : decode cX11_answers 13 = .ok (.invokevirtual 182, 3) := by decide +kernel
theorem dX11_answers_16 : decode cX11_answers 16 = .ok (.aload_n 0, 1) := by decide +kernel
theorem dX11_answers_17 : decode cX11_answers 17 = .ok (.iload_n 1, 1) := by decide +kernel
theorem dX11_answers_18 : decode cX11_answers 18 = .ok (.invokevirtual 186, 3) := by decide +kernel
theorem dX11_answers_21 : decode cX11_answers 21 = .ok (.aload_n 0, 1) := by decide +kernel
theorem dX11_answers_22 : decode cX11_answers 22 = .ok (.getfield 33, 3) := by decide +kernel
theorem dX11_answers_25 : decode cX11_answers 25 = .ok (.getfield 268, 3) := by decide +kernel
theorem dX11_answers_28 : decode cX11_answers 28 = .ok (.ireturn, 1) := by decide +kernel
theorem dX11_answerAt_0 : decode cX11_answerAt 0 = .ok (.aload_n 0, 1) := by decide +kernel
theorem dX11_answerAt_1 : decode cX11_answerAt 1 = .ok (.iload_n 1, 1) := by decide +kernel
theorem dX11_answerAt_2 : decode cX11_answerAt 2 = .ok (.invokevirtual 145, 3) := by decide +kernel
theorem dX11_answerAt_5 : decode cX11_answerAt 5 = .ok (.aload_n 0, 1) := by decide +kernel
theorem dX11_answerAt_6 : decode cX11_answerAt 6 = .ok (.iload_n 1, 1) := by decide +kernel
theorem dX11_answerAt_7 : decode cX11_answerAt 7 = .ok (.iload_n 3, 1) := by decide +kernel
theorem dX11_answerAt_8 : decode cX11_answerAt 8 = .ok (.invokevirtual 271, 3) := by decide +kernel
theorem dX11_answerAt_11 : decode cX11_answerAt 11 = .ok (.aload_n 0, 1) := by decide +kernel
theorem dX11_answerAt_12 : decode cX11_answerAt 12 = .ok (.getfield 26, 3) := by decide +kernel
theorem dX11_answerAt_15 : decode cX11_answerAt 15 = .ok (.aload_n 0, 1) := by decide +kernel
theorem dX11_answerAt_16 : decode cX11_answerAt 16 = .ok (.getfield 10, 3) := by decide +kernel
theorem dX11_answerAt_19 : decode cX11_answerAt 19 = .ok (.invokevirtual 182, 3) := by decide +kernel
theorem dX11_answerAt_22 : decode cX11_answerAt 22 = .ok (.aload_n 0, 1) := by decide +kernel
theorem dX11_answerAt_23 : decode cX11_answerAt 23 = .ok (.iload_n 1, 1) := by decide +kernel
theorem dX11_answerAt_24 : decode cX11_answerAt 24 = .ok (.invokevirtual 186, 3) := by decide +kernel
theorem dX11_answerAt_27 : decode cX11_answerAt 27 = .ok (.iload_n 2, 1) := by decide +kernel
theorem dX11_answerAt_28 : decode cX11_answerAt 28 = .ok (.ifCond .lt 14, 3) := by decide +kernel
theorem dX11_answerAt_31 : decode cX11_answerAt 31 = .ok (.iload_n 2, 1) := by decide +kernel
theorem dX11_answerAt_32 : decode cX11_answerAt 32 = .ok (.aload_n 0, 1) := by decide +kernel
theorem dX11_answerAt_33 : decode cX11_answerAt 33 = .ok (.getfield 33, 3) := by decide +kernel
theorem dX11_answerAt_36 : decode cX11_answerAt 36 = .ok (.getfield 268, 3) := by decide +kernel
theorem dX11_answerAt_39 : decode cX11_answerAt 39 = .ok (.if_icmp .lt 14, 3) := by decide +kernel
theorem dX11_answerAt_42 : decode cX11_answerAt 42 = .ok (.new 238, 3) := by decide +kernel
theorem dX11_answerAt_45 : decode cX11_answerAt 45 = .ok (.dup, 1) := by decide +kernel
theorem dX11_answerAt_46 : decode cX11_answerAt 46 = .ok (.ldc_w 274, 3) := by decide +kernel
theorem dX11_answerAt_49 : decode cX11_answerAt 49 = .ok (.invokespecial 242, 3) := by decide +kernel
theorem dX11_answerAt_52 : decode cX11_answerAt 52 = .ok (.athrow, 1) := by decide +kernel
theorem dX11_answerAt_53 : decode cX11_answerAt 53 = .ok (.iconst (-1), 1) := by decide +kernel
theorem dX11_answerAt_54 : decode cX11_answerAt 54 = .ok (.istore 4, 2) := by decide +kernel
theorem dX11_answerAt_56 : decode cX11_answerAt 56 = .ok (.iconst 0, 1) := by decide +kernel
theorem dX11_answerAt_57 : decode cX11_answerAt 57 = .ok (.istore 5, 2) := by decide +kernel
theorem dX11_answerAt_59 : decode cX11_answerAt 59 = .ok (.iload 5, 2) := by decide +kernel
theorem dX11_answerAt_61 : decode cX11_answerAt 61 = .ok (.iload_n 2, 1) := by decide +kernel
theorem dX11_answerAt_62 : decode cX11_answerAt 62 = .ok (.if_icmp .ge 20, 3) := by decide +kernel
theorem dX11_answerAt_65 : decode cX11_answerAt 65 = .ok (.aload_n 0, 1) := by decide +kernel
theorem dX11_answerAt_66 : decode cX11_answerAt 66 = .ok (.getfield 33, 3) := by decide +kernel
theorem dX11_answerAt_69 : decode cX11_answerAt 69 = .ok (.iload 4, 2) := by decide +kernel
theorem dX11_answerAt_71 : decode cX11_answerAt 71 = .ok (.invokevirtual 276, 3) := by decide +kernel
theorem dX11_answerAt_74 : decode cX11_answerAt 74 = .ok (.istore 4, 2) := by decide +kernel
theorem dX11_answerAt_76 : decode cX11_answerAt 76 = .ok (.iinc 5 1, 3) := by decide +kernel
theorem dX11_answerAt_79 : decode cX11_answerAt 79 = .ok (.goto (-20), 3) := by decide +kernel
theorem dX11_answerAt_82 : decode cX11_answerAt 82 = .ok (.aload_n 0, 1) := by decide +kernel
theorem dX11_answerAt_83 : decode cX11_answerAt 83 = .ok (.getfield 33, 3) := by decide +kernel
theorem dX11_answerAt_86 : decode cX11_answerAt 86 = .ok (.iload 4, 2) := by decide +kernel
theorem dX11_answerAt_88 : decode cX11_answerAt 88 = .ok (.invokevirtual 279, 3) := by decide +kernel
theorem dX11_answerAt_91 : decode cX11_answerAt 91 = .ok (.pop, 1) := by decide +kernel
theorem dX11_answerAt_92 : decode cX11_answerAt 92 = .ok (.iload_n 3, 1) := by decide +kernel
theorem dX11_answerAt_93 : decode cX11_answerAt 93 = .ok (.aload_n 0, 1) := by decide +kernel
theorem dX11_answerAt_94 : decode cX11_answerAt 94 = .ok (.getfield 33, 3) := by decide +kernel
theorem dX11_answerAt_97 : decode cX11_answerAt 97 = .ok (.getfield 282, 3) := by decide +kernel
theorem dX11_answerAt_100 : decode cX11_answerAt 100 = .ok (.invokestatic 285, 3) := by decide +kernel
theorem dX11_answerAt_103 : decode cX11_answerAt 103 = .ok (.ireturn, 1) := by decide +kernel
theorem dX11_seek_0 : decode cX11_seek 0 = .ok (.aload_n 0, 1) := by decide +kernel
theorem dX11_seek_1 : decode cX11_seek 1 = .ok (.iload_n 1, 1) := by decide +kernel
theorem dX11_seek_2 : decode cX11_seek 2 = .ok (.invokevirtual 145, 3) := by decide +kernel
theorem dX11_seek_5 : decode cX11_seek 5 = .ok (.iload_n 2, 1) := by decide +kernel
theorem dX11_seek_6 : decode cX11_seek 6 = .ok (.invokestatic 288, 3) := by decide +kernel
theorem dX11_seek_9 : decode cX11_seek 9 = .ok (.ifCond .eq 26, 3) := by decide +kernel
theorem dX11_seek_12 : decode cX11_seek 12 = .ok (.iload_n 3, 1) := by decide +kernel
theorem dX11_seek_13 : decode cX11_seek 13 = .ok (.invokestatic 288, 3) := by decide +kernel
theorem dX11_seek_16 : decode cX11_seek 16 = .ok (.ifCond .eq 19, 3) := by decide +kernel
theorem dX11_seek_19 : decode cX11_seek 19 = .ok (.iload 4, 2) := by decide +kernel
theorem dX11_seek_21 : decode cX11_seek 21 = .ok (.invokestatic 288, 3) := by decide +kernel
theorem dX11_seek_24 : decode cX11_seek 24 = .ok (.ifCond .eq 11, 3) := by decide +kernel
theorem dX11_seek_27 : decode cX11_seek 27 = .ok (.iload 5, 2) := by decide +kernel
theorem dX11_seek_29 : decode cX11_seek 29 = .ok (.invokestatic 288, 3) := by decide +kernel
theorem dX11_seek_32 : decode cX11_seek 32 = .ok (.ifCond .ne 14, 3) := by decide +kernel
theorem dX11_seek_35 : decode cX11_seek 35 = .ok (.new 97, 3) := by decide +kernel
theorem dX11_seek_38 : decode cX11_seek 38 = .ok (.dup, 1) := by decide +kernel
theorem dX11_seek_39 : decode cX11_seek 39 = .ok (.ldc_w 291, 3) := by decide +kernel
theorem dX11_seek_42 : decode cX11_seek 42 = .ok (.invokespecial 101, 3) := by decide +kernel
theorem dX11_seek_45 : decode cX11_seek 45 = .ok (.athrow, 1) := by decide +kernel
theorem dX11_seek_46 : decode cX11_seek 46 = .ok (.aload_n 0, 1) := by decide +kernel
theorem dX11_seek_47 : decode cX11_seek 47 = .ok (.getfield 26, 3) := by decide +kernel
theorem dX11_seek_50 : decode cX11_seek 50 = .ok (.aload_n 0, 1) := by decide +kernel
theorem dX11_seek_51 : decode cX11_seek 51 = .ok (.getfield 10, 3) := by decide +kernel
theorem dX11_seek_54 : decode cX11_seek 54 = .ok (.invokevirtual 182, 3) := by decide +kernel
theorem dX11_seek_57 : decode cX11_seek 57 = .ok (.aload_n 0, 1) := by decide +kernel
theorem dX11_seek_58 : decode cX11_seek 58 = .ok (.iload_n 1, 1) := by decide +kernel
theorem dX11_seek_59 : decode cX11_seek 59 = .ok (.invokevirtual 186, 3) := by decide +kernel
theorem dX11_seek_62 : decode cX11_seek 62 = .ok (.aload_n 0, 1) := by decide +kernel
theorem dX11_seek_63 : decode cX11_seek 63 = .ok (.getfield 33, 3) := by decide +kernel
theorem dX11_seek_66 : decode cX11_seek 66 = .ok (.iload_n 2, 1) := by decide +kernel
theorem dX11_seek_67 : decode cX11_seek 67 = .ok (.iload_n 3, 1) := by decide +kernel
theorem dX11_seek_68 : decode cX11_seek 68 = .ok (.iload 4, 2) := by decide +kernel
theorem dX11_seek_70 : decode cX11_seek 70 = .ok (.iload 5, 2) := by decide +kernel
theorem dX11_seek_72 : decode cX11_seek 72 = .ok (.invokevirtual 293, 3) := by decide +kernel
theorem dX11_seek_75 : decode cX11_seek 75 = .ok (.istore 6, 2) := by decide +kernel
theorem dX11_seek_77 : decode cX11_seek 77 = .ok (.aload_n 0, 1) := by decide +kernel
theorem dX11_seek_78 : decode cX11_seek 78 = .ok (.getfield 33, 3) := by decide +kernel
theorem dX11_seek_81 : decode cX11_seek 81 = .ok (.iload 6, 2) := by decide +kernel
theorem dX11_seek_83 : decode cX11_seek 83 = .ok (.invokevirtual 297, 3) := by decide +kernel
theorem dX11_seek_86 : decode cX11_seek 86 = .ok (.istore 7, 2) := by decide +kernel
theorem dX11_seek_88 : decode cX11_seek 88 = .ok (.iload 7, 2) := by decide +kernel
theorem dX11_seek_90 : decode cX11_seek 90 = .ok (.aload_n 0, 1) := by decide +kernel
theorem dX11_seek_91 : decode cX11_seek 91 = .ok (.getfield 33, 3) := by decide +kernel
theorem dX11_seek_94 : decode cX11_seek 94 = .ok (.getfield 268, 3) := by decide +kernel
theorem dX11_seek_97 : decode cX11_seek 97 = .ok (.if_icmp .lt 14, 3) := by decide +kernel
theorem dX11_seek_100 : decode cX11_seek 100 = .ok (.new 137, 3) := by decide +kernel
theorem dX11_seek_103 : decode cX11_seek 103 = .ok (.dup, 1) := by decide +kernel
theorem dX11_seek_104 : decode cX11_seek 104 = .ok (.ldc_w 299, 3) := by decide +kernel
theorem dX11_seek_107 : decode cX11_seek 107 = .ok (.invokespecial 141, 3) := by decide +kernel
theorem dX11_seek_110 : decode cX11_seek 110 = .ok (.athrow, 1) := by decide +kernel
theorem dX11_seek_111 : decode cX11_seek 111 = .ok (.iload 7, 2) := by decide +kernel
theorem dX11_seek_113 : decode cX11_seek 113 = .ok (.ireturn, 1) := by decide +kernel
theorem dX11_leaps_0 : decode cX11_leaps 0 = .ok (.aload_n 0, 1) := by decide +kernel
theorem dX11_leaps_1 : decode cX11_leaps 1 = .ok (.iload_n 1, 1) := by decide +kernel
theorem dX11_leaps_2 : decode cX11_leaps 2 = .ok (.invokevirtual 145, 3) := by decide +kernel
theorem dX11_leaps_5 : decode cX11_leaps 5 = .ok (.aload_n 0, 1) := by decide +kernel
theorem dX11_leaps_6 : decode cX11_leaps 6 = .ok (.getfield 26, 3) := by decide +kernel
theorem dX11_leaps_9 : decode cX11_leaps 9 = .ok (.aload_n 0, 1) := by decide +kernel
theorem dX11_leaps_10 : decode cX11_leaps 10 = .ok (.getfield 10, 3) := by decide +kernel
theorem dX11_leaps_13 : decode cX11_leaps 13 = .ok (.invokevirtual 182, 3) := by decide +kernel
theorem dX11_leaps_16 : decode cX11_leaps 16 = .ok (.aload_n 0, 1) := by decide +kernel
theorem dX11_leaps_17 : decode cX11_leaps 17 = .ok (.iload_n 1, 1) := by decide +kernel
theorem dX11_leaps_18 : decode cX11_leaps 18 = .ok (.invokevirtual 186, 3) := by decide +kernel
theorem dX11_leaps_21 : decode cX11_leaps 21 = .ok (.aload_n 0, 1) := by decide +kernel
theorem dX11_leaps_22 : decode cX11_leaps 22 = .ok (.getfield 33, 3) := by decide +kernel
theorem dX11_leaps_25 : decode cX11_leaps 25 = .ok (.getfield 301, 3) := by decide +kernel
theorem dX11_leaps_28 : decode cX11_leaps 28 = .ok (.getfield 305, 3) := by decide +kernel
theorem dX11_leaps_31 : decode cX11_leaps 31 = .ok (.ireturn, 1) := by decide +kernel
theorem dX11_groups_0 : decode cX11_groups 0 = .ok (.aload_n 0, 1) := by decide +kernel
theorem dX11_groups_1 : decode cX11_groups 1 = .ok (.iload_n 1, 1) := by decide +kernel
theorem dX11_groups_2 : decode cX11_groups 2 = .ok (.invokevirtual 145, 3) := by decide +kernel
theorem dX11_groups_5 : decode cX11_groups 5 = .ok (.aload_n 0, 1) := by decide +kernel
theorem dX11_groups_6 : decode cX11_groups 6 = .ok (.iload_n 1, 1) := by decide +kernel
theorem dX11_groups_7 : decode cX11_groups 7 = .ok (.iload_n 2, 1) := by decide +kernel
theorem dX11_groups_8 : decode cX11_groups 8 = .ok (.invokevirtual 271, 3) := by decide +kernel
theorem dX11_groups_11 : decode cX11_groups 11 = .ok (.aload_n 0, 1) := by decide +kernel
theorem dX11_groups_12 : decode cX11_groups 12 = .ok (.getfield 26, 3) := by decide +kernel
theorem dX11_groups_15 : decode cX11_groups 15 = .ok (.aload_n 0, 1) := by decide +kernel
theorem dX11_groups_16 : decode cX11_groups 16 = .ok (.getfield 10, 3) := by decide +kernel
theorem dX11_groups_19 : decode cX11_groups 19 = .ok (.invokevirtual 182, 3) := by decide +kernel
theorem dX11_groups_22 : decode cX11_groups 22 = .ok (.aload_n 0, 1) := by decide +kernel
theorem dX11_groups_23 : decode cX11_groups 23 = .ok (.iload_n 1, 1) := by decide +kernel
theorem dX11_groups_24 : decode cX11_groups 24 = .ok (.invokevirtual 186, 3) := by decide +kernel
theorem dX11_groups_27 : decode cX11_groups 27 = .ok (.iconst 0, 1) := by decide +kernel
theorem dX11_groups_28 : decode cX11_groups 28 = .ok (.istore_n 3, 1) := by decide +kernel
theorem dX11_groups_29 : decode cX11_groups 29 = .ok (.iconst 0, 1) := by decide +kernel
theorem dX11_groups_30 : decode cX11_groups 30 = .ok (.istore 4, 2) := by decide +kernel
theorem dX11_groups_32 : decode cX11_groups 32 = .ok (.iload 4, 2) := by decide +kernel
theorem dX11_groups_34 : decode cX11_groups 34 = .ok (.bipush 8, 2) := by decide +kernel
theorem dX11_groups_36 : decode cX11_groups 36 = .ok (.if_icmp .ge 30, 3) := by decide +kernel
theorem dX11_groups_39 : decode cX11_groups 39 = .ok (.iload_n 3, 1) := by decide +kernel
theorem dX11_groups_40 : decode cX11_groups 40 = .ok (.aload_n 0, 1) := by decide +kernel
theorem dX11_groups_41 : decode cX11_groups 41 = .ok (.getfield 33, 3) := by decide +kernel
theorem dX11_groups_44 : decode cX11_groups 44 = .ok (.iload_n 2, 1) := by decide +kernel
theorem dX11_groups_45 : decode cX11_groups 45 = .ok (.iload 4, 2) := by decide +kernel
theorem dX11_groups_47 : decode cX11_groups 47 = .ok (.invokevirtual 310, 3) := by decide +kernel
theorem dX11_groups_50 : decode cX11_groups 50 = .ok (.ifCond .le 7, 3) := by decide +kernel
theorem dX11_groups_53 : decode cX11_groups 53 = .ok (.iconst 1, 1) := by decide +kernel
theorem dX11_groups_54 : decode cX11_groups 54 = .ok (.goto 4, 3) := by decide +kernel
theorem dX11_groups_57 : decode cX11_groups 57 = .ok (.iconst 0, 1) := by decide +kernel
theorem dX11_groups_58 : decode cX11_groups 58 = .ok (.iadd, 1) := by decide +kernel
theorem dX11_groups_59 : decode cX11_groups 59 = .ok (.istore_n 3, 1) := by decide +kernel
theorem dX11_groups_60 : decode cX11_groups 60 = .ok (.iinc 4 1, 3) := by decide +kernel
theorem dX11_groups_63 : decode cX11_groups 63 = .ok (.goto (-31), 3) := by decide +kernel
theorem dX11_groups_66 : decode cX11_groups 66 = .ok (.iload_n 3, 1) := by decide +kernel
theorem dX11_groups_67 : decode cX11_groups 67 = .ok (.ireturn, 1) := by decide +kernel
theorem dX11_groupSize_0 : decode cX11_groupSize 0 = .ok (.aload_n 0, 1) := by decide +kernel
theorem dX11_groupSize_1 : decode cX11_groupSize 1 = .ok (.iload_n 1, 1) := by decide +kernel
theorem dX11_groupSize_2 : decode cX11_groupSize 2 = .ok (.invokevirtual 145, 3) := by decide +kernel
theorem dX11_groupSize_5 : decode cX11_groupSize 5 = .ok (.aload_n 0, 1) := by decide +kernel
theorem dX11_groupSize_6 : decode cX11_groupSize 6 = .ok (.iload_n 1, 1) := by decide +kernel
theorem dX11_groupSize_7 : decode cX11_groupSize 7 = .ok (.iload_n 2, 1) := by decide +kernel
theorem dX11_groupSize_8 : decode cX11_groupSize 8 = .ok (.invokevirtual 271, 3) := by decide +kernel
theorem dX11_groupSize_11 : decode cX11_groupSize 11 = .ok (.iload_n 3, 1) := by decide +kernel
theorem dX11_groupSize_12 : decode cX11_groupSize 12 = .ok (.invokestatic 288, 3) := by decide +kernel
theorem dX11_groupSize_15 : decode cX11_groupSize 15 = .ok (.ifCond .ne 14, 3) := by decide +kernel
theorem dX11_groupSize_18 : decode cX11_groupSize 18 = .ok (.new 97, 3) := by decide +kernel
theorem dX11_groupSize_21 : decode cX11_groupSize 21 = .ok (.dup, 1) := by decide +kernel
theorem dX11_groupSize_22 : decode cX11_groupSize 22 = .ok (.ldc_w 291, 3) := by decide +kernel
theorem dX11_groupSize_25 : decode cX11_groupSize 25 = .ok (.invokespecial 101, 3) := by decide +kernel
theorem dX11_groupSize_28 : decode cX11_groupSize 28 = .ok (.athrow, 1) := by decide +kernel
theorem dX11_groupSize_29 : decode cX11_groupSize 29 = .ok (.aload_n 0, 1) := by decide +kernel
theorem dX11_groupSize_30 : decode cX11_groupSize 30 = .ok (.getfield 26, 3) := by decide +kernel
theorem dX11_groupSize_33 : decode cX11_groupSize 33 = .ok (.aload_n 0, 1) := by decide +kernel
theorem dX11_groupSize_34 : decode cX11_groupSize 34 = .ok (.getfield 10, 3) := by decide +kernel
theorem dX11_groupSize_37 : decode cX11_groupSize 37 = .ok (.invokevirtual 182, 3) := by decide +kernel
theorem dX11_groupSize_40 : decode cX11_groupSize 40 = .ok (.aload_n 0, 1) := by decide +kernel
theorem dX11_groupSize_41 : decode cX11_groupSize 41 = .ok (.iload_n 1, 1) := by decide +kernel
theorem dX11_groupSize_42 : decode cX11_groupSize 42 = .ok (.invokevirtual 186, 3) := by decide +kernel
theorem dX11_groupSize_45 : decode cX11_groupSize 45 = .ok (.aload_n 0, 1) := by decide +kernel
theorem dX11_groupSize_46 : decode cX11_groupSize 46 = .ok (.getfield 33, 3) := by decide +kernel
theorem dX11_groupSize_49 : decode cX11_groupSize 49 = .ok (.iload_n 2, 1) := by decide +kernel
theorem dX11_groupSize_50 : decode cX11_groupSize 50 = .ok (.iload_n 3, 1) := by decide +kernel
theorem dX11_groupSize_51 : decode cX11_groupSize 51 = .ok (.invokevirtual 310, 3) := by decide +kernel
theorem dX11_groupSize_54 : decode cX11_groupSize 54 = .ok (.ireturn, 1) := by decide +kernel
theorem dX11_idleRows_0 : decode cX11_idleRows 0 = .ok (.aload_n 0, 1) := by decide +kernel
theorem dX11_idleRows_1 : decode cX11_idleRows 1 = .ok (.iload_n 1, 1) := by decide +kernel
theorem dX11_idleRows_2 : decode cX11_idleRows 2 = .ok (.invokevirtual 145, 3) := by decide +kernel
theorem dX11_idleRows_5 : decode cX11_idleRows 5 = .ok (.aload_n 0, 1) := by decide +kernel
theorem dX11_idleRows_6 : decode cX11_idleRows 6 = .ok (.iload_n 1, 1) := by decide +kernel
theorem dX11_idleRows_7 : decode cX11_idleRows 7 = .ok (.iload_n 2, 1) := by decide +kernel
theorem dX11_idleRows_8 : decode cX11_idleRows 8 = .ok (.invokevirtual 179, 3) := by decide +kernel
theorem dX11_idleRows_11 : decode cX11_idleRows 11 = .ok (.aload_n 0, 1) := by decide +kernel
theorem dX11_idleRows_12 : decode cX11_idleRows 12 = .ok (.getfield 26, 3) := by decide +kernel
theorem dX11_idleRows_15 : decode cX11_idleRows 15 = .ok (.aload_n 0, 1) := by decide +kernel
theorem dX11_idleRows_16 : decode cX11_idleRows 16 = .ok (.getfield 10, 3) := by decide +kernel
theorem dX11_idleRows_19 : decode cX11_idleRows 19 = .ok (.invokevirtual 182, 3) := by decide +kernel
theorem dX11_idleRows_22 : decode cX11_idleRows 22 = .ok (.aload_n 0, 1) := by decide +kernel
theorem dX11_idleRows_23 : decode cX11_idleRows 23 = .ok (.iload_n 1, 1) := by decide +kernel
theorem dX11_idleRows_24 : decode cX11_idleRows 24 = .ok (.invokevirtual 186, 3) := by decide +kernel
theorem dX11_idleRows_27 : decode cX11_idleRows 27 = .ok (.aload_n 0, 1) := by decide +kernel
theorem dX11_idleRows_28 : decode cX11_idleRows 28 = .ok (.getfield 10, 3) := by decide +kernel
theorem dX11_idleRows_31 : decode cX11_idleRows 31 = .ok (.iload_n 1, 1) := by decide +kernel
theorem dX11_idleRows_32 : decode cX11_idleRows 32 = .ok (.invokevirtual 94, 3) := by decide +kernel
theorem dX11_idleRows_35 : decode cX11_idleRows 35 = .ok (.iload_n 2, 1) := by decide +kernel
theorem dX11_idleRows_36 : decode cX11_idleRows 36 = .ok (.invokevirtual 189, 3) := by decide +kernel
theorem dX11_idleRows_39 : decode cX11_idleRows 39 = .ok (.istore_n 3, 1) := by decide +kernel
theorem dX11_idleRows_40 : decode cX11_idleRows 40 = .ok (.aload_n 0, 1) := by decide +kernel
theorem dX11_idleRows_41 : decode cX11_idleRows 41 = .ok (.iload_n 3, 1) := by decide +kernel
theorem dX11_idleRows_42 : decode cX11_idleRows 42 = .ok (.invokevirtual 190, 3) := by decide +kernel
theorem dX11_idleRows_45 : decode cX11_idleRows 45 = .ok (.iload_n 3, 1) := by decide +kernel
theorem dX11_idleRows_46 : decode cX11_idleRows 46 = .ok (.invokestatic 193, 3) := by decide +kernel
theorem dX11_idleRows_49 : decode cX11_idleRows 49 = .ok (.istore 4, 2) := by decide +kernel
theorem dX11_idleRows_51 : decode cX11_idleRows 51 = .ok (.aload_n 0, 1) := by decide +kernel
theorem dX11_idleRows_52 : decode cX11_idleRows 52 = .ok (.getfield 26, 3) := by decide +kernel
theorem dX11_idleRows_55 : decode cX11_idleRows 55 = .ok (.getfield 228, 3) := by decide +kernel
theorem dX11_idleRows_58 : decode cX11_idleRows 58 = .ok (.iload 4, 2) := by decide +kernel
theorem dX11_idleRows_60 : decode cX11_idleRows 60 = .ok (.invokevirtual 131, 3) := by decide +kernel
theorem dX11_idleRows_63 : decode cX11_idleRows 63 = .ok (.aload_n 0, 1) := by decide +kernel
theorem dX11_idleRows_64 : decode cX11_idleRows 64 = .ok (.getfield 54, 3) := by decide +kernel
theorem dX11_idleRows_67 : decode cX11_idleRows 67 = .ok (.iload 4, 2) := by decide +kernel
theorem dX11_idleRows_69 : decode cX11_idleRows 69 = .ok (.invokevirtual 131, 3) := by decide +kernel
theorem dX11_idleRows_72 : decode cX11_idleRows 72 = .ok (.isub, 1) := by decide +kernel
theorem dX11_idleRows_73 : decode cX11_idleRows 73 = .ok (.ireturn, 1) := by decide +kernel
theorem dX11_isTree_0 : decode cX11_isTree 0 = .ok (.aload_n 0, 1) := by decide +kernel
theorem dX11_isTree_1 : decode cX11_isTree 1 = .ok (.iload_n 1, 1) := by decide +kernel
theorem dX11_isTree_2 : decode cX11_isTree 2 = .ok (.invokevirtual 145, 3) := by decide +kernel
theorem dX11_isTree_5 : decode cX11_isTree 5 = .ok (.aload_n 0, 1) := by decide +kernel
theorem dX11_isTree_6 : decode cX11_isTree 6 = .ok (.getfield 47, 3) := by decide +kernel
theorem dX11_isTree_9 : decode cX11_isTree 9 = .ok (.aload_n 0, 1) := by decide +kernel
theorem dX11_isTree_10 : decode cX11_isTree 10 = .ok (.getfield 10, 3) := by decide +kernel
theorem dX11_isTree_13 : decode cX11_isTree 13 = .ok (.iload_n 1, 1) := by decide +kernel
theorem dX11_isTree_14 : decode cX11_isTree 14 = .ok (.invokevirtual 94, 3) := by decide +kernel
theorem dX11_isTree_17 : decode cX11_isTree 17 = .ok (.invokevirtual 313, 3) := by decide +kernel
theorem dX11_isTree_20 : decode cX11_isTree 20 = .ok (.ireturn, 1) := by decide +kernel
theorem dX11_cover_0 : decode cX11_cover 0 = .ok (.aload_n 0, 1) := by decide +kernel
theorem dX11_cover_1 : decode cX11_cover 1 = .ok (.iload_n 1, 1) := by decide +kernel
theorem dX11_cover_2 : decode cX11_cover 2 = .ok (.invokevirtual 145, 3) := by decide +kernel
theorem dX11_cover_5 : decode cX11_cover 5 = .ok (.aload_n 0, 1) := by decide +kernel
theorem dX11_cover_6 : decode cX11_cover 6 = .ok (.getfield 26, 3) := by decide +kernel
theorem dX11_cover_9 : decode cX11_cover 9 = .ok (.aload_n 0, 1) := by decide +kernel
theorem dX11_cover_10 : decode cX11_cover 10 = .ok (.getfield 10, 3) := by decide +kernel
theorem dX11_cover_13 : decode cX11_cover 13 = .ok (.invokevirtual 182, 3) := by decide +kernel
theorem dX11_cover_16 : decode cX11_cover 16 = .ok (.aload_n 0, 1) := by decide +kernel
theorem dX11_cover_17 : decode cX11_cover 17 = .ok (.getfield 40, 3) := by decide +kernel
theorem dX11_cover_20 : decode cX11_cover 20 = .ok (.aload_n 0, 1) := by decide +kernel
theorem dX11_cover_21 : decode cX11_cover 21 = .ok (.getfield 10, 3) := by decide +kernel
theorem dX11_cover_24 : decode cX11_cover 24 = .ok (.iload_n 1, 1) := by decide +kernel
theorem dX11_cover_25 : decode cX11_cover 25 = .ok (.invokevirtual 94, 3) := by decide +kernel
theorem dX11_cover_28 : decode cX11_cover 28 = .ok (.aload_n 0, 1) := by decide +kernel
theorem dX11_cover_29 : decode cX11_cover 29 = .ok (.getfield 26, 3) := by decide +kernel
theorem dX11_cover_32 : decode cX11_cover 32 = .ok (.getfield 228, 3) := by decide +kernel
theorem dX11_cover_35 : decode cX11_cover 35 = .ok (.invokevirtual 317, 3) := by decide +kernel
theorem dX11_cover_38 : decode cX11_cover 38 = .ok (.aload_n 0, 1) := by decide +kernel
theorem dX11_cover_39 : decode cX11_cover 39 = .ok (.getfield 40, 3) := by decide +kernel
theorem dX11_cover_42 : decode cX11_cover 42 = .ok (.getfield 321, 3) := by decide +kernel
theorem dX11_cover_45 : decode cX11_cover 45 = .ok (.ireturn, 1) := by decide +kernel
theorem dX11_bound_0 : decode cX11_bound 0 = .ok (.aload_n 0, 1) := by decide +kernel
theorem dX11_bound_1 : decode cX11_bound 1 = .ok (.iload_n 1, 1) := by decide +kernel
theorem dX11_bound_2 : decode cX11_bound 2 = .ok (.invokevirtual 145, 3) := by decide +kernel
theorem dX11_bound_5 : decode cX11_bound 5 = .ok (.aload_n 0, 1) := by decide +kernel
theorem dX11_bound_6 : decode cX11_bound 6 = .ok (.getfield 26, 3) := by decide +kernel
theorem dX11_bound_9 : decode cX11_bound 9 = .ok (.aload_n 0, 1) := by decide +kernel
theorem dX11_bound_10 : decode cX11_bound 10 = .ok (.getfield 10, 3) := by decide +kernel
theorem dX11_bound_13 : decode cX11_bound 13 = .ok (.invokevirtual 182, 3) := by decide +kernel
theorem dX11_bound_16 : decode cX11_bound 16 = .ok (.aload_n 0, 1) := by decide +kernel
theorem dX11_bound_17 : decode cX11_bound 17 = .ok (.getfield 40, 3) := by decide +kernel
theorem dX11_bound_20 : decode cX11_bound 20 = .ok (.aload_n 0, 1) := by decide +kernel
theorem dX11_bound_21 : decode cX11_bound 21 = .ok (.getfield 10, 3) := by decide +kernel
theorem dX11_bound_24 : decode cX11_bound 24 = .ok (.iload_n 1, 1) := by decide +kernel
theorem dX11_bound_25 : decode cX11_bound 25 = .ok (.invokevirtual 94, 3) := by decide +kernel
theorem dX11_bound_28 : decode cX11_bound 28 = .ok (.aload_n 0, 1) := by decide +kernel
theorem dX11_bound_29 : decode cX11_bound 29 = .ok (.getfield 26, 3) := by decide +kernel
theorem dX11_bound_32 : decode cX11_bound 32 = .ok (.getfield 228, 3) := by decide +kernel
theorem dX11_bound_35 : decode cX11_bound 35 = .ok (.invokevirtual 317, 3) := by decide +kernel
theorem dX11_bound_38 : decode cX11_bound 38 = .ok (.aload_n 0, 1) := by decide +kernel
theorem dX11_bound_39 : decode cX11_bound 39 = .ok (.getfield 40, 3) := by decide +kernel
theorem dX11_bound_42 : decode cX11_bound 42 = .ok (.getfield 324, 3) := by decide +kernel
theorem dX11_bound_45 : decode cX11_bound 45 = .ok (.lreturn, 1) := by decide +kernel
theorem dX11_layerOf_0 : decode cX11_layerOf 0 = .ok (.aload_n 0, 1) := by decide +kernel
theorem dX11_layerOf_1 : decode cX11_layerOf 1 = .ok (.iload_n 1, 1) := by decide +kernel
theorem dX11_layerOf_2 : decode cX11_layerOf 2 = .ok (.invokevirtual 118, 3) := by decide +kernel
theorem dX11_layerOf_5 : decode cX11_layerOf 5 = .ok (.aload_n 0, 1) := by decide +kernel
theorem dX11_layerOf_6 : decode cX11_layerOf 6 = .ok (.getfield 26, 3) := by decide +kernel
theorem dX11_layerOf_9 : decode cX11_layerOf 9 = .ok (.aload_n 0, 1) := by decide +kernel
theorem dX11_layerOf_10 : decode cX11_layerOf 10 = .ok (.getfield 10, 3) := by decide +kernel
theorem dX11_layerOf_13 : decode cX11_layerOf 13 = .ok (.invokevirtual 182, 3) := by decide +kernel
theorem dX11_layerOf_16 : decode cX11_layerOf 16 = .ok (.aload_n 0, 1) := by decide +kernel
theorem dX11_layerOf_17 : decode cX11_layerOf 17 = .ok (.getfield 26, 3) := by decide +kernel
theorem dX11_layerOf_20 : decode cX11_layerOf 20 = .ok (.getfield 331, 3) := by decide +kernel
theorem dX11_layerOf_23 : decode cX11_layerOf 23 = .ok (.iload_n 1, 1) := by decide +kernel
theorem dX11_layerOf_24 : decode cX11_layerOf 24 = .ok (.invokevirtual 159, 3) := by decide +kernel
theorem dX11_layerOf_27 : decode cX11_layerOf 27 = .ok (.ireturn, 1) := by decide +kernel
theorem dX11_errors_0 : decode cX11_errors 0 = .ok (.aload_n 0, 1) := by decide +kernel
theorem dX11_errors_1 : decode cX11_errors 1 = .ok (.getfield 26, 3) := by decide +kernel
theorem dX11_errors_4 : decode cX11_errors 4 = .ok (.aload_n 0, 1) := by decide +kernel
theorem dX11_errors_5 : decode cX11_errors 5 = .ok (.getfield 10, 3) := by decide +kernel
theorem dX11_errors_8 : decode cX11_errors 8 = .ok (.invokevirtual 182, 3) := by decide +kernel
theorem dX11_errors_11 : decode cX11_errors 11 = .ok (.iconst 0, 1) := by decide +kernel
theorem dX11_errors_12 : decode cX11_errors 12 = .ok (.istore_n 1, 1) := by decide +kernel
theorem dX11_errors_13 : decode cX11_errors 13 = .ok (.iconst 0, 1) := by decide +kernel
theorem dX11_errors_14 : decode cX11_errors 14 = .ok (.istore_n 2, 1) := by decide +kernel
theorem dX11_errors_15 : decode cX11_errors 15 = .ok (.iload_n 2, 1) := by decide +kernel
theorem dX11_errors_16 : decode cX11_errors 16 = .ok (.iconst 4, 1) := by decide +kernel
theorem dX11_errors_17 : decode cX11_errors 17 = .ok (.if_icmp .ge 44, 3) := by decide +kernel
theorem dX11_errors_20 : decode cX11_errors 20 = .ok (.aload_n 0, 1) := by decide +kernel
theorem dX11_errors_21 : decode cX11_errors 21 = .ok (.iload_n 2, 1) := by decide +kernel
theorem dX11_errors_22 : decode cX11_errors 22 = .ok (.invokevirtual 186, 3) := by decide +kernel
theorem dX11_errors_25 : decode cX11_errors 25 = .ok (.iload_n 1, 1) := by decide +kernel
theorem dX11_errors_26 : decode cX11_errors 26 = .ok (.aload_n 0, 1) := by decide +kernel
theorem dX11_errors_27 : decode cX11_errors 27 = .ok (.getfield 33, 3) := by decide +kernel
theorem dX11_errors_30 : decode cX11_errors 30 = .ok (.getfield 268, 3) := by decide +kernel
theorem dX11_errors_33 : decode cX11_errors 33 = .ok (.aload_n 0, 1) := by decide +kernel
theorem dX11_errors_34 : decode cX11_errors 34 = .ok (.aload_n 0, 1) := by decide +kernel
theorem dX11_errors_35 : decode cX11_errors 35 = .ok (.getfield 10, 3) := by decide +kernel
theorem dX11_errors_38 : decode cX11_errors 38 = .ok (.iload_n 2, 1) := by decide +kernel
theorem dX11_errors_39 : decode cX11_errors 39 = .ok (.invokevirtual 94, 3) := by decide +kernel
theorem dX11_errors_42 : decode cX11_errors 42 = .ok (.invokevirtual 344, 3) := by decide +kernel
theorem dX11_errors_45 : decode cX11_errors 45 = .ok (.if_icmp .ne 7, 3) := by decide +kernel
theorem dX11_errors_48 : decode cX11_errors 48 = .ok (.iconst 0, 1) := by decide +kernel
theorem dX11_errors_49 : decode cX11_errors 49 = .ok (.goto 4, 3) := by decide +kernel
theorem dX11_errors_52 : decode cX11_errors 52 = .ok (.iconst 1, 1) := by decide +kernel
theorem dX11_errors_53 : decode cX11_errors 53 = .ok (.iadd, 1) := by decide +kernel
theorem dX11_errors_54 : decode cX11_errors 54 = .ok (.istore_n 1, 1) := by decide +kernel
theorem dX11_errors_55 : decode cX11_errors 55 = .ok (.iinc 2 1, 3) := by decide +kernel
theorem dX11_errors_58 : decode cX11_errors 58 = .ok (.goto (-43), 3) := by decide +kernel
theorem dX11_errors_61 : decode cX11_errors 61 = .ok (.iconst 0, 1) := by decide +kernel
theorem dX11_errors_62 : decode cX11_errors 62 = .ok (.istore_n 2, 1) := by decide +kernel
theorem dX11_errors_63 : decode cX11_errors 63 = .ok (.iload_n 2, 1) := by decide +kernel
theorem dX11_errors_64 : decode cX11_errors 64 = .ok (.aload_n 0, 1) := by decide +kernel
theorem dX11_errors_65 : decode cX11_errors 65 = .ok (.getfield 10, 3) := by decide +kernel
theorem dX11_errors_68 : decode cX11_errors 68 = .ok (.getfield 104, 3) := by decide +kernel
theorem dX11_errors_71 : decode cX11_errors 71 = .ok (.if_icmp .ge 17, 3) := by decide +kernel
theorem dX11_errors_74 : decode cX11_errors 74 = .ok (.iload_n 1, 1) := by decide +kernel
theorem dX11_errors_75 : decode cX11_errors 75 = .ok (.aload_n 0, 1) := by decide +kernel
theorem dX11_errors_76 : decode cX11_errors 76 = .ok (.iload_n 2, 1) := by decide +kernel
theorem dX11_errors_77 : decode cX11_errors 77 = .ok (.invokevirtual 348, 3) := by decide +kernel
theorem dX11_errors_80 : decode cX11_errors 80 = .ok (.iadd, 1) := by decide +kernel
theorem dX11_errors_81 : decode cX11_errors 81 = .ok (.istore_n 1, 1) := by decide +kernel
theorem dX11_errors_82 : decode cX11_errors 82 = .ok (.iinc 2 1, 3) := by decide +kernel
theorem dX11_errors_85 : decode cX11_errors 85 = .ok (.goto (-22), 3) := by decide +kernel
theorem dX11_errors_88 : decode cX11_errors 88 = .ok (.iload_n 1, 1) := by decide +kernel
theorem dX11_errors_89 : decode cX11_errors 89 = .ok (.ireturn, 1) := by decide +kernel
theorem dX11_checksum_0 : decode cX11_checksum 0 = .ok (.aload_n 0, 1) := by decide +kernel
theorem dX11_checksum_1 : decode cX11_checksum 1 = .ok (.getfield 26, 3) := by decide +kernel
theorem dX11_checksum_4 : decode cX11_checksum 4 = .ok (.aload_n 0, 1) := by decide +kernel
theorem dX11_checksum_5 : decode cX11_checksum 5 = .ok (.getfield 10, 3) := by decide +kernel
theorem dX11_checksum_8 : decode cX11_checksum 8 = .ok (.invokevirtual 182, 3) := by decide +kernel
theorem dX11_checksum_11 : decode cX11_checksum 11 = .ok (.bipush 17, 2) := by decide +kernel
theorem dX11_checksum_13 : decode cX11_checksum 13 = .ok (.istore_n 1, 1) := by decide +kernel
theorem dX11_checksum_14 : decode cX11_checksum 14 = .ok (.iconst 0, 1) := by decide +kernel
theorem dX11_checksum_15 : decode cX11_checksum 15 = .ok (.istore_n 2, 1) := by decide +kernel
theorem dX11_checksum_16 : decode cX11_checksum 16 = .ok (.iload_n 2, 1) := by decide +kernel
theorem dX11_checksum_17 : decode cX11_checksum 17 = .ok (.aload_n 0, 1) := by decide +kernel
theorem dX11_checksum_18 : decode cX11_checksum 18 = .ok (.getfield 10, 3) := by decide +kernel
theorem dX11_checksum_21 : decode cX11_checksum 21 = .ok (.getfield 104, 3) := by decide +kernel
theorem dX11_checksum_24 : decode cX11_checksum 24 = .ok (.if_icmp .ge 56, 3) := by decide +kernel
theorem dX11_checksum_27 : decode cX11_checksum 27 = .ok (.iconst 0, 1) := by decide +kernel
theorem dX11_checksum_28 : decode cX11_checksum 28 = .ok (.istore_n 3, 1) := by decide +kernel
theorem dX11_checksum_29 : decode cX11_checksum 29 = .ok (.iload_n 3, 1) := by decide +kernel
theorem dX11_checksum_30 : decode cX11_checksum 30 = .ok (.sipush 512, 3) := by decide +kernel
theorem dX11_checksum_33 : decode cX11_checksum 33 = .ok (.if_icmp .ge 41, 3) := by decide +kernel
theorem dX11_checksum_36 : decode cX11_checksum 36 = .ok (.aload_n 0, 1) := by decide +kernel
theorem dX11_checksum_37 : decode cX11_checksum 37 = .ok (.getfield 26, 3) := by decide +kernel
theorem dX11_checksum_40 : decode cX11_checksum 40 = .ok (.getfield 228, 3) := by decide +kernel
theorem dX11_checksum_43 : decode cX11_checksum 43 = .ok (.iload_n 2, 1) := by decide +kernel
theorem dX11_checksum_44 : decode cX11_checksum 44 = .ok (.iload_n 3, 1) := by decide +kernel
theorem dX11_checksum_45 : decode cX11_checksum 45 = .ok (.invokevirtual 125, 3) := by decide +kernel
theorem dX11_checksum_48 : decode cX11_checksum 48 = .ok (.ifCond .eq 20, 3) := by decide +kernel
theorem dX11_checksum_51 : decode cX11_checksum 51 = .ok (.iload_n 1, 1) := by decide +kernel
theorem dX11_checksum_52 : decode cX11_checksum 52 = .ok (.iload_n 3, 1) := by decide +kernel
theorem dX11_checksum_53 : decode cX11_checksum 53 = .ok (.aload_n 0, 1) := by decide +kernel
theorem dX11_checksum_54 : decode cX11_checksum 54 = .ok (.getfield 10, 3) := by decide +kernel
theorem dX11_checksum_57 : decode cX11_checksum 57 = .ok (.getfield 155, 3) := by decide +kernel
theorem dX11_checksum_60 : decode cX11_checksum 60 = .ok (.iload_n 2, 1) := by decide +kernel
theorem dX11_checksum_61 : decode cX11_checksum 61 = .ok (.invokevirtual 159, 3) := by decide +kernel
theorem dX11_checksum_64 : decode cX11_checksum 64 = .ok (.invokestatic 351, 3) := by decide +kernel
theorem dX11_checksum_67 : decode cX11_checksum 67 = .ok (.istore_n 1, 1) := by decide +kernel
theorem dX11_checksum_68 : decode cX11_checksum 68 = .ok (.iinc 3 1, 3) := by decide +kernel
theorem dX11_checksum_71 : decode cX11_checksum 71 = .ok (.goto (-42), 3) := by decide +kernel
theorem dX11_checksum_74 : decode cX11_checksum 74 = .ok (.iinc 2 1, 3) := by decide +kernel
theorem dX11_checksum_77 : decode cX11_checksum 77 = .ok (.goto (-61), 3) := by decide +kernel
theorem dX11_checksum_80 : decode cX11_checksum 80 = .ok (.iconst 0, 1) := by decide +kernel
theorem dX11_checksum_81 : decode cX11_checksum 81 = .ok (.istore_n 2, 1) := by decide +kernel
theorem dX11_checksum_82 : decode cX11_checksum 82 = .ok (.iload_n 2, 1) := by decide +kernel
theorem dX11_checksum_83 : decode cX11_checksum 83 = .ok (.iconst 4, 1) := by decide +kernel
theorem dX11_checksum_84 : decode cX11_checksum 84 = .ok (.if_icmp .ge 27, 3) := by decide +kernel
theorem dX11_checksum_87 : decode cX11_checksum 87 = .ok (.aload_n 0, 1) := by decide +kernel
theorem dX11_checksum_88 : decode cX11_checksum 88 = .ok (.iload_n 2, 1) := by decide +kernel
theorem dX11_checksum_89 : decode cX11_checksum 89 = .ok (.invokevirtual 186, 3) := by decide +kernel
theorem dX11_checksum_92 : decode cX11_checksum 92 = .ok (.bipush 31, 2) := by decide +kernel
theorem dX11_checksum_94 : decode cX11_checksum 94 = .ok (.iload_n 1, 1) := by decide +kernel
theorem dX11_checksum_95 : decode cX11_checksum 95 = .ok (.imul, 1) := by decide +kernel
theorem dX11_checksum_96 : decode cX11_checksum 96 = .ok (.aload_n 0, 1) := by decide +kernel
theorem dX11_checksum_97 : decode cX11_checksum 97 = .ok (.getfield 33, 3) := by decide +kernel
theorem dX11_checksum_100 : decode cX11_checksum 100 = .ok (.getfield 268, 3) := by decide +kernel
theorem dX11_checksum_103 : decode cX11_checksum 103 = .ok (.iadd, 1) := by decide +kernel
theorem dX11_checksum_104 : decode cX11_checksum 104 = .ok (.istore_n 1, 1) := by decide +kernel
theorem dX11_checksum_105 : decode cX11_checksum 105 = .ok (.iinc 2 1, 3) := by decide +kernel
theorem dX11_checksum_108 : decode cX11_checksum 108 = .ok (.goto (-26), 3) := by decide +kernel
theorem dX11_checksum_111 : decode cX11_checksum 111 = .ok (.iload_n 1, 1) := by decide +kernel
theorem dX11_checksum_112 : decode cX11_checksum 112 = .ok (.ireturn, 1) := by decide +kernel
theorem dX11_needTable_0 : decode cX11_needTable 0 = .ok (.iload_n 1, 1) := by decide +kernel
theorem dX11_needTable_1 : decode cX11_needTable 1 = .ok (.ifCond .lt 14, 3) := by decide +kernel
theorem dX11_needTable_4 : decode cX11_needTable 4 = .ok (.iload_n 1, 1) := by decide +kernel
theorem dX11_needTable_5 : decode cX11_needTable 5 = .ok (.aload_n 0, 1) := by decide +kernel
theorem dX11_needTable_6 : decode cX11_needTable 6 = .ok (.getfield 10, 3) := by decide +kernel
theorem dX11_needTable_9 : decode cX11_needTable 9 = .ok (.getfield 104, 3) := by decide +kernel
theorem dX11_needTable_12 : decode cX11_needTable 12 = .ok (.if_icmp .lt 14, 3) := by decide +kernel
theorem dX11_needTable_15 : decode cX11_needTable 15 = .ok (.new 238, 3) := by decide +kernel
theorem dX11_needTable_18 : decode cX11_needTable 18 = .ok (.dup, 1) := by decide +kernel
theorem dX11_needTable_19 : decode cX11_needTable 19 = .ok (.ldc_w 354, 3) := by decide +kernel
theorem dX11_needTable_22 : decode cX11_needTable 22 = .ok (.invokespecial 242, 3) := by decide +kernel
theorem dX11_needTable_25 : decode cX11_needTable 25 = .ok (.athrow, 1) := by decide +kernel
theorem dX11_needTable_26 : decode cX11_needTable 26 = .ok (.return_, 1) := by decide +kernel
theorem dX11_needColumn_0 : decode cX11_needColumn 0 = .ok (.iload_n 2, 1) := by decide +kernel
theorem dX11_needColumn_1 : decode cX11_needColumn 1 = .ok (.ifCond .lt 18, 3) := by decide +kernel
theorem dX11_needColumn_4 : decode cX11_needColumn 4 = .ok (.iload_n 2, 1) := by decide +kernel
theorem dX11_needColumn_5 : decode cX11_needColumn 5 = .ok (.aload_n 0, 1) := by decide +kernel
theorem dX11_needColumn_6 : decode cX11_needColumn 6 = .ok (.getfield 10, 3) := by decide +kernel
theorem dX11_needColumn_9 : decode cX11_needColumn 9 = .ok (.getfield 155, 3) := by decide +kernel
theorem dX11_needColumn_12 : decode cX11_needColumn 12 = .ok (.iload_n 1, 1) := by decide +kernel
theorem dX11_needColumn_13 : decode cX11_needColumn 13 = .ok (.invokevirtual 159, 3) := by decide +kernel
theorem dX11_needColumn_16 : decode cX11_needColumn 16 = .ok (.if_icmp .lt 14, 3) := by decide +kernel
theorem dX11_needColumn_19 : decode cX11_needColumn 19 = .ok (.new 238, 3) := by decide +kernel
theorem dX11_needColumn_22 : decode cX11_needColumn 22 = .ok (.dup, 1) := by decide +kernel
theorem dX11_needColumn_23 : decode cX11_needColumn 23 = .ok (.ldc_w 356, 3) := by decide +kernel
theorem dX11_needColumn_26 : decode cX11_needColumn 26 = .ok (.invokespecial 242, 3) := by decide +kernel
theorem dX11_needColumn_29 : decode cX11_needColumn 29 = .ok (.athrow, 1) := by decide +kernel
theorem dX11_needColumn_30 : decode cX11_needColumn 30 = .ok (.return_, 1) := by decide +kernel
theorem dX11_needQuery_0 : decode cX11_needQuery 0 = .ok (.iload_n 1, 1) := by decide +kernel
theorem dX11_needQuery_1 : decode cX11_needQuery 1 = .ok (.ifCond .lt 8, 3) := by decide +kernel
theorem dX11_needQuery_4 : decode cX11_needQuery 4 = .ok (.iload_n 1, 1) := by decide +kernel
theorem dX11_needQuery_5 : decode cX11_needQuery 5 = .ok (.iconst 4, 1) := by decide +kernel
theorem dX11_needQuery_6 : decode cX11_needQuery 6 = .ok (.if_icmp .lt 14, 3) := by decide +kernel
theorem dX11_needQuery_9 : decode cX11_needQuery 9 = .ok (.new 238, 3) := by decide +kernel
theorem dX11_needQuery_12 : decode cX11_needQuery 12 = .ok (.dup, 1) := by decide +kernel
theorem dX11_needQuery_13 : decode cX11_needQuery 13 = .ok (.ldc_w 358, 3) := by decide +kernel
theorem dX11_needQuery_16 : decode cX11_needQuery 16 = .ok (.invokespecial 242, 3) := by decide +kernel
theorem dX11_needQuery_19 : decode cX11_needQuery 19 = .ok (.athrow, 1) := by decide +kernel
theorem dX11_needQuery_20 : decode cX11_needQuery 20 = .ok (.return_, 1) := by decide +kernel
theorem dX11_needAtom_0 : decode cX11_needAtom 0 = .ok (.iload_n 2, 1) := by decide +kernel
theorem dX11_needAtom_1 : decode cX11_needAtom 1 = .ok (.ifCond .lt 18, 3) := by decide +kernel
theorem dX11_needAtom_4 : decode cX11_needAtom 4 = .ok (.iload_n 2, 1) := by decide +kernel
theorem dX11_needAtom_5 : decode cX11_needAtom 5 = .ok (.aload_n 0, 1) := by decide +kernel
theorem dX11_needAtom_6 : decode cX11_needAtom 6 = .ok (.getfield 10, 3) := by decide +kernel
theorem dX11_needAtom_9 : decode cX11_needAtom 9 = .ok (.iload_n 1, 1) := by decide +kernel
theorem dX11_needAtom_10 : decode cX11_needAtom 10 = .ok (.invokevirtual 94, 3) := by decide +kernel
theorem dX11_needAtom_13 : decode cX11_needAtom 13 = .ok (.getfield 151, 3) := by decide +kernel
theorem dX11_needAtom_16 : decode cX11_needAtom 16 = .ok (.if_icmp .lt 14, 3) := by decide +kernel
theorem dX11_needAtom_19 : decode cX11_needAtom 19 = .ok (.new 238, 3) := by decide +kernel
theorem dX11_needAtom_22 : decode cX11_needAtom 22 = .ok (.dup, 1) := by decide +kernel
theorem dX11_needAtom_23 : decode cX11_needAtom 23 = .ok (.ldc_w 360, 3) := by decide +kernel
theorem dX11_needAtom_26 : decode cX11_needAtom 26 = .ok (.invokespecial 242, 3) := by decide +kernel
theorem dX11_needAtom_29 : decode cX11_needAtom 29 = .ok (.athrow, 1) := by decide +kernel
theorem dX11_needAtom_30 : decode cX11_needAtom 30 = .ok (.return_, 1) := by decide +kernel
theorem dX11_needStanding_0 : decode cX11_needStanding 0 = .ok (.iload_n 2, 1) := by decide +kernel
theorem dX11_needStanding_1 : decode cX11_needStanding 1 = .ok (.ifCond .lt 8, 3) := by decide +kernel
theorem dX11_needStanding_4 : decode cX11_needStanding 4 = .ok (.iload_n 2, 1) := by decide +kernel
theorem dX11_needStanding_5 : decode cX11_needStanding 5 = .ok (.iconst 4, 1) := by decide +kernel
theorem dX11_needStanding_6 : decode cX11_needStanding 6 = .ok (.if_icmp .lt 14, 3) := by decide +kernel
theorem dX11_needStanding_9 : decode cX11_needStanding 9 = .ok (.new 238, 3) := by decide +kernel
theorem dX11_needStanding_12 : decode cX11_needStanding 12 = .ok (.dup, 1) := by decide +kernel
theorem dX11_needStanding_13 : decode cX11_needStanding 13 = .ok (.ldc_w 362, 3) := by decide +kernel
theorem dX11_needStanding_16 : decode cX11_needStanding 16 = .ok (.invokespecial 242, 3) := by decide +kernel
theorem dX11_needStanding_19 : decode cX11_needStanding 19 = .ok (.athrow, 1) := by decide +kernel
theorem dX11_needStanding_20 : decode cX11_needStanding 20 = .ok (.aload_n 0, 1) := by decide +kernel
theorem dX11_needStanding_21 : decode cX11_needStanding 21 = .ok (.getfield 10, 3) := by decide +kernel
theorem dX11_needStanding_24 : decode cX11_needStanding 24 = .ok (.iload_n 1, 1) := by decide +kernel
theorem dX11_needStanding_25 : decode cX11_needStanding 25 = .ok (.invokevirtual 94, 3) := by decide +kernel
theorem dX11_needStanding_28 : decode cX11_needStanding 28 = .ok (.iconst 0, 1) := by decide +kernel
theorem dX11_needStanding_29 : decode cX11_needStanding 29 = .ok (.invokevirtual 364, 3) := by decide +kernel
theorem dX11_needStanding_32 : decode cX11_needStanding 32 = .ok (.iconst 1, 1) := by decide +kernel
theorem dX11_needStanding_33 : decode cX11_needStanding 33 = .ok (.iload_n 2, 1) := by decide +kernel
theorem dX11_needStanding_34 : decode cX11_needStanding 34 = .ok (.ishl, 1) := by decide +kernel
theorem dX11_needStanding_35 : decode cX11_needStanding 35 = .ok (.iand, 1) := by decide +kernel
theorem dX11_needStanding_36 : decode cX11_needStanding 36 = .ok (.ifCond .ne 14, 3) := by decide +kernel
theorem dX11_needStanding_39 : decode cX11_needStanding 39 = .ok (.new 238, 3) := by decide +kernel
theorem dX11_needStanding_42 : decode cX11_needStanding 42 = .ok (.dup, 1) := by decide +kernel
theorem dX11_needStanding_43 : decode cX11_needStanding 43 = .ok (.ldc_w 368, 3) := by decide +kernel
theorem dX11_needStanding_46 : decode cX11_needStanding 46 = .ok (.invokespecial 242, 3) := by decide +kernel
theorem dX11_needStanding_49 : decode cX11_needStanding 49 = .ok (.athrow, 1) := by decide +kernel
theorem dX11_needStanding_50 : decode cX11_needStanding 50 = .ok (.return_, 1) := by decide +kernel
theorem dX11_needRule_0 : decode cX11_needRule 0 = .ok (.iload_n 1, 1) := by decide +kernel
theorem dX11_needRule_1 : decode cX11_needRule 1 = .ok (.ifCond .lt 14, 3) := by decide +kernel
theorem dX11_needRule_4 : decode cX11_needRule 4 = .ok (.iload_n 1, 1) := by decide +kernel
theorem dX11_needRule_5 : decode cX11_needRule 5 = .ok (.aload_n 0, 1) := by decide +kernel
theorem dX11_needRule_6 : decode cX11_needRule 6 = .ok (.getfield 10, 3) := by decide +kernel
theorem dX11_needRule_9 : decode cX11_needRule 9 = .ok (.getfield 200, 3) := by decide +kernel
theorem dX11_needRule_12 : decode cX11_needRule 12 = .ok (.if_icmp .lt 14, 3) := by decide +kernel
theorem dX11_needRule_15 : decode cX11_needRule 15 = .ok (.new 238, 3) := by decide +kernel
theorem dX11_needRule_18 : decode cX11_needRule 18 = .ok (.dup, 1) := by decide +kernel
theorem dX11_needRule_19 : decode cX11_needRule 19 = .ok (.ldc_w 370, 3) := by decide +kernel
theorem dX11_needRule_22 : decode cX11_needRule 22 = .ok (.invokespecial 242, 3) := by decide +kernel
theorem dX11_needRule_25 : decode cX11_needRule 25 = .ok (.athrow, 1) := by decide +kernel
theorem dX11_needRule_26 : decode cX11_needRule 26 = .ok (.return_, 1) := by decide +kernel
theorem dX11_needRow_0 : decode cX11_needRow 0 = .ok (.aload_n 0, 1) := by decide +kernel
theorem dX11_needRow_1 : decode cX11_needRow 1 = .ok (.getfield 10, 3) := by decide +kernel
theorem dX11_needRow_4 : decode cX11_needRow 4 = .ok (.getfield 155, 3) := by decide +kernel
theorem dX11_needRow_7 : decode cX11_needRow 7 = .ok (.iload_n 1, 1) := by decide +kernel
theorem dX11_needRow_8 : decode cX11_needRow 8 = .ok (.invokevirtual 159, 3) := by decide +kernel
theorem dX11_needRow_11 : decode cX11_needRow 11 = .ok (.bipush 8, 2) := by decide +kernel
theorem dX11_needRow_13 : decode cX11_needRow 13 = .ok (.iload_n 2, 1) := by decide +kernel
theorem dX11_needRow_14 : decode cX11_needRow 14 = .ok (.iload_n 3, 1) := by decide +kernel
theorem dX11_needRow_15 : decode cX11_needRow 15 = .ok (.iload 4, 2) := by decide +kernel
theorem dX11_needRow_17 : decode cX11_needRow 17 = .ok (.invokestatic 372, 3) := by decide +kernel
theorem dX11_needRow_20 : decode cX11_needRow 20 = .ok (.ifCond .ne 14, 3) := by decide +kernel
theorem dX11_needRow_23 : decode cX11_needRow 23 = .ok (.new 97, 3) := by decide +kernel
theorem dX11_needRow_26 : decode cX11_needRow 26 = .ok (.dup, 1) := by decide +kernel
theorem dX11_needRow_27 : decode cX11_needRow 27 = .ok (.ldc_w 376, 3) := by decide +kernel
theorem dX11_needRow_30 : decode cX11_needRow 30 = .ok (.invokespecial 101, 3) := by decide +kernel
theorem dX11_needRow_33 : decode cX11_needRow 33 = .ok (.athrow, 1) := by decide +kernel
theorem dX11_needRow_34 : decode cX11_needRow 34 = .ok (.return_, 1) := by decide +kernel
theorem dX11_needVariables_0 : decode cX11_needVariables 0 = .ok (.aload_n 0, 1) := by decide +kernel
theorem dX11_needVariables_1 : decode cX11_needVariables 1 = .ok (.getfield 10, 3) := by decide +kernel
theorem dX11_needVariables_4 : decode cX11_needVariables 4 = .ok (.getfield 155, 3) := by decide +kernel
theorem dX11_needVariables_7 : decode cX11_needVariables 7 = .ok (.iload_n 1, 1) := by decide +kernel
theorem dX11_needVariables_8 : decode cX11_needVariables 8 = .ok (.invokevirtual 159, 3) := by decide +kernel
theorem dX11_needVariables_11 : decode cX11_needVariables 11 = .ok (.iconst 4, 1) := by decide +kernel
theorem dX11_needVariables_12 : decode cX11_needVariables 12 = .ok (.iload_n 2, 1) := by decide +kernel
theorem dX11_needVariables_13 : decode cX11_needVariables 13 = .ok (.iload_n 3, 1) := by decide +kernel
theorem dX11_needVariables_14 : decode cX11_needVariables 14 = .ok (.iload 4, 2) := by decide +kernel
theorem dX11_needVariables_16 : decode cX11_needVariables 16 = .ok (.invokestatic 372, 3) := by decide +kernel
theorem dX11_needVariables_19 : decode cX11_needVariables 19 = .ok (.ifCond .ne 14, 3) := by decide +kernel
theorem dX11_needVariables_22 : decode cX11_needVariables 22 = .ok (.new 97, 3) := by decide +kernel
theorem dX11_needVariables_25 : decode cX11_needVariables 25 = .ok (.dup, 1) := by decide +kernel
theorem dX11_needVariables_26 : decode cX11_needVariables 26 = .ok (.ldc_w 378, 3) := by decide +kernel
theorem dX11_needVariables_29 : decode cX11_needVariables 29 = .ok (.invokespecial 101, 3) := by decide +kernel
theorem dX11_needVariables_32 : decode cX11_needVariables 32 = .ok (.athrow, 1) := by decide +kernel
theorem dX11_needVariables_33 : decode cX11_needVariables 33 = .ok (.return_, 1) := by decide +kernel
theorem dX11_areInColumns_0 : decode cX11_areInColumns 0 = .ok (.iload_n 0, 1) := by decide +kernel
theorem dX11_areInColumns_1 : decode cX11_areInColumns 1 = .ok (.iconst 1, 1) := by decide +kernel
theorem dX11_areInColumns_2 : decode cX11_areInColumns 2 = .ok (.if_icmp .le 7, 3) := by decide +kernel
theorem dX11_areInColumns_5 : decode cX11_areInColumns 5 = .ok (.iload_n 1, 1) := by decide +kernel
theorem dX11_areInColumns_6 : decode cX11_areInColumns 6 = .ok (.goto 4, 3) := by decide +kernel
theorem dX11_areInColumns_9 : decode cX11_areInColumns 9 = .ok (.iconst 1, 1) := by decide +kernel
theorem dX11_areInColumns_10 : decode cX11_areInColumns 10 = .ok (.istore 5, 2) := by decide +kernel
theorem dX11_areInColumns_12 : decode cX11_areInColumns 12 = .ok (.iload_n 0, 1) := by decide +kernel
theorem dX11_areInColumns_13 : decode cX11_areInColumns 13 = .ok (.iconst 2, 1) := by decide +kernel
theorem dX11_areInColumns_14 : decode cX11_areInColumns 14 = .ok (.if_icmp .le 7, 3) := by decide +kernel
theorem dX11_areInColumns_17 : decode cX11_areInColumns 17 = .ok (.iload_n 1, 1) := by decide +kernel
theorem dX11_areInColumns_18 : decode cX11_areInColumns 18 = .ok (.goto 4, 3) := by decide +kernel
theorem dX11_areInColumns_21 : decode cX11_areInColumns 21 = .ok (.iconst 1, 1) := by decide +kernel
theorem dX11_areInColumns_22 : decode cX11_areInColumns 22 = .ok (.istore 6, 2) := by decide +kernel
theorem dX11_areInColumns_24 : decode cX11_areInColumns 24 = .ok (.iload_n 2, 1) := by decide +kernel
theorem dX11_areInColumns_25 : decode cX11_areInColumns 25 = .ok (.ifCond .lt 34, 3) := by decide +kernel
theorem dX11_areInColumns_28 : decode cX11_areInColumns 28 = .ok (.iload_n 2, 1) := by decide +kernel
theorem dX11_areInColumns_29 : decode cX11_areInColumns 29 = .ok (.iload_n 1, 1) := by decide +kernel
theorem dX11_areInColumns_30 : decode cX11_areInColumns 30 = .ok (.if_icmp .ge 29, 3) := by decide +kernel
theorem dX11_areInColumns_33 : decode cX11_areInColumns 33 = .ok (.iload_n 3, 1) := by decide +kernel
theorem dX11_areInColumns_34 : decode cX11_areInColumns 34 = .ok (.ifCond .lt 25, 3) := by decide +kernel
theorem dX11_areInColumns_37 : decode cX11_areInColumns 37 = .ok (.iload_n 3, 1) := by decide +kernel
theorem dX11_areInColumns_38 : decode cX11_areInColumns 38 = .ok (.iload 5, 2) := by decide +kernel
theorem dX11_areInColumns_40 : decode cX11_areInColumns 40 = .ok (.if_icmp .ge 19, 3) := by decide +kernel
theorem dX11_areInColumns_43 : decode cX11_areInColumns 43 = .ok (.iload 4, 2) := by decide +kernel
theorem dX11_areInColumns_45 : decode cX11_areInColumns 45 = .ok (.ifCond .lt 14, 3) := by decide +kernel
theorem dX11_areInColumns_48 : decode cX11_areInColumns 48 = .ok (.iload 4, 2) := by decide +kernel
theorem dX11_areInColumns_50 : decode cX11_areInColumns 50 = .ok (.iload 6, 2) := by decide +kernel
theorem dX11_areInColumns_52 : decode cX11_areInColumns 52 = .ok (.if_icmp .ge 7, 3) := by decide +kernel
theorem dX11_areInColumns_55 : decode cX11_areInColumns 55 = .ok (.iconst 1, 1) := by decide +kernel
theorem dX11_areInColumns_56 : decode cX11_areInColumns 56 = .ok (.goto 4, 3) := by decide +kernel
theorem dX11_areInColumns_59 : decode cX11_areInColumns 59 = .ok (.iconst 0, 1) := by decide +kernel
theorem dX11_areInColumns_60 : decode cX11_areInColumns 60 = .ok (.ireturn, 1) := by decide +kernel
theorem dX11_isValue_0 : decode cX11_isValue 0 = .ok (.iload_n 0, 1) := by decide +kernel
theorem dX11_isValue_1 : decode cX11_isValue 1 = .ok (.ifCond .lt 13, 3) := by decide +kernel
theorem dX11_isValue_4 : decode cX11_isValue 4 = .ok (.iload_n 0, 1) := by decide +kernel
theorem dX11_isValue_5 : decode cX11_isValue 5 = .ok (.bipush 8, 2) := by decide +kernel
theorem dX11_isValue_7 : decode cX11_isValue 7 = .ok (.if_icmp .ge 7, 3) := by decide +kernel
theorem dX11_isValue_10 : decode cX11_isValue 10 = .ok (.iconst 1, 1) := by decide +kernel
theorem dX11_isValue_11 : decode cX11_isValue 11 = .ok (.goto 4, 3) := by decide +kernel
theorem dX11_isValue_14 : decode cX11_isValue 14 = .ok (.iconst 0, 1) := by decide +kernel
theorem dX11_isValue_15 : decode cX11_isValue 15 = .ok (.ireturn, 1) := by decide +kernel
theorem dX11_isOrder_0 : decode cX11_isOrder 0 = .ok (.iload_n 0, 1) := by decide +kernel
theorem dX11_isOrder_1 : decode cX11_isOrder 1 = .ok (.ifCond .lt 10, 3) := by decide +kernel
theorem dX11_isOrder_4 : decode cX11_isOrder 4 = .ok (.iload_n 0, 1) := by decide +kernel
theorem dX11_isOrder_5 : decode cX11_isOrder 5 = .ok (.sipush 9999, 3) := by decide +kernel
theorem dX11_isOrder_8 : decode cX11_isOrder 8 = .ok (.if_icmp .le 5, 3) := by decide +kernel
theorem dX11_isOrder_11 : decode cX11_isOrder 11 = .ok (.iconst 0, 1) := by decide +kernel
theorem dX11_isOrder_12 : decode cX11_isOrder 12 = .ok (.ireturn, 1) := by decide +kernel
theorem dX11_isOrder_13 : decode cX11_isOrder 13 = .ok (.iconst 0, 1) := by decide +kernel
theorem dX11_isOrder_14 : decode cX11_isOrder 14 = .ok (.istore_n 1, 1) := by decide +kernel
theorem dX11_isOrder_15 : decode cX11_isOrder 15 = .ok (.iconst 0, 1) := by decide +kernel
theorem dX11_isOrder_16 : decode cX11_isOrder 16 = .ok (.istore_n 2, 1) := by decide +kernel
theorem dX11_isOrder_17 : decode cX11_isOrder 17 = .ok (.iload_n 2, 1) := by decide +kernel
theorem dX11_isOrder_18 : decode cX11_isOrder 18 = .ok (.iconst 4, 1) := by decide +kernel
theorem dX11_isOrder_19 : decode cX11_isOrder 19 = .ok (.if_icmp .ge 19, 3) := by decide +kernel
theorem dX11_isOrder_22 : decode cX11_isOrder 22 = .ok (.iload_n 1, 1) := by decide +kernel
theorem dX11_isOrder_23 : decode cX11_isOrder 23 = .ok (.iconst 1, 1) := by decide +kernel
theorem dX11_isOrder_24 : decode cX11_isOrder 24 = .ok (.iload_n 0, 1) := by decide +kernel
theorem dX11_isOrder_25 : decode cX11_isOrder 25 = .ok (.iload_n 2, 1) := by decide +kernel
theorem dX11_isOrder_26 : decode cX11_isOrder 26 = .ok (.invokestatic 380, 3) := by decide +kernel
theorem dX11_isOrder_29 : decode cX11_isOrder 29 = .ok (.ishl, 1) := by decide +kernel
theorem dX11_isOrder_30 : decode cX11_isOrder 30 = .ok (.ior, 1) := by decide +kernel
theorem dX11_isOrder_31 : decode cX11_isOrder 31 = .ok (.istore_n 1, 1) := by decide +kernel
theorem dX11_isOrder_32 : decode cX11_isOrder 32 = .ok (.iinc 2 1, 3) := by decide +kernel
theorem dX11_isOrder_35 : decode cX11_isOrder 35 = .ok (.goto (-18), 3) := by decide +kernel
theorem dX11_isOrder_38 : decode cX11_isOrder 38 = .ok (.iload_n 1, 1) := by decide +kernel
theorem dX11_isOrder_39 : decode cX11_isOrder 39 = .ok (.bipush 15, 2) := by decide +kernel
theorem dX11_isOrder_41 : decode cX11_isOrder 41 = .ok (.if_icmp .ne 7, 3) := by decide +kernel
theorem dX11_isOrder_44 : decode cX11_isOrder 44 = .ok (.iconst 1, 1) := by decide +kernel
theorem dX11_isOrder_45 : decode cX11_isOrder 45 = .ok (.goto 4, 3) := by decide +kernel
theorem dX11_isOrder_48 : decode cX11_isOrder 48 = .ok (.iconst 0, 1) := by decide +kernel
theorem dX11_isOrder_49 : decode cX11_isOrder 49 = .ok (.ireturn, 1) := by decide +kernel
theorem dX11_digitOf_0 : decode cX11_digitOf 0 = .ok (.iload_n 1, 1) := by decide +kernel
theorem dX11_digitOf_1 : decode cX11_digitOf 1 = .ok (.tableswitch 52 0 2 #[27, 36, 44], 27) := by decide +kernel
theorem dX11_digitOf_28 : decode cX11_digitOf 28 = .ok (.iload_n 0, 1) := by decide +kernel
theorem dX11_digitOf_29 : decode cX11_digitOf 29 = .ok (.sipush 1000, 3) := by decide +kernel
theorem dX11_digitOf_32 : decode cX11_digitOf 32 = .ok (.idiv, 1) := by decide +kernel
theorem dX11_digitOf_33 : decode cX11_digitOf 33 = .ok (.bipush 10, 2) := by decide +kernel
theorem dX11_digitOf_35 : decode cX11_digitOf 35 = .ok (.irem, 1) := by decide +kernel
theorem dX11_digitOf_36 : decode cX11_digitOf 36 = .ok (.ireturn, 1) := by decide +kernel
theorem dX11_digitOf_37 : decode cX11_digitOf 37 = .ok (.iload_n 0, 1) := by decide +kernel
theorem dX11_digitOf_38 : decode cX11_digitOf 38 = .ok (.bipush 100, 2) := by decide +kernel
theorem dX11_digitOf_40 : decode cX11_digitOf 40 = .ok (.idiv, 1) := by decide +kernel
theorem dX11_digitOf_41 : decode cX11_digitOf 41 = .ok (.bipush 10, 2) := by decide +kernel
theorem dX11_digitOf_43 : decode cX11_digitOf 43 = .ok (.irem, 1) := by decide +kernel
theorem dX11_digitOf_44 : decode cX11_digitOf 44 = .ok (.ireturn, 1) := by decide +kernel
theorem dX11_digitOf_45 : decode cX11_digitOf 45 = .ok (.iload_n 0, 1) := by decide +kernel
theorem dX11_digitOf_46 : decode cX11_digitOf 46 = .ok (.bipush 10, 2) := by decide +kernel
theorem dX11_digitOf_48 : decode cX11_digitOf 48 = .ok (.idiv, 1) := by decide +kernel
theorem dX11_digitOf_49 : decode cX11_digitOf 49 = .ok (.bipush 10, 2) := by decide +kernel
theorem dX11_digitOf_51 : decode cX11_digitOf 51 = .ok (.irem, 1) := by decide +kernel
theorem dX11_digitOf_52 : decode cX11_digitOf 52 = .ok (.ireturn, 1) := by decide +kernel
theorem dX11_digitOf_53 : decode cX11_digitOf 53 = .ok (.iload_n 0, 1) := by decide +kernel
theorem dX11_digitOf_54 : decode cX11_digitOf 54 = .ok (.bipush 10, 2) := by decide +kernel
theorem dX11_digitOf_56 : decode cX11_digitOf 56 = .ok (.irem, 1) := by decide +kernel
theorem dX11_digitOf_57 : decode cX11_digitOf 57 = .ok (.ireturn, 1) := by decide +kernel
theorem dX11_rowOf_0 : decode cX11_rowOf 0 = .ok (.iload_n 0, 1) := by decide +kernel
theorem dX11_rowOf_1 : decode cX11_rowOf 1 = .ok (.bipush 6, 2) := by decide +kernel
theorem dX11_rowOf_3 : decode cX11_rowOf 3 = .ok (.ishl, 1) := by decide +kernel
theorem dX11_rowOf_4 : decode cX11_rowOf 4 = .ok (.iload_n 1, 1) := by decide +kernel
theorem dX11_rowOf_5 : decode cX11_rowOf 5 = .ok (.iconst 3, 1) := by decide +kernel
theorem dX11_rowOf_6 : decode cX11_rowOf 6 = .ok (.ishl, 1) := by decide +kernel
theorem dX11_rowOf_7 : decode cX11_rowOf 7 = .ok (.ior, 1) := by decide +kernel
theorem dX11_rowOf_8 : decode cX11_rowOf 8 = .ok (.iload_n 2, 1) := by decide +kernel
theorem dX11_rowOf_9 : decode cX11_rowOf 9 = .ok (.ior, 1) := by decide +kernel
theorem dX11_rowOf_10 : decode cX11_rowOf 10 = .ok (.ireturn, 1) := by decide +kernel
theorem dX11_valueIn_0 : decode cX11_valueIn 0 = .ok (.iload_n 1, 1) := by decide +kernel
theorem dX11_valueIn_1 : decode cX11_valueIn 1 = .ok (.lookupswitch 42 #[(0, 27), (1, 35)], 27) := by decide +kernel
theorem dX11_valueIn_28 : decode cX11_valueIn 28 = .ok (.iload_n 0, 1) := by decide +kernel
theorem dX11_valueIn_29 : decode cX11_valueIn 29 = .ok (.bipush 6, 2) := by decide +kernel
theorem dX11_valueIn_31 : decode cX11_valueIn 31 = .ok (.ishr, 1) := by decide +kernel
theorem dX11_valueIn_32 : decode cX11_valueIn 32 = .ok (.bipush 7, 2) := by decide +kernel
theorem dX11_valueIn_34 : decode cX11_valueIn 34 = .ok (.iand, 1) := by decide +kernel
theorem dX11_valueIn_35 : decode cX11_valueIn 35 = .ok (.ireturn, 1) := by decide +kernel
theorem dX11_valueIn_36 : decode cX11_valueIn 36 = .ok (.iload_n 0, 1) := by decide +kernel
theorem dX11_valueIn_37 : decode cX11_valueIn 37 = .ok (.iconst 3, 1) := by decide +kernel
theorem dX11_valueIn_38 : decode cX11_valueIn 38 = .ok (.ishr, 1) := by decide +kernel
theorem dX11_valueIn_39 : decode cX11_valueIn 39 = .ok (.bipush 7, 2) := by decide +kernel
theorem dX11_valueIn_41 : decode cX11_valueIn 41 = .ok (.iand, 1) := by decide +kernel
theorem dX11_valueIn_42 : decode cX11_valueIn 42 = .ok (.ireturn, 1) := by decide +kernel
theorem dX11_valueIn_43 : decode cX11_valueIn 43 = .ok (.iload_n 0, 1) := by decide +kernel
theorem dX11_valueIn_44 : decode cX11_valueIn 44 = .ok (.bipush 7, 2) := by decide +kernel
theorem dX11_valueIn_46 : decode cX11_valueIn 46 = .ok (.iand, 1) := by decide +kernel
theorem dX11_valueIn_47 : decode cX11_valueIn 47 = .ok (.ireturn, 1) := by decide +kernel
theorem dX11_withRow_0 : decode cX11_withRow 0 = .ok (.iload_n 0, 1) := by decide +kernel
theorem dX11_withRow_1 : decode cX11_withRow 1 = .ok (.istore_n 3, 1) := by decide +kernel
theorem dX11_withRow_2 : decode cX11_withRow 2 = .ok (.iconst 0, 1) := by decide +kernel
theorem dX11_withRow_3 : decode cX11_withRow 3 = .ok (.istore 4, 2) := by decide +kernel
theorem dX11_withRow_5 : decode cX11_withRow 5 = .ok (.iload 4, 2) := by decide +kernel
theorem dX11_withRow_7 : decode cX11_withRow 7 = .ok (.iload_n 2, 1) := by decide +kernel
theorem dX11_withRow_8 : decode cX11_withRow 8 = .ok (.if_icmp .ge 21, 3) := by decide +kernel
theorem dX11_withRow_11 : decode cX11_withRow 11 = .ok (.bipush 31, 2) := by decide +kernel
theorem dX11_withRow_13 : decode cX11_withRow 13 = .ok (.iload_n 3, 1) := by decide +kernel
theorem dX11_withRow_14 : decode cX11_withRow 14 = .ok (.imul, 1) := by decide +kernel
theorem dX11_withRow_15 : decode cX11_withRow 15 = .ok (.iload_n 1, 1) := by decide +kernel
theorem dX11_withRow_16 : decode cX11_withRow 16 = .ok (.iload 4, 2) := by decide +kernel
theorem dX11_withRow_18 : decode cX11_withRow 18 = .ok (.invokestatic 247, 3) := by decide +kernel
theorem dX11_withRow_21 : decode cX11_withRow 21 = .ok (.iadd, 1) := by decide +kernel
theorem dX11_withRow_22 : decode cX11_withRow 22 = .ok (.istore_n 3, 1) := by decide +kernel
theorem dX11_withRow_23 : decode cX11_withRow 23 = .ok (.iinc 4 1, 3) := by decide +kernel
theorem dX11_withRow_26 : decode cX11_withRow 26 = .ok (.goto (-21), 3) := by decide +kernel
theorem dX11_withRow_29 : decode cX11_withRow 29 = .ok (.iload_n 3, 1) := by decide +kernel
theorem dX11_withRow_30 : decode cX11_withRow 30 = .ok (.ireturn, 1) := by decide +kernel
theorem dX11_keepForUndo_0 : decode cX11_keepForUndo 0 = .ok (.aload_n 0, 1) := by decide +kernel
theorem dX11_keepForUndo_1 : decode cX11_keepForUndo 1 = .ok (.getfield 19, 3) := by decide +kernel
theorem dX11_keepForUndo_4 : decode cX11_keepForUndo 4 = .ok (.aload_n 0, 1) := by decide +kernel
theorem dX11_keepForUndo_5 : decode cX11_keepForUndo 5 = .ok (.getfield 10, 3) := by decide +kernel
theorem dX11_keepForUndo_8 : decode cX11_keepForUndo 8 = .ok (.invokevirtual 383, 3) := by decide +kernel
theorem dX11_keepForUndo_11 : decode cX11_keepForUndo 11 = .ok (.aload_n 0, 1) := by decide +kernel
theorem dX11_keepForUndo_12 : decode cX11_keepForUndo 12 = .ok (.iconst (-1), 1) := by decide +kernel
theorem dX11_keepForUndo_13 : decode cX11_keepForUndo 13 = .ok (.putfield 58, 3) := by decide +kernel
theorem dX11_keepForUndo_16 : decode cX11_keepForUndo 16 = .ok (.return_, 1) := by decide +kernel
theorem dX11_look_0 : decode cX11_look 0 = .ok (.aload_n 0, 1) := by decide +kernel
theorem dX11_look_1 : decode cX11_look 1 = .ok (.getfield 58, 3) := by decide +kernel
theorem dX11_look_4 : decode cX11_look 4 = .ok (.iload_n 1, 1) := by decide +kernel
theorem dX11_look_5 : decode cX11_look 5 = .ok (.if_icmp .eq 41, 3) := by decide +kernel
theorem dX11_look_8 : decode cX11_look 8 = .ok (.aload_n 0, 1) := by decide +kernel
theorem dX11_look_9 : decode cX11_look 9 = .ok (.getfield 33, 3) := by decide +kernel
theorem dX11_look_12 : decode cX11_look 12 = .ok (.aload_n 0, 1) := by decide +kernel
theorem dX11_look_13 : decode cX11_look 13 = .ok (.getfield 10, 3) := by decide +kernel
theorem dX11_look_16 : decode cX11_look 16 = .ok (.iload_n 1, 1) := by decide +kernel
theorem dX11_look_17 : decode cX11_look 17 = .ok (.invokevirtual 94, 3) := by decide +kernel
theorem dX11_look_20 : decode cX11_look 20 = .ok (.aload_n 0, 1) := by decide +kernel
theorem dX11_look_21 : decode cX11_look 21 = .ok (.getfield 10, 3) := by decide +kernel
theorem dX11_look_24 : decode cX11_look 24 = .ok (.getfield 173, 3) := by decide +kernel
theorem dX11_look_27 : decode cX11_look 27 = .ok (.iload_n 1, 1) := by decide +kernel
theorem dX11_look_28 : decode cX11_look 28 = .ok (.invokevirtual 159, 3) := by decide +kernel
theorem dX11_look_31 : decode cX11_look 31 = .ok (.aload_n 0, 1) := by decide +kernel
theorem dX11_look_32 : decode cX11_look 32 = .ok (.getfield 26, 3) := by decide +kernel
theorem dX11_look_35 : decode cX11_look 35 = .ok (.getfield 228, 3) := by decide +kernel
theorem dX11_look_38 : decode cX11_look 38 = .ok (.invokevirtual 386, 3) := by decide +kernel
theorem dX11_look_41 : decode cX11_look 41 = .ok (.aload_n 0, 1) := by decide +kernel
theorem dX11_look_42 : decode cX11_look 42 = .ok (.iload_n 1, 1) := by decide +kernel
theorem dX11_look_43 : decode cX11_look 43 = .ok (.putfield 58, 3) := by decide +kernel
theorem dX11_look_46 : decode cX11_look 46 = .ok (.return_, 1) := by decide +kernel
theorem dX11_markMade_0 : decode cX11_markMade 0 = .ok (.aload_n 0, 1) := by decide +kernel
theorem dX11_markMade_1 : decode cX11_markMade 1 = .ok (.getfield 54, 3) := by decide +kernel
theorem dX11_markMade_4 : decode cX11_markMade 4 = .ok (.invokevirtual 390, 3) := by decide +kernel
theorem dX11_markMade_7 : decode cX11_markMade 7 = .ok (.iconst (-1), 1) := by decide +kernel
theorem dX11_markMade_8 : decode cX11_markMade 8 = .ok (.istore_n 2, 1) := by decide +kernel
theorem dX11_markMade_9 : decode cX11_markMade 9 = .ok (.iconst 0, 1) := by decide +kernel
theorem dX11_markMade_10 : decode cX11_markMade 10 = .ok (.istore_n 3, 1) := by decide +kernel
theorem dX11_markMade_11 : decode cX11_markMade 11 = .ok (.iload_n 3, 1) := by decide +kernel
theorem dX11_markMade_12 : decode cX11_markMade 12 = .ok (.aload_n 0, 1) := by decide +kernel
theorem dX11_markMade_13 : decode cX11_markMade 13 = .ok (.getfield 33, 3) := by decide +kernel
theorem dX11_markMade_16 : decode cX11_markMade 16 = .ok (.getfield 268, 3) := by decide +kernel
theorem dX11_markMade_19 : decode cX11_markMade 19 = .ok (.if_icmp .ge 40, 3) := by decide +kernel
theorem dX11_markMade_22 : decode cX11_markMade 22 = .ok (.aload_n 0, 1) := by decide +kernel
theorem dX11_markMade_23 : decode cX11_markMade 23 = .ok (.getfield 33, 3) := by decide +kernel
theorem dX11_markMade_26 : decode cX11_markMade 26 = .ok (.iload_n 2, 1) := by decide +kernel
theorem dX11_markMade_27 : decode cX11_markMade 27 = .ok (.invokevirtual 279, 3) := by decide +kernel
theorem dX11_markMade_30 : decode cX11_markMade 30 = .ok (.istore_n 2, 1) := by decide +kernel
theorem dX11_markMade_31 : decode cX11_markMade 31 = .ok (.aload_n 0, 1) := by decide +kernel
theorem dX11_markMade_32 : decode cX11_markMade 32 = .ok (.getfield 54, 3) := by decide +kernel
theorem dX11_markMade_35 : decode cX11_markMade 35 = .ok (.iload_n 1, 1) := by decide +kernel
theorem dX11_markMade_36 : decode cX11_markMade 36 = .ok (.invokestatic 193, 3) := by decide +kernel
theorem dX11_markMade_39 : decode cX11_markMade 39 = .ok (.iload_n 1, 1) := by decide +kernel
theorem dX11_markMade_40 : decode cX11_markMade 40 = .ok (.aload_n 0, 1) := by decide +kernel
theorem dX11_markMade_41 : decode cX11_markMade 41 = .ok (.getfield 33, 3) := by decide +kernel
theorem dX11_markMade_44 : decode cX11_markMade 44 = .ok (.getfield 282, 3) := by decide +kernel
theorem dX11_markMade_47 : decode cX11_markMade 47 = .ok (.invokestatic 391, 3) := by decide +kernel
theorem dX11_markMade_50 : decode cX11_markMade 50 = .ok (.invokevirtual 73, 3) := by decide +kernel
theorem dX11_markMade_53 : decode cX11_markMade 53 = .ok (.iinc 3 1, 3) := by decide +kernel
theorem dX11_markMade_56 : decode cX11_markMade 56 = .ok (.goto (-45), 3) := by decide +kernel
theorem dX11_markMade_59 : decode cX11_markMade 59 = .ok (.return_, 1) := by decide +kernel
theorem dX11_countPlainly_0 : decode cX11_countPlainly 0 = .ok (.aload_n 1, 1) := by decide +kernel
theorem dX11_countPlainly_1 : decode cX11_countPlainly 1 = .ok (.getfield 151, 3) := by decide +kernel
theorem dX11_countPlainly_4 : decode cX11_countPlainly 4 = .ok (.ifCond .ne 5, 3) := by decide +kernel
theorem dX11_countPlainly_7 : decode cX11_countPlainly 7 = .ok (.iconst 0, 1) := by decide +kernel
theorem dX11_countPlainly_8 : decode cX11_countPlainly 8 = .ok (.ireturn, 1) := by decide +kernel
theorem dX11_countPlainly_9 : decode cX11_countPlainly 9 = .ok (.aload_n 1, 1) := by decide +kernel
theorem dX11_countPlainly_10 : decode cX11_countPlainly 10 = .ok (.iconst 0, 1) := by decide +kernel
theorem dX11_countPlainly_11 : decode cX11_countPlainly 11 = .ok (.invokevirtual 364, 3) := by decide +kernel
theorem dX11_countPlainly_14 : decode cX11_countPlainly 14 = .ok (.istore_n 2, 1) := by decide +kernel
theorem dX11_countPlainly_15 : decode cX11_countPlainly 15 = .ok (.iconst 1, 1) := by decide +kernel
theorem dX11_countPlainly_16 : decode cX11_countPlainly 16 = .ok (.iconst 3, 1) := by decide +kernel
theorem dX11_countPlainly_17 : decode cX11_countPlainly 17 = .ok (.iload_n 2, 1) := by decide +kernel
theorem dX11_countPlainly_18 : decode cX11_countPlainly 18 = .ok (.invokestatic 255, 3) := by decide +kernel
theorem dX11_countPlainly_21 : decode cX11_countPlainly 21 = .ok (.imul, 1) := by decide +kernel
theorem dX11_countPlainly_22 : decode cX11_countPlainly 22 = .ok (.ishl, 1) := by decide +kernel
theorem dX11_countPlainly_23 : decode cX11_countPlainly 23 = .ok (.istore_n 3, 1) := by decide +kernel
theorem dX11_countPlainly_24 : decode cX11_countPlainly 24 = .ok (.iconst 0, 1) := by decide +kernel
theorem dX11_countPlainly_25 : decode cX11_countPlainly 25 = .ok (.istore 4, 2) := by decide +kernel
theorem dX11_countPlainly_27 : decode cX11_countPlainly 27 = .ok (.iconst 0, 1) := by decide +kernel
theorem dX11_countPlainly_28 : decode cX11_countPlainly 28 = .ok (.istore 5, 2) := by decide +kernel
theorem dX11_countPlainly_30 : decode cX11_countPlainly 30 = .ok (.iload 5, 2) := by decide +kernel
theorem dX11_countPlainly_32 : decode cX11_countPlainly 32 = .ok (.iload_n 3, 1) := by decide +kernel
theorem dX11_countPlainly_33 : decode cX11_countPlainly 33 = .ok (.if_icmp .ge 33, 3) := by decide +kernel
theorem dX11_countPlainly_36 : decode cX11_countPlainly 36 = .ok (.iload 4, 2) := by decide +kernel
theorem dX11_countPlainly_38 : decode cX11_countPlainly 38 = .ok (.aload_n 0, 1) := by decide +kernel
theorem dX11_countPlainly_39 : decode cX11_countPlainly 39 = .ok (.aload_n 1, 1) := by decide +kernel
theorem dX11_countPlainly_40 : decode cX11_countPlainly 40 = .ok (.iload 5, 2) := by decide +kernel
theorem dX11_countPlainly_42 : decode cX11_countPlainly 42 = .ok (.iload_n 2, 1) := by decide +kernel
theorem dX11_countPlainly_43 : decode cX11_countPlainly 43 = .ok (.invokestatic 394, 3) := by decide +kernel
theorem dX11_countPlainly_46 : decode cX11_countPlainly 46 = .ok (.invokevirtual 397, 3) := by decide +kernel
theorem dX11_countPlainly_49 : decode cX11_countPlainly 49 = .ok (.ifCond .eq 7, 3) := by decide +kernel
theorem dX11_countPlainly_52 : decode cX11_countPlainly 52 = .ok (.iconst 1, 1) := by decide +kernel
theorem dX11_countPlainly_53 : decode cX11_countPlainly 53 = .ok (.goto 4, 3) := by decide +kernel
theorem dX11_countPlainly_56 : decode cX11_countPlainly 56 = .ok (.iconst 0, 1) := by decide +kernel
theorem dX11_countPlainly_57 : decode cX11_countPlainly 57 = .ok (.iadd, 1) := by decide +kernel
theorem dX11_countPlainly_58 : decode cX11_countPlainly 58 = .ok (.istore 4, 2) := by decide +kernel
theorem dX11_countPlainly_60 : decode cX11_countPlainly 60 = .ok (.iinc 5 1, 3) := by decide +kernel
theorem dX11_countPlainly_63 : decode cX11_countPlainly 63 = .ok (.goto (-33), 3) := by decide +kernel
theorem dX11_countPlainly_66 : decode cX11_countPlainly 66 = .ok (.iload 4, 2) := by decide +kernel
theorem dX11_countPlainly_68 : decode cX11_countPlainly 68 = .ok (.ireturn, 1) := by decide +kernel
theorem dX11_allFit_0 : decode cX11_allFit 0 = .ok (.iconst 0, 1) := by decide +kernel
theorem dX11_allFit_1 : decode cX11_allFit 1 = .ok (.istore_n 3, 1) := by decide +kernel
theorem dX11_allFit_2 : decode cX11_allFit 2 = .ok (.iload_n 3, 1) := by decide +kernel
theorem dX11_allFit_3 : decode cX11_allFit 3 = .ok (.aload_n 1, 1) := by decide +kernel
theorem dX11_allFit_4 : decode cX11_allFit 4 = .ok (.getfield 151, 3) := by decide +kernel
theorem dX11_allFit_7 : decode cX11_allFit 7 = .ok (.if_icmp .ge 42, 3) := by decide +kernel
theorem dX11_allFit_10 : decode cX11_allFit 10 = .ok (.aload_n 1, 1) := by decide +kernel
theorem dX11_allFit_11 : decode cX11_allFit 11 = .ok (.iload_n 3, 1) := by decide +kernel
theorem dX11_allFit_12 : decode cX11_allFit 12 = .ok (.invokevirtual 189, 3) := by decide +kernel
theorem dX11_allFit_15 : decode cX11_allFit 15 = .ok (.istore 4, 2) := by decide +kernel
theorem dX11_allFit_17 : decode cX11_allFit 17 = .ok (.aload_n 0, 1) := by decide +kernel
theorem dX11_allFit_18 : decode cX11_allFit 18 = .ok (.getfield 26, 3) := by decide +kernel
theorem dX11_allFit_21 : decode cX11_allFit 21 = .ok (.getfield 228, 3) := by decide +kernel
theorem dX11_allFit_24 : decode cX11_allFit 24 = .ok (.iload 4, 2) := by decide +kernel
theorem dX11_allFit_26 : decode cX11_allFit 26 = .ok (.invokestatic 193, 3) := by decide +kernel
theorem dX11_allFit_29 : decode cX11_allFit 29 = .ok (.iload 4, 2) := by decide +kernel
theorem dX11_allFit_31 : decode cX11_allFit 31 = .ok (.iload_n 2, 1) := by decide +kernel
theorem dX11_allFit_32 : decode cX11_allFit 32 = .ok (.invokestatic 391, 3) := by decide +kernel
theorem dX11_allFit_35 : decode cX11_allFit 35 = .ok (.invokevirtual 125, 3) := by decide +kernel
theorem dX11_allFit_38 : decode cX11_allFit 38 = .ok (.ifCond .ne 5, 3) := by decide +kernel
theorem dX11_allFit_41 : decode cX11_allFit 41 = .ok (.iconst 0, 1) := by decide +kernel
theorem dX11_allFit_42 : decode cX11_allFit 42 = .ok (.ireturn, 1) := by decide +kernel
theorem dX11_allFit_43 : decode cX11_allFit 43 = .ok (.iinc 3 1, 3) := by decide +kernel
theorem dX11_allFit_46 : decode cX11_allFit 46 = .ok (.goto (-44), 3) := by decide +kernel
theorem dX11_allFit_49 : decode cX11_allFit 49 = .ok (.iconst 1, 1) := by decide +kernel
theorem dX11_allFit_50 : decode cX11_allFit 50 = .ok (.ireturn, 1) := by decide +kernel
theorem dX11_rowsWithoutReason_0 : decode cX11_rowsWithoutReason 0 = .ok (.iconst 0, 1) := by decide +kernel
theorem dX11_rowsWithoutReason_1 : decode cX11_rowsWithoutReason 1 = .ok (.istore_n 2, 1) := by decide +kernel
theorem dX11_rowsWithoutReason_2 : decode cX11_rowsWithoutReason 2 = .ok (.iconst 0, 1) := by decide +kernel
theorem dX11_rowsWithoutReason_3 : decode cX11_rowsWithoutReason 3 = .ok (.istore_n 3, 1) := by decide +kernel
theorem dX11_rowsWithoutReason_4 : decode cX11_rowsWithoutReason 4 = .ok (.iload_n 3, 1) := by decide +kernel
theorem dX11_rowsWithoutReason_5 : decode cX11_rowsWithoutReason 5 = .ok (.sipush 512, 3) := by decide +kernel
theorem dX11_rowsWithoutReason_8 : decode cX11_rowsWithoutReason 8 = .ok (.if_icmp .ge 43, 3) := by decide +kernel
theorem dX11_rowsWithoutReason_11 : decode cX11_rowsWithoutReason 11 = .ok (.aload_n 0, 1) := by decide +kernel
theorem dX11_rowsWithoutReason_12 : decode cX11_rowsWithoutReason 12 = .ok (.getfield 26, 3) := by decide +kernel
theorem dX11_rowsWithoutReason_15 : decode cX11_rowsWithoutReason 15 = .ok (.getfield 228, 3) := by decide +kernel
theorem dX11_rowsWithoutReason_18 : decode cX11_rowsWithoutReason 18 = .ok (.iload_n 1, 1) := by decide +kernel
theorem dX11_rowsWithoutReason_19 : decode cX11_rowsWithoutReason 19 = .ok (.iload_n 3, 1) := by decide +kernel
theorem dX11_rowsWithoutReason_20 : decode cX11_rowsWithoutReason 20 = .ok (.invokevirtual 125, 3) := by decide +kernel
theorem dX11_rowsWithoutReason_23 : decode cX11_rowsWithoutReason 23 = .ok (.ifCond .eq 22, 3) := by decide +kernel
theorem dX11_rowsWithoutReason_26 : decode cX11_rowsWithoutReason 26 = .ok (.aload_n 0, 1) := by decide +kernel
theorem dX11_rowsWithoutReason_27 : decode cX11_rowsWithoutReason 27 = .ok (.getfield 26, 3) := by decide +kernel
theorem dX11_rowsWithoutReason_30 : decode cX11_rowsWithoutReason 30 = .ok (.aload_n 0, 1) := by decide +kernel
theorem dX11_rowsWithoutReason_31 : decode cX11_rowsWithoutReason 31 = .ok (.getfield 10, 3) := by decide +kernel
theorem dX11_rowsWithoutReason_34 : decode cX11_rowsWithoutReason 34 = .ok (.iload_n 1, 1) := by decide +kernel
theorem dX11_rowsWithoutReason_35 : decode cX11_rowsWithoutReason 35 = .ok (.iload_n 3, 1) := by decide +kernel
theorem dX11_rowsWithoutReason_36 : decode cX11_rowsWithoutReason 36 = .ok (.invokevirtual 231, 3) := by decide +kernel
theorem dX11_rowsWithoutReason_39 : decode cX11_rowsWithoutReason 39 = .ok (.ifCond .ne 6, 3) := by decide +kernel
theorem dX11_rowsWithoutReason_42 : decode cX11_rowsWithoutReason 42 = .ok (.iinc 2 1, 3) := by decide +kernel
theorem dX11_rowsWithoutReason_45 : decode cX11_rowsWithoutReason 45 = .ok (.iinc 3 1, 3) := by decide +kernel
theorem dX11_rowsWithoutReason_48 : decode cX11_rowsWithoutReason 48 = .ok (.goto (-44), 3) := by decide +kernel
theorem dX11_rowsWithoutReason_51 : decode cX11_rowsWithoutReason 51 = .ok (.iload_n 2, 1) := by decide +kernel
theorem dX11_rowsWithoutReason_52 : decode cX11_rowsWithoutReason 52 = .ok (.ireturn, 1) := by decide +kernel
theorem dX12_init_0 : decode cX12_init 0 = .ok (.aload_n 0, 1) := by decide +kernel
theorem dX12_init_1 : decode cX12_init 1 = .ok (.invokespecial 1, 3) := by decide +kernel
theorem dX12_init_4 : decode cX12_init 4 = .ok (.aload_n 0, 1) := by decide +kernel
theorem dX12_init_5 : decode cX12_init 5 = .ok (.ldc2_w 7, 3) := by decide +kernel
theorem dX12_init_8 : decode cX12_init 8 = .ok (.putfield 9, 3) := by decide +kernel
theorem dX12_init_11 : decode cX12_init 11 = .ok (.aload_n 1, 1) := by decide +kernel
theorem dX12_init_12 : decode cX12_init 12 = .ok (.astore_n 2, 1) := by decide +kernel
theorem dX12_init_13 : decode cX12_init 13 = .ok (.aload_n 2, 1) := by decide +kernel
theorem dX12_init_14 : decode cX12_init 14 = .ok (.arraylength, 1) := by decide +kernel
theorem dX12_init_15 : decode cX12_init 15 = .ok (.istore_n 3, 1) := by decide +kernel
theorem dX12_init_16 : decode cX12_init 16 = .ok (.iconst 0, 1) := by decide +kernel
theorem dX12_init_17 : decode cX12_init 17 = .ok (.istore 4, 2) := by decide +kernel
theorem dX12_init_19 : decode cX12_init 19 = .ok (.iload 4, 2) := by decide +kernel
theorem dX12_init_21 : decode cX12_init 21 = .ok (.iload_n 3, 1) := by decide +kernel
theorem dX12_init_22 : decode cX12_init 22 = .ok (.if_icmp .ge 33, 3) := by decide +kernel
theorem dX12_init_25 : decode cX12_init 25 = .ok (.aload_n 2, 1) := by decide +kernel
theorem dX12_init_26 : decode cX12_init 26 = .ok (.iload 4, 2) := by decide +kernel
theorem dX12_init_28 : decode cX12_init 28 = .ok (.iaload, 1) := by decide +kernel
theorem dX12_init_29 : decode cX12_init 29 = .ok (.istore 5, 2) := by decide +kernel
theorem dX12_init_31 : decode cX12_init 31 = .ok (.aload_n 0, 1) := by decide +kernel
theorem dX12_init_32 : decode cX12_init 32 = .ok (.aload_n 0, 1) := by decide +kernel
theorem dX12_init_33 : decode cX12_init 33 = .ok (.getfield 9, 3) := by decide +kernel
theorem dX12_init_36 : decode cX12_init 36 = .ok (.iload 5, 2) := by decide +kernel
theorem dX12_init_38 : decode cX12_init 38 = .ok (.i2l, 1) := by decide +kernel
theorem dX12_init_39 : decode cX12_init 39 = .ok (.lxor, 1) := by decide +kernel
theorem dX12_init_40 : decode cX12_init 40 = .ok (.ldc2_w 15, 3) := by decide +kernel
theorem dX12_init_43 : decode cX12_init 43 = .ok (.lmul, 1) := by decide +kernel
theorem dX12_init_44 : decode cX12_init 44 = .ok (.lconst 1, 1) := by decide +kernel
theorem dX12_init_45 : decode cX12_init 45 = .ok (.ladd, 1) := by decide +kernel
theorem dX12_init_46 : decode cX12_init 46 = .ok (.putfield 9, 3) := by decide +kernel
theorem dX12_init_49 : decode cX12_init 49 = .ok (.iinc 4 1, 3) := by decide +kernel
theorem dX12_init_52 : decode cX12_init 52 = .ok (.goto (-33), 3) := by decide +kernel
theorem dX12_init_55 : decode cX12_init 55 = .ok (.return_, 1) := by decide +kernel
theorem dX12_next_0 : decode cX12_next 0 = .ok (.aload_n 0, 1) := by decide +kernel
theorem dX12_next_1 : decode cX12_next 1 = .ok (.aload_n 0, 1) := by decide +kernel
theorem dX12_next_2 : decode cX12_next 2 = .ok (.getfield 9, 3) := by decide +kernel
theorem dX12_next_5 : decode cX12_next 5 = .ok (.ldc2_w 17, 3) := by decide +kernel
theorem dX12_next_8 : decode cX12_next 8 = .ok (.lmul, 1) := by decide +kernel
theorem dX12_next_9 : decode cX12_next 9 = .ok (.ldc2_w 19, 3) := by decide +kernel
theorem dX12_next_12 : decode cX12_next 12 = .ok (.ladd, 1) := by decide +kernel
theorem dX12_next_13 : decode cX12_next 13 = .ok (.putfield 9, 3) := by decide +kernel
theorem dX12_next_16 : decode cX12_next 16 = .ok (.aload_n 0, 1) := by decide +kernel
theorem dX12_next_17 : decode cX12_next 17 = .ok (.getfield 9, 3) := by decide +kernel
theorem dX12_next_20 : decode cX12_next 20 = .ok (.bipush 33, 2) := by decide +kernel
theorem dX12_next_22 : decode cX12_next 22 = .ok (.lushr, 1) := by decide +kernel
theorem dX12_next_23 : decode cX12_next 23 = .ok (.iload_n 1, 1) := by decide +kernel
theorem dX12_next_24 : decode cX12_next 24 = .ok (.i2l, 1) := by decide +kernel
theorem dX12_next_25 : decode cX12_next 25 = .ok (.lrem, 1) := by decide +kernel
theorem dX12_next_26 : decode cX12_next 26 = .ok (.l2i, 1) := by decide +kernel
theorem dX12_next_27 : decode cX12_next 27 = .ok (.ireturn, 1) := by decide +kernel
theorem dX13_init_0 : decode cX13_init 0 = .ok (.aload_n 0, 1) := by decide +kernel
theorem dX13_init_1 : decode cX13_init 1 = .ok (.invokespecial 3, 3) := by decide +kernel
theorem dX13_init_4 : decode cX13_init 4 = .ok (.aload_n 0, 1) := by decide +kernel
theorem dX13_init_5 : decode cX13_init 5 = .ok (.iconst 5, 1) := by decide +kernel
theorem dX13_init_6 : decode cX13_init 6 = .ok (.newarray .int, 2) := by decide +kernel
theorem dX13_init_8 : decode cX13_init 8 = .ok (.dup, 1) := by decide +kernel
theorem dX13_init_9 : decode cX13_init 9 = .ok (.iconst 0, 1) := by decide +kernel
theorem dX13_init_10 : decode cX13_init 10 = .ok (.iconst 2, 1) := by decide +kernel
theorem dX13_init_11 : decode cX13_init 11 = .ok (.iastore, 1) := by decide +kernel
theorem dX13_init_12 : decode cX13_init 12 = .ok (.dup, 1) := by decide +kernel
theorem dX13_init_13 : decode cX13_init 13 = .ok (.iconst 1, 1) := by decide +kernel
theorem dX13_init_14 : decode cX13_init 14 = .ok (.iconst 2, 1) := by decide +kernel
theorem dX13_init_15 : decode cX13_init 15 = .ok (.iastore, 1) := by decide +kernel
theorem dX13_init_16 : decode cX13_init 16 = .ok (.dup, 1) := by decide +kernel
theorem dX13_init_17 : decode cX13_init 17 = .ok (.iconst 2, 1) := by decide +kernel
theorem dX13_init_18 : decode cX13_init 18 = .ok (.iconst 1, 1) := by decide +kernel
theorem dX13_init_19 : decode cX13_init 19 = .ok (.iastore, 1) := by decide +kernel
theorem dX13_init_20 : decode cX13_init 20 = .ok (.dup, 1) := by decide +kernel
theorem dX13_init_21 : decode cX13_init 21 = .ok (.iconst 3, 1) := by decide +kernel
theorem dX13_init_22 : decode cX13_init 22 = .ok (.iconst 0, 1) := by decide +kernel
theorem dX13_init_23 : decode cX13_init 23 = .ok (.iastore, 1) := by decide +kernel
theorem dX13_init_24 : decode cX13_init 24 = .ok (.dup, 1) := by decide +kernel
theorem dX13_init_25 : decode cX13_init 25 = .ok (.iconst 4, 1) := by decide +kernel
theorem dX13_init_26 : decode cX13_init 26 = .ok (.iconst 0, 1) := by decide +kernel
theorem dX13_init_27 : decode cX13_init 27 = .ok (.iastore, 1) := by decide +kernel
theorem dX13_init_28 : decode cX13_init 28 = .ok (.putfield 9, 3) := by decide +kernel
theorem dX13_init_31 : decode cX13_init 31 = .ok (.aload_n 0, 1) := by decide +kernel
theorem dX13_init_32 : decode cX13_init 32 = .ok (.iconst 3, 1) := by decide +kernel
theorem dX13_init_33 : decode cX13_init 33 = .ok (.putfield 15, 3) := by decide +kernel
theorem dX13_init_36 : decode cX13_init 36 = .ok (.aload_n 0, 1) := by decide +kernel
theorem dX13_init_37 : decode cX13_init 37 = .ok (.iconst 5, 1) := by decide +kernel
theorem dX13_init_38 : decode cX13_init 38 = .ok (.sipush 512, 3) := by decide +kernel
theorem dX13_init_41 : decode cX13_init 41 = .ok (.multianewarray 19 2, 4) := by decide +kernel
theorem dX13_init_45 : decode cX13_init 45 = .ok (.putfield 21, 3) := by decide +kernel
theorem dX13_init_48 : decode cX13_init 48 = .ok (.aload_n 0, 1) := by decide +kernel
theorem dX13_init_49 : decode cX13_init 49 = .ok (.iconst 5, 1) := by decide +kernel
theorem dX13_init_50 : decode cX13_init 50 = .ok (.bipush 25, 2) := by decide +kernel
theorem dX13_init_52 : decode cX13_init 52 = .ok (.multianewarray 24 2, 4) := by decide +kernel
theorem dX13_init_56 : decode cX13_init 56 = .ok (.putfield 26, 3) := by decide +kernel
theorem dX13_init_59 : decode cX13_init 59 = .ok (.aload_n 0, 1) := by decide +kernel
theorem dX13_init_60 : decode cX13_init 60 = .ok (.iconst 5, 1) := by decide +kernel
theorem dX13_init_61 : decode cX13_init 61 = .ok (.sipush 512, 3) := by decide +kernel
theorem dX13_init_64 : decode cX13_init 64 = .ok (.multianewarray 19 2, 4) := by decide +kernel
theorem dX13_init_68 : decode cX13_init 68 = .ok (.putfield 29, 3) := by decide +kernel
theorem dX13_init_71 : decode cX13_init 71 = .ok (.aload_n 0, 1) := by decide +kernel
theorem dX13_init_72 : decode cX13_init 72 = .ok (.iconst 5, 1) := by decide +kernel
theorem dX13_init_73 : decode cX13_init 73 = .ok (.newarray .int, 2) := by decide +kernel
theorem dX13_init_75 : decode cX13_init 75 = .ok (.putfield 32, 3) := by decide +kernel
theorem dX13_init_78 : decode cX13_init 78 = .ok (.aload_n 0, 1) := by decide +kernel
theorem dX13_init_79 : decode cX13_init 79 = .ok (.iconst 4, 1) := by decide +kernel
theorem dX13_init_80 : decode cX13_init 80 = .ok (.newarray .int, 2) := by decide +kernel
theorem dX13_init_82 : decode cX13_init 82 = .ok (.putfield 35, 3) := by decide +kernel
theorem dX13_init_85 : decode cX13_init 85 = .ok (.return_, 1) := by decide +kernel
theorem dX13_codeBy_0 : decode cX13_codeBy 0 = .ok (.iconst 0, 1) := by decide +kernel
theorem dX13_codeBy_1 : decode cX13_codeBy 1 = .ok (.istore_n 3, 1) := by decide +kernel
theorem dX13_codeBy_2 : decode cX13_codeBy 2 = .ok (.iconst 0, 1) := by decide +kernel
theorem dX13_codeBy_3 : decode cX13_codeBy 3 = .ok (.istore 4, 2) := by decide +kernel
theorem dX13_codeBy_5 : decode cX13_codeBy 5 = .ok (.iload 4, 2) := by decide +kernel
theorem dX13_codeBy_7 : decode cX13_codeBy 7 = .ok (.aload_n 0, 1) := by decide +kernel
theorem dX13_codeBy_8 : decode cX13_codeBy 8 = .ok (.getfield 9, 3) := by decide +kernel
theorem dX13_codeBy_11 : decode cX13_codeBy 11 = .ok (.aload_n 1, 1) := by decide +kernel
theorem dX13_codeBy_12 : decode cX13_codeBy 12 = .ok (.iload_n 2, 1) := by decide +kernel
theorem dX13_codeBy_13 : decode cX13_codeBy 13 = .ok (.iaload, 1) := by decide +kernel
theorem dX13_codeBy_14 : decode cX13_codeBy 14 = .ok (.iaload, 1) := by decide +kernel
theorem dX13_codeBy_15 : decode cX13_codeBy 15 = .ok (.if_icmp .ge 33, 3) := by decide +kernel
theorem dX13_codeBy_18 : decode cX13_codeBy 18 = .ok (.iload_n 3, 1) := by decide +kernel
theorem dX13_codeBy_19 : decode cX13_codeBy 19 = .ok (.aload_n 0, 1) := by decide +kernel
theorem dX13_codeBy_20 : decode cX13_codeBy 20 = .ok (.getfield 35, 3) := by decide +kernel
theorem dX13_codeBy_23 : decode cX13_codeBy 23 = .ok (.aload_n 1, 1) := by decide +kernel
theorem dX13_codeBy_24 : decode cX13_codeBy 24 = .ok (.iload_n 2, 1) := by decide +kernel
theorem dX13_codeBy_25 : decode cX13_codeBy 25 = .ok (.iconst 1, 1) := by decide +kernel
theorem dX13_codeBy_26 : decode cX13_codeBy 26 = .ok (.iadd, 1) := by decide +kernel
theorem dX13_codeBy_27 : decode cX13_codeBy 27 = .ok (.iload 4, 2) := by decide +kernel
theorem dX13_codeBy_29 : decode cX13_codeBy 29 = .ok (.iadd, 1) := by decide +kernel
theorem dX13_codeBy_30 : decode cX13_codeBy 30 = .ok (.iaload, 1) := by decide +kernel
theorem dX13_codeBy_31 : decode cX13_codeBy 31 = .ok (.iaload, 1) := by decide +kernel
theorem dX13_codeBy_32 : decode cX13_codeBy 32 = .ok (.bipush 6, 2) := by decide +kernel
theorem dX13_codeBy_34 : decode cX13_codeBy 34 = .ok (.iconst 3, 1) := by decide +kernel
theorem dX13_codeBy_35 : decode cX13_codeBy 35 = .ok (.iload 4, 2) := by decide +kernel
theorem dX13_codeBy_37 : decode cX13_codeBy 37 = .ok (.imul, 1) := by decide +kernel
theorem dX13_codeBy_38 : decode cX13_codeBy 38 = .ok (.isub, 1) := by decide +kernel
theorem dX13_codeBy_39 : decode cX13_codeBy 39 = .ok (.ishl, 1) := by decide +kernel
theorem dX13_codeBy_40 : decode cX13_codeBy 40 = .ok (.ior, 1) := by decide +kernel
theorem dX13_codeBy_41 : decode cX13_codeBy 41 = .ok (.istore_n 3, 1) := by decide +kernel
theorem dX13_codeBy_42 : decode cX13_codeBy 42 = .ok (.iinc 4 1, 3) := by decide +kernel
theorem dX13_codeBy_45 : decode cX13_codeBy 45 = .ok (.goto (-40), 3) := by decide +kernel
theorem dX13_codeBy_48 : decode cX13_codeBy 48 = .ok (.iload_n 3, 1) := by decide +kernel
theorem dX13_codeBy_49 : decode cX13_codeBy 49 = .ok (.ireturn, 1) := by decide +kernel
theorem dX13_variables_0 : decode cX13_variables 0 = .ok (.iconst 0, 1) := by decide +kernel
theorem dX13_variables_1 : decode cX13_variables 1 = .ok (.istore_n 3, 1) := by decide +kernel
theorem dX13_variables_2 : decode cX13_variables 2 = .ok (.iconst 0, 1) := by decide +kernel
theorem dX13_variables_3 : decode cX13_variables 3 = .ok (.istore 4, 2) := by decide +kernel
theorem dX13_variables_5 : decode cX13_variables 5 = .ok (.iload 4, 2) := by decide +kernel
theorem dX13_variables_7 : decode cX13_variables 7 = .ok (.aload_n 0, 1) := by decide +kernel
theorem dX13_variables_8 : decode cX13_variables 8 = .ok (.getfield 9, 3) := by decide +kernel
theorem dX13_variables_11 : decode cX13_variables 11 = .ok (.aload_n 1, 1) := by decide +kernel
theorem dX13_variables_12 : decode cX13_variables 12 = .ok (.iload_n 2, 1) := by decide +kernel
theorem dX13_variables_13 : decode cX13_variables 13 = .ok (.iaload, 1) := by decide +kernel
theorem dX13_variables_14 : decode cX13_variables 14 = .ok (.iaload, 1) := by decide +kernel
theorem dX13_variables_15 : decode cX13_variables 15 = .ok (.if_icmp .ge 22, 3) := by decide +kernel
theorem dX13_variables_18 : decode cX13_variables 18 = .ok (.iload_n 3, 1) := by decide +kernel
theorem dX13_variables_19 : decode cX13_variables 19 = .ok (.iconst 1, 1) := by decide +kernel
theorem dX13_variables_20 : decode cX13_variables 20 = .ok (.aload_n 1, 1) := by decide +kernel
theorem dX13_variables_21 : decode cX13_variables 21 = .ok (.iload_n 2, 1) := by decide +kernel
theorem dX13_variables_22 : decode cX13_variables 22 = .ok (.iconst 1, 1) := by decide +kernel
theorem dX13_variables_23 : decode cX13_variables 23 = .ok (.iadd, 1) := by decide +kernel
theorem dX13_variables_24 : decode cX13_variables 24 = .ok (.iload 4, 2) := by decide +kernel
theorem dX13_variables_26 : decode cX13_variables 26 = .ok (.iadd, 1) := by decide +kernel
theorem dX13_variables_27 : decode cX13_variables 27 = .ok (.iaload, 1) := by decide +kernel
theorem dX13_variables_28 : decode cX13_variables 28 = .ok (.ishl, 1) := by decide +kernel
theorem dX13_variables_29 : decode cX13_variables 29 = .ok (.ior, 1) := by decide +kernel
theorem dX13_variables_30 : decode cX13_variables 30 = .ok (.istore_n 3, 1) := by decide +kernel
theorem dX13_variables_31 : decode cX13_variables 31 = .ok (.iinc 4 1, 3) := by decide +kernel
theorem dX13_variables_34 : decode cX13_variables 34 = .ok (.goto (-29), 3) := by decide +kernel
theorem dX13_variables_37 : decode cX13_variables 37 = .ok (.iload_n 3, 1) := by decide +kernel
theorem dX13_variables_38 : decode cX13_variables 38 = .ok (.ireturn, 1) := by decide +kernel
theorem dX13_fits_0 : decode cX13_fits 0 = .ok (.aload_n 0, 1) := by decide +kernel
theorem dX13_fits_1 : decode cX13_fits 1 = .ok (.getfield 29, 3) := by decide +kernel
theorem dX13_fits_4 : decode cX13_fits 4 = .ok (.aload_n 1, 1) := by decide +kernel
theorem dX13_fits_5 : decode cX13_fits 5 = .ok (.iload_n 2, 1) := by decide +kernel
theorem dX13_fits_6 : decode cX13_fits 6 = .ok (.iaload, 1) := by decide +kernel
theorem dX13_fits_7 : decode cX13_fits 7 = .ok (.aaload, 1) := by decide +kernel
theorem dX13_fits_8 : decode cX13_fits 8 = .ok (.aload_n 0, 1) := by decide +kernel
theorem dX13_fits_9 : decode cX13_fits 9 = .ok (.aload_n 1, 1) := by decide +kernel
theorem dX13_fits_10 : decode cX13_fits 10 = .ok (.iload_n 2, 1) := by decide +kernel
theorem dX13_fits_11 : decode cX13_fits 11 = .ok (.invokevirtual 42, 3) := by decide +kernel
theorem dX13_fits_14 : decode cX13_fits 14 = .ok (.baload, 1) := by decide +kernel
theorem dX13_fits_15 : decode cX13_fits 15 = .ok (.ireturn, 1) := by decide +kernel
theorem dX13_variablesOf_0 : decode cX13_variablesOf 0 = .ok (.iconst 0, 1) := by decide +kernel
theorem dX13_variablesOf_1 : decode cX13_variablesOf 1 = .ok (.istore_n 3, 1) := by decide +kernel
theorem dX13_variablesOf_2 : decode cX13_variablesOf 2 = .ok (.iconst 0, 1) := by decide +kernel
theorem dX13_variablesOf_3 : decode cX13_variablesOf 3 = .ok (.istore 4, 2) := by decide +kernel
theorem dX13_variablesOf_5 : decode cX13_variablesOf 5 = .ok (.iload 4, 2) := by decide +kernel
theorem dX13_variablesOf_7 : decode cX13_variablesOf 7 = .ok (.aload_n 0, 1) := by decide +kernel
theorem dX13_variablesOf_8 : decode cX13_variablesOf 8 = .ok (.getfield 26, 3) := by decide +kernel
theorem dX13_variablesOf_11 : decode cX13_variablesOf 11 = .ok (.iload_n 1, 1) := by decide +kernel
theorem dX13_variablesOf_12 : decode cX13_variablesOf 12 = .ok (.aaload, 1) := by decide +kernel
theorem dX13_variablesOf_13 : decode cX13_variablesOf 13 = .ok (.iconst 4, 1) := by decide +kernel
theorem dX13_variablesOf_14 : decode cX13_variablesOf 14 = .ok (.iaload, 1) := by decide +kernel
theorem dX13_variablesOf_15 : decode cX13_variablesOf 15 = .ok (.if_icmp .ge 46, 3) := by decide +kernel
theorem dX13_variablesOf_18 : decode cX13_variablesOf 18 = .ok (.aload_n 0, 1) := by decide +kernel
theorem dX13_variablesOf_19 : decode cX13_variablesOf 19 = .ok (.getfield 26, 3) := by decide +kernel
theorem dX13_variablesOf_22 : decode cX13_variablesOf 22 = .ok (.iload_n 1, 1) := by decide +kernel
theorem dX13_variablesOf_23 : decode cX13_variablesOf 23 = .ok (.aaload, 1) := by decide +kernel
theorem dX13_variablesOf_24 : decode cX13_variablesOf 24 = .ok (.bipush 9, 2) := by decide +kernel
theorem dX13_variablesOf_26 : decode cX13_variablesOf 26 = .ok (.iconst 5, 1) := by decide +kernel
theorem dX13_variablesOf_27 : decode cX13_variablesOf 27 = .ok (.iload 4, 2) := by decide +kernel
theorem dX13_variablesOf_29 : decode cX13_variablesOf 29 = .ok (.imul, 1) := by decide +kernel
theorem dX13_variablesOf_30 : decode cX13_variablesOf 30 = .ok (.iadd, 1) := by decide +kernel
theorem dX13_variablesOf_31 : decode cX13_variablesOf 31 = .ok (.iaload, 1) := by decide +kernel
theorem dX13_variablesOf_32 : decode cX13_variablesOf 32 = .ok (.iload_n 2, 1) := by decide +kernel
theorem dX13_variablesOf_33 : decode cX13_variablesOf 33 = .ok (.if_icmp .ne 22, 3) := by decide +kernel
theorem dX13_variablesOf_36 : decode cX13_variablesOf 36 = .ok (.iload_n 3, 1) := by decide +kernel
theorem dX13_variablesOf_37 : decode cX13_variablesOf 37 = .ok (.aload_n 0, 1) := by decide +kernel
theorem dX13_variablesOf_38 : decode cX13_variablesOf 38 = .ok (.aload_n 0, 1) := by decide +kernel
theorem dX13_variablesOf_39 : decode cX13_variablesOf 39 = .ok (.getfield 26, 3) := by decide +kernel
theorem dX13_variablesOf_42 : decode cX13_variablesOf 42 = .ok (.iload_n 1, 1) := by decide +kernel
theorem dX13_variablesOf_43 : decode cX13_variablesOf 43 = .ok (.aaload, 1) := by decide +kernel
theorem dX13_variablesOf_44 : decode cX13_variablesOf 44 = .ok (.iconst 5, 1) := by decide +kernel
theorem dX13_variablesOf_45 : decode cX13_variablesOf 45 = .ok (.iconst 5, 1) := by decide +kernel
theorem dX13_variablesOf_46 : decode cX13_variablesOf 46 = .ok (.iload 4, 2) := by decide +kernel
theorem dX13_variablesOf_48 : decode cX13_variablesOf 48 = .ok (.imul, 1) := by decide +kernel
theorem dX13_variablesOf_49 : decode cX13_variablesOf 49 = .ok (.iadd, 1) := by decide +kernel
theorem dX13_variablesOf_50 : decode cX13_variablesOf 50 = .ok (.invokevirtual 46, 3) := by decide +kernel
theorem dX13_variablesOf_53 : decode cX13_variablesOf 53 = .ok (.ior, 1) := by decide +kernel
theorem dX13_variablesOf_54 : decode cX13_variablesOf 54 = .ok (.istore_n 3, 1) := by decide +kernel
theorem dX13_variablesOf_55 : decode cX13_variablesOf 55 = .ok (.iinc 4 1, 3) := by decide +kernel
theorem dX13_variablesOf_58 : decode cX13_variablesOf 58 = .ok (.goto (-53), 3) := by decide +kernel
theorem dX13_variablesOf_61 : decode cX13_variablesOf 61 = .ok (.iload_n 3, 1) := by decide +kernel
theorem dX13_variablesOf_62 : decode cX13_variablesOf 62 = .ok (.ireturn, 1) := by decide +kernel
theorem dX13_isIdle_0 : decode cX13_isIdle 0 = .ok (.aload_n 0, 1) := by decide +kernel
theorem dX13_isIdle_1 : decode cX13_isIdle 1 = .ok (.iload_n 1, 1) := by decide +kernel
theorem dX13_isIdle_2 : decode cX13_isIdle 2 = .ok (.iconst 0, 1) := by decide +kernel
theorem dX13_isIdle_3 : decode cX13_isIdle 3 = .ok (.invokevirtual 49, 3) := by decide +kernel
theorem dX13_isIdle_6 : decode cX13_isIdle 6 = .ok (.istore_n 2, 1) := by decide +kernel
theorem dX13_isIdle_7 : decode cX13_isIdle 7 = .ok (.iload_n 2, 1) := by decide +kernel
theorem dX13_isIdle_8 : decode cX13_isIdle 8 = .ok (.ifCond .eq 28, 3) := by decide +kernel
theorem dX13_isIdle_11 : decode cX13_isIdle 11 = .ok (.aload_n 0, 1) := by decide +kernel
theorem dX13_isIdle_12 : decode cX13_isIdle 12 = .ok (.aload_n 0, 1) := by decide +kernel
theorem dX13_isIdle_13 : decode cX13_isIdle 13 = .ok (.getfield 26, 3) := by decide +kernel
theorem dX13_isIdle_16 : decode cX13_isIdle 16 = .ok (.iload_n 1, 1) := by decide +kernel
theorem dX13_isIdle_17 : decode cX13_isIdle 17 = .ok (.aaload, 1) := by decide +kernel
theorem dX13_isIdle_18 : decode cX13_isIdle 18 = .ok (.iconst 0, 1) := by decide +kernel
theorem dX13_isIdle_19 : decode cX13_isIdle 19 = .ok (.invokevirtual 46, 3) := by decide +kernel
theorem dX13_isIdle_22 : decode cX13_isIdle 22 = .ok (.aload_n 0, 1) := by decide +kernel
theorem dX13_isIdle_23 : decode cX13_isIdle 23 = .ok (.iload_n 1, 1) := by decide +kernel
theorem dX13_isIdle_24 : decode cX13_isIdle 24 = .ok (.iconst 1, 1) := by decide +kernel
theorem dX13_isIdle_25 : decode cX13_isIdle 25 = .ok (.invokevirtual 49, 3) := by decide +kernel
theorem dX13_isIdle_28 : decode cX13_isIdle 28 = .ok (.ior, 1) := by decide +kernel
theorem dX13_isIdle_29 : decode cX13_isIdle 29 = .ok (.iload_n 2, 1) := by decide +kernel
theorem dX13_isIdle_30 : decode cX13_isIdle 30 = .ok (.iconst (-1), 1) := by decide +kernel
theorem dX13_isIdle_31 : decode cX13_isIdle 31 = .ok (.ixor, 1) := by decide +kernel
theorem dX13_isIdle_32 : decode cX13_isIdle 32 = .ok (.iand, 1) := by decide +kernel
theorem dX13_isIdle_33 : decode cX13_isIdle 33 = .ok (.ifCond .eq 7, 3) := by decide +kernel
theorem dX13_isIdle_36 : decode cX13_isIdle 36 = .ok (.iconst 1, 1) := by decide +kernel
theorem dX13_isIdle_37 : decode cX13_isIdle 37 = .ok (.goto 4, 3) := by decide +kernel
theorem dX13_isIdle_40 : decode cX13_isIdle 40 = .ok (.iconst 0, 1) := by decide +kernel
theorem dX13_isIdle_41 : decode cX13_isIdle 41 = .ok (.ireturn, 1) := by decide +kernel
theorem dX13_chooses_0 : decode cX13_chooses 0 = .ok (.iload_n 2, 1) := by decide +kernel
theorem dX13_chooses_1 : decode cX13_chooses 1 = .ok (.istore_n 3, 1) := by decide +kernel
theorem dX13_chooses_2 : decode cX13_chooses 2 = .ok (.iconst 0, 1) := by decide +kernel
theorem dX13_chooses_3 : decode cX13_chooses 3 = .ok (.istore 4, 2) := by decide +kernel
theorem dX13_chooses_5 : decode cX13_chooses 5 = .ok (.iload 4, 2) := by decide +kernel
theorem dX13_chooses_7 : decode cX13_chooses 7 = .ok (.iconst 4, 1) := by decide +kernel
theorem dX13_chooses_8 : decode cX13_chooses 8 = .ok (.if_icmp .ge 44, 3) := by decide +kernel
theorem dX13_chooses_11 : decode cX13_chooses 11 = .ok (.aload_n 0, 1) := by decide +kernel
theorem dX13_chooses_12 : decode cX13_chooses 12 = .ok (.getfield 35, 3) := by decide +kernel
theorem dX13_chooses_15 : decode cX13_chooses 15 = .ok (.iload 4, 2) := by decide +kernel
theorem dX13_chooses_17 : decode cX13_chooses 17 = .ok (.iconst 0, 1) := by decide +kernel
theorem dX13_chooses_18 : decode cX13_chooses 18 = .ok (.iastore, 1) := by decide +kernel
theorem dX13_chooses_19 : decode cX13_chooses 19 = .ok (.iload_n 1, 1) := by decide +kernel
theorem dX13_chooses_20 : decode cX13_chooses 20 = .ok (.iload 4, 2) := by decide +kernel
theorem dX13_chooses_22 : decode cX13_chooses 22 = .ok (.ishr, 1) := by decide +kernel
theorem dX13_chooses_23 : decode cX13_chooses 23 = .ok (.iconst 1, 1) := by decide +kernel
theorem dX13_chooses_24 : decode cX13_chooses 24 = .ok (.iand, 1) := by decide +kernel
theorem dX13_chooses_25 : decode cX13_chooses 25 = .ok (.ifCond .ne 6, 3) := by decide +kernel
theorem dX13_chooses_28 : decode cX13_chooses 28 = .ok (.goto 18, 3) := by decide +kernel
theorem dX13_chooses_31 : decode cX13_chooses 31 = .ok (.aload_n 0, 1) := by decide +kernel
theorem dX13_chooses_32 : decode cX13_chooses 32 = .ok (.getfield 35, 3) := by decide +kernel
theorem dX13_chooses_35 : decode cX13_chooses 35 = .ok (.iload 4, 2) := by decide +kernel
theorem dX13_chooses_37 : decode cX13_chooses 37 = .ok (.iload_n 3, 1) := by decide +kernel
theorem dX13_chooses_38 : decode cX13_chooses 38 = .ok (.bipush 7, 2) := by decide +kernel
theorem dX13_chooses_40 : decode cX13_chooses 40 = .ok (.iand, 1) := by decide +kernel
theorem dX13_chooses_41 : decode cX13_chooses 41 = .ok (.iastore, 1) := by decide +kernel
theorem dX13_chooses_42 : decode cX13_chooses 42 = .ok (.iload_n 3, 1) := by decide +kernel
theorem dX13_chooses_43 : decode cX13_chooses 43 = .ok (.iconst 3, 1) := by decide +kernel
theorem dX13_chooses_44 : decode cX13_chooses 44 = .ok (.ishr, 1) := by decide +kernel
theorem dX13_chooses_45 : decode cX13_chooses 45 = .ok (.istore_n 3, 1) := by decide +kernel
theorem dX13_chooses_46 : decode cX13_chooses 46 = .ok (.iinc 4 1, 3) := by decide +kernel
theorem dX13_chooses_49 : decode cX13_chooses 49 = .ok (.goto (-44), 3) := by decide +kernel
theorem dX13_chooses_52 : decode cX13_chooses 52 = .ok (.iload_n 3, 1) := by decide +kernel
theorem dX13_chooses_53 : decode cX13_chooses 53 = .ok (.ifCond .ne 7, 3) := by decide +kernel
theorem dX13_chooses_56 : decode cX13_chooses 56 = .ok (.iconst 1, 1) := by decide +kernel
theorem dX13_chooses_57 : decode cX13_chooses 57 = .ok (.goto 4, 3) := by decide +kernel
theorem dX13_chooses_60 : decode cX13_chooses 60 = .ok (.iconst 0, 1) := by decide +kernel
theorem dX13_chooses_61 : decode cX13_chooses 61 = .ok (.ireturn, 1) := by decide +kernel
theorem dX13_gives_0 : decode cX13_gives 0 = .ok (.iconst 1, 1) := by decide +kernel
theorem dX13_gives_1 : decode cX13_gives 1 = .ok (.istore_n 2, 1) := by decide +kernel
theorem dX13_gives_2 : decode cX13_gives 2 = .ok (.iconst 0, 1) := by decide +kernel
theorem dX13_gives_3 : decode cX13_gives 3 = .ok (.istore_n 3, 1) := by decide +kernel
theorem dX13_gives_4 : decode cX13_gives 4 = .ok (.iload_n 3, 1) := by decide +kernel
theorem dX13_gives_5 : decode cX13_gives 5 = .ok (.aload_n 0, 1) := by decide +kernel
theorem dX13_gives_6 : decode cX13_gives 6 = .ok (.getfield 26, 3) := by decide +kernel
theorem dX13_gives_9 : decode cX13_gives 9 = .ok (.iload_n 1, 1) := by decide +kernel
theorem dX13_gives_10 : decode cX13_gives 10 = .ok (.aaload, 1) := by decide +kernel
theorem dX13_gives_11 : decode cX13_gives 11 = .ok (.iconst 4, 1) := by decide +kernel
theorem dX13_gives_12 : decode cX13_gives 12 = .ok (.iaload, 1) := by decide +kernel
theorem dX13_gives_13 : decode cX13_gives 13 = .ok (.if_icmp .ge 59, 3) := by decide +kernel
theorem dX13_gives_16 : decode cX13_gives 16 = .ok (.iload_n 2, 1) := by decide +kernel
theorem dX13_gives_17 : decode cX13_gives 17 = .ok (.ifCond .eq 55, 3) := by decide +kernel
theorem dX13_gives_20 : decode cX13_gives 20 = .ok (.aload_n 0, 1) := by decide +kernel
theorem dX13_gives_21 : decode cX13_gives 21 = .ok (.aload_n 0, 1) := by decide +kernel
theorem dX13_gives_22 : decode cX13_gives 22 = .ok (.getfield 26, 3) := by decide +kernel
theorem dX13_gives_25 : decode cX13_gives 25 = .ok (.iload_n 1, 1) := by decide +kernel
theorem dX13_gives_26 : decode cX13_gives 26 = .ok (.aaload, 1) := by decide +kernel
theorem dX13_gives_27 : decode cX13_gives 27 = .ok (.iconst 5, 1) := by decide +kernel
theorem dX13_gives_28 : decode cX13_gives 28 = .ok (.iconst 5, 1) := by decide +kernel
theorem dX13_gives_29 : decode cX13_gives 29 = .ok (.iload_n 3, 1) := by decide +kernel
theorem dX13_gives_30 : decode cX13_gives 30 = .ok (.imul, 1) := by decide +kernel
theorem dX13_gives_31 : decode cX13_gives 31 = .ok (.iadd, 1) := by decide +kernel
theorem dX13_gives_32 : decode cX13_gives 32 = .ok (.invokevirtual 52, 3) := by decide +kernel
