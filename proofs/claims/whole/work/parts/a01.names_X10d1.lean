theorem dX10_init_0 : decode cX10_init 0 = .ok (.aload_n 0, 1) := by decide +kernel
theorem dX10_init_1 : decode cX10_init 1 = .ok (.invokespecial 3, 3) := by decide +kernel
theorem dX10_init_4 : decode cX10_init 4 = .ok (.aload_n 0, 1) := by decide +kernel
theorem dX10_init_5 : decode cX10_init 5 = .ok (.new 9, 3) := by decide +kernel
theorem dX10_init_8 : decode cX10_init 8 = .ok (.dup, 1) := by decide +kernel
theorem dX10_init_9 : decode cX10_init 9 = .ok (.iconst 5, 1) := by decide +kernel
theorem dX10_init_10 : decode cX10_init 10 = .ok (.invokespecial 11, 3) := by decide +kernel
theorem dX10_init_13 : decode cX10_init 13 = .ok (.putfield 14, 3) := by decide +kernel
theorem dX10_init_16 : decode cX10_init 16 = .ok (.return_, 1) := by decide +kernel
theorem dX10_reduces_0 : decode cX10_reduces 0 = .ok (.iconst 0, 1) := by decide +kernel
theorem dX10_reduces_1 : decode cX10_reduces 1 = .ok (.istore_n 2, 1) := by decide +kernel
theorem dX10_reduces_2 : decode cX10_reduces 2 = .ok (.iload_n 2, 1) := by decide +kernel
theorem dX10_reduces_3 : decode cX10_reduces 3 = .ok (.aload_n 1, 1) := by decide +kernel
theorem dX10_reduces_4 : decode cX10_reduces 4 = .ok (.getfield 20, 3) := by decide +kernel
theorem dX10_reduces_7 : decode cX10_reduces 7 = .ok (.if_icmp .ge 25, 3) := by decide +kernel
theorem dX10_reduces_10 : decode cX10_reduces 10 = .ok (.aload_n 0, 1) := by decide +kernel
theorem dX10_reduces_11 : decode cX10_reduces 11 = .ok (.getfield 14, 3) := by decide +kernel
theorem dX10_reduces_14 : decode cX10_reduces 14 = .ok (.iload_n 2, 1) := by decide +kernel
theorem dX10_reduces_15 : decode cX10_reduces 15 = .ok (.aload_n 1, 1) := by decide +kernel
theorem dX10_reduces_16 : decode cX10_reduces 16 = .ok (.iload_n 2, 1) := by decide +kernel
theorem dX10_reduces_17 : decode cX10_reduces 17 = .ok (.invokevirtual 26, 3) := by decide +kernel
theorem dX10_reduces_20 : decode cX10_reduces 20 = .ok (.invokestatic 30, 3) := by decide +kernel
theorem dX10_reduces_23 : decode cX10_reduces 23 = .ok (.invokevirtual 35, 3) := by decide +kernel
theorem dX10_reduces_26 : decode cX10_reduces 26 = .ok (.iinc 2 1, 3) := by decide +kernel
theorem dX10_reduces_29 : decode cX10_reduces 29 = .ok (.goto (-27), 3) := by decide +kernel
theorem dX10_reduces_32 : decode cX10_reduces 32 = .ok (.iconst 1, 1) := by decide +kernel
theorem dX10_reduces_33 : decode cX10_reduces 33 = .ok (.istore_n 2, 1) := by decide +kernel
theorem dX10_reduces_34 : decode cX10_reduces 34 = .ok (.iconst 0, 1) := by decide +kernel
theorem dX10_reduces_35 : decode cX10_reduces 35 = .ok (.istore_n 3, 1) := by decide +kernel
theorem dX10_reduces_36 : decode cX10_reduces 36 = .ok (.iload_n 2, 1) := by decide +kernel
theorem dX10_reduces_37 : decode cX10_reduces 37 = .ok (.ifCond .eq 43, 3) := by decide +kernel
theorem dX10_reduces_40 : decode cX10_reduces 40 = .ok (.iload_n 3, 1) := by decide +kernel
theorem dX10_reduces_41 : decode cX10_reduces 41 = .ok (.ldc 39, 2) := by decide +kernel
theorem dX10_reduces_43 : decode cX10_reduces 43 = .ok (.if_icmp .ge 37, 3) := by decide +kernel
theorem dX10_reduces_46 : decode cX10_reduces 46 = .ok (.aload_n 0, 1) := by decide +kernel
theorem dX10_reduces_47 : decode cX10_reduces 47 = .ok (.aload_n 1, 1) := by decide +kernel
theorem dX10_reduces_48 : decode cX10_reduces 48 = .ok (.getfield 20, 3) := by decide +kernel
theorem dX10_reduces_51 : decode cX10_reduces 51 = .ok (.invokevirtual 40, 3) := by decide +kernel
theorem dX10_reduces_54 : decode cX10_reduces 54 = .ok (.ifCond .ne 14, 3) := by decide +kernel
theorem dX10_reduces_57 : decode cX10_reduces 57 = .ok (.aload_n 0, 1) := by decide +kernel
theorem dX10_reduces_58 : decode cX10_reduces 58 = .ok (.aload_n 1, 1) := by decide +kernel
theorem dX10_reduces_59 : decode cX10_reduces 59 = .ok (.getfield 20, 3) := by decide +kernel
theorem dX10_reduces_62 : decode cX10_reduces 62 = .ok (.invokevirtual 44, 3) := by decide +kernel
theorem dX10_reduces_65 : decode cX10_reduces 65 = .ok (.ifCond .eq 7, 3) := by decide +kernel
theorem dX10_reduces_68 : decode cX10_reduces 68 = .ok (.iconst 1, 1) := by decide +kernel
theorem dX10_reduces_69 : decode cX10_reduces 69 = .ok (.goto 4, 3) := by decide +kernel
theorem dX10_reduces_72 : decode cX10_reduces 72 = .ok (.iconst 0, 1) := by decide +kernel
theorem dX10_reduces_73 : decode cX10_reduces 73 = .ok (.istore_n 2, 1) := by decide +kernel
theorem dX10_reduces_74 : decode cX10_reduces 74 = .ok (.iinc 3 1, 3) := by decide +kernel
theorem dX10_reduces_77 : decode cX10_reduces 77 = .ok (.goto (-41), 3) := by decide +kernel
theorem dX10_reduces_80 : decode cX10_reduces 80 = .ok (.iconst 0, 1) := by decide +kernel
theorem dX10_reduces_81 : decode cX10_reduces 81 = .ok (.istore_n 3, 1) := by decide +kernel
theorem dX10_reduces_82 : decode cX10_reduces 82 = .ok (.iload_n 3, 1) := by decide +kernel
theorem dX10_reduces_83 : decode cX10_reduces 83 = .ok (.aload_n 1, 1) := by decide +kernel
theorem dX10_reduces_84 : decode cX10_reduces 84 = .ok (.getfield 20, 3) := by decide +kernel
theorem dX10_reduces_87 : decode cX10_reduces 87 = .ok (.if_icmp .ge 23, 3) := by decide +kernel
theorem dX10_reduces_90 : decode cX10_reduces 90 = .ok (.aload_n 0, 1) := by decide +kernel
theorem dX10_reduces_91 : decode cX10_reduces 91 = .ok (.getfield 14, 3) := by decide +kernel
theorem dX10_reduces_94 : decode cX10_reduces 94 = .ok (.iload_n 3, 1) := by decide +kernel
theorem dX10_reduces_95 : decode cX10_reduces 95 = .ok (.invokevirtual 47, 3) := by decide +kernel
theorem dX10_reduces_98 : decode cX10_reduces 98 = .ok (.iconst (-1), 1) := by decide +kernel
theorem dX10_reduces_99 : decode cX10_reduces 99 = .ok (.if_icmp .eq 5, 3) := by decide +kernel
theorem dX10_reduces_102 : decode cX10_reduces 102 = .ok (.iconst 0, 1) := by decide +kernel
theorem dX10_reduces_103 : decode cX10_reduces 103 = .ok (.ireturn, 1) := by decide +kernel
theorem dX10_reduces_104 : decode cX10_reduces 104 = .ok (.iinc 3 1, 3) := by decide +kernel
theorem dX10_reduces_107 : decode cX10_reduces 107 = .ok (.goto (-25), 3) := by decide +kernel
theorem dX10_reduces_110 : decode cX10_reduces 110 = .ok (.iconst 1, 1) := by decide +kernel
theorem dX10_reduces_111 : decode cX10_reduces 111 = .ok (.ireturn, 1) := by decide +kernel
theorem dX10_takeVariable_0 : decode cX10_takeVariable 0 = .ok (.iconst 0, 1) := by decide +kernel
theorem dX10_takeVariable_1 : decode cX10_takeVariable 1 = .ok (.istore_n 2, 1) := by decide +kernel
theorem dX10_takeVariable_2 : decode cX10_takeVariable 2 = .ok (.iload_n 2, 1) := by decide +kernel
theorem dX10_takeVariable_3 : decode cX10_takeVariable 3 = .ok (.iconst 4, 1) := by decide +kernel
theorem dX10_takeVariable_4 : decode cX10_takeVariable 4 = .ok (.if_icmp .ge 96, 3) := by decide +kernel
theorem dX10_takeVariable_7 : decode cX10_takeVariable 7 = .ok (.iconst 0, 1) := by decide +kernel
theorem dX10_takeVariable_8 : decode cX10_takeVariable 8 = .ok (.istore_n 3, 1) := by decide +kernel
theorem dX10_takeVariable_9 : decode cX10_takeVariable 9 = .ok (.iconst (-1), 1) := by decide +kernel
theorem dX10_takeVariable_10 : decode cX10_takeVariable 10 = .ok (.istore 4, 2) := by decide +kernel
theorem dX10_takeVariable_12 : decode cX10_takeVariable 12 = .ok (.iconst 0, 1) := by decide +kernel
theorem dX10_takeVariable_13 : decode cX10_takeVariable 13 = .ok (.istore 5, 2) := by decide +kernel
theorem dX10_takeVariable_15 : decode cX10_takeVariable 15 = .ok (.iload 5, 2) := by decide +kernel
theorem dX10_takeVariable_17 : decode cX10_takeVariable 17 = .ok (.iload_n 1, 1) := by decide +kernel
theorem dX10_takeVariable_18 : decode cX10_takeVariable 18 = .ok (.if_icmp .ge 45, 3) := by decide +kernel
theorem dX10_takeVariable_21 : decode cX10_takeVariable 21 = .ok (.aload_n 0, 1) := by decide +kernel
theorem dX10_takeVariable_22 : decode cX10_takeVariable 22 = .ok (.getfield 14, 3) := by decide +kernel
theorem dX10_takeVariable_25 : decode cX10_takeVariable 25 = .ok (.iload 5, 2) := by decide +kernel
theorem dX10_takeVariable_27 : decode cX10_takeVariable 27 = .ok (.invokevirtual 47, 3) := by decide +kernel
theorem dX10_takeVariable_30 : decode cX10_takeVariable 30 = .ok (.iconst (-1), 1) := by decide +kernel
theorem dX10_takeVariable_31 : decode cX10_takeVariable 31 = .ok (.if_icmp .eq 26, 3) := by decide +kernel
theorem dX10_takeVariable_34 : decode cX10_takeVariable 34 = .ok (.aload_n 0, 1) := by decide +kernel
theorem dX10_takeVariable_35 : decode cX10_takeVariable 35 = .ok (.getfield 14, 3) := by decide +kernel
theorem dX10_takeVariable_38 : decode cX10_takeVariable 38 = .ok (.iload 5, 2) := by decide +kernel
theorem dX10_takeVariable_40 : decode cX10_takeVariable 40 = .ok (.invokevirtual 47, 3) := by decide +kernel
theorem dX10_takeVariable_43 : decode cX10_takeVariable 43 = .ok (.iconst 1, 1) := by decide +kernel
theorem dX10_takeVariable_44 : decode cX10_takeVariable 44 = .ok (.iload_n 2, 1) := by decide +kernel
theorem dX10_takeVariable_45 : decode cX10_takeVariable 45 = .ok (.ishl, 1) := by decide +kernel
theorem dX10_takeVariable_46 : decode cX10_takeVariable 46 = .ok (.iand, 1) := by decide +kernel
theorem dX10_takeVariable_47 : decode cX10_takeVariable 47 = .ok (.ifCond .eq 10, 3) := by decide +kernel
theorem dX10_takeVariable_50 : decode cX10_takeVariable 50 = .ok (.iinc 3 1, 3) := by decide +kernel
theorem dX10_takeVariable_53 : decode cX10_takeVariable 53 = .ok (.iload 5, 2) := by decide +kernel
theorem dX10_takeVariable_55 : decode cX10_takeVariable 55 = .ok (.istore 4, 2) := by decide +kernel
theorem dX10_takeVariable_57 : decode cX10_takeVariable 57 = .ok (.iinc 5 1, 3) := by decide +kernel
theorem dX10_takeVariable_60 : decode cX10_takeVariable 60 = .ok (.goto (-45), 3) := by decide +kernel
theorem dX10_takeVariable_63 : decode cX10_takeVariable 63 = .ok (.iload_n 3, 1) := by decide +kernel
theorem dX10_takeVariable_64 : decode cX10_takeVariable 64 = .ok (.iconst 1, 1) := by decide +kernel
theorem dX10_takeVariable_65 : decode cX10_takeVariable 65 = .ok (.if_icmp .ne 29, 3) := by decide +kernel
theorem dX10_takeVariable_68 : decode cX10_takeVariable 68 = .ok (.aload_n 0, 1) := by decide +kernel
theorem dX10_takeVariable_69 : decode cX10_takeVariable 69 = .ok (.getfield 14, 3) := by decide +kernel
theorem dX10_takeVariable_72 : decode cX10_takeVariable 72 = .ok (.iload 4, 2) := by decide +kernel
theorem dX10_takeVariable_74 : decode cX10_takeVariable 74 = .ok (.aload_n 0, 1) := by decide +kernel
theorem dX10_takeVariable_75 : decode cX10_takeVariable 75 = .ok (.getfield 14, 3) := by decide +kernel
theorem dX10_takeVariable_78 : decode cX10_takeVariable 78 = .ok (.iload 4, 2) := by decide +kernel
theorem dX10_takeVariable_80 : decode cX10_takeVariable 80 = .ok (.invokevirtual 47, 3) := by decide +kernel
theorem dX10_takeVariable_83 : decode cX10_takeVariable 83 = .ok (.iconst 1, 1) := by decide +kernel
theorem dX10_takeVariable_84 : decode cX10_takeVariable 84 = .ok (.iload_n 2, 1) := by decide +kernel
theorem dX10_takeVariable_85 : decode cX10_takeVariable 85 = .ok (.ishl, 1) := by decide +kernel
theorem dX10_takeVariable_86 : decode cX10_takeVariable 86 = .ok (.iconst (-1), 1) := by decide +kernel
theorem dX10_takeVariable_87 : decode cX10_takeVariable 87 = .ok (.ixor, 1) := by decide +kernel
theorem dX10_takeVariable_88 : decode cX10_takeVariable 88 = .ok (.iand, 1) := by decide +kernel
theorem dX10_takeVariable_89 : decode cX10_takeVariable 89 = .ok (.invokevirtual 35, 3) := by decide +kernel
theorem dX10_takeVariable_92 : decode cX10_takeVariable 92 = .ok (.iconst 1, 1) := by decide +kernel
theorem dX10_takeVariable_93 : decode cX10_takeVariable 93 = .ok (.ireturn, 1) := by decide +kernel
theorem dX10_takeVariable_94 : decode cX10_takeVariable 94 = .ok (.iinc 2 1, 3) := by decide +kernel
theorem dX10_takeVariable_97 : decode cX10_takeVariable 97 = .ok (.goto (-95), 3) := by decide +kernel
theorem dX10_takeVariable_100 : decode cX10_takeVariable 100 = .ok (.iconst 0, 1) := by decide +kernel
theorem dX10_takeVariable_101 : decode cX10_takeVariable 101 = .ok (.ireturn, 1) := by decide +kernel
theorem dX10_takeAtom_0 : decode cX10_takeAtom 0 = .ok (.iconst 0, 1) := by decide +kernel
theorem dX10_takeAtom_1 : decode cX10_takeAtom 1 = .ok (.istore_n 2, 1) := by decide +kernel
theorem dX10_takeAtom_2 : decode cX10_takeAtom 2 = .ok (.iload_n 2, 1) := by decide +kernel
theorem dX10_takeAtom_3 : decode cX10_takeAtom 3 = .ok (.iload_n 1, 1) := by decide +kernel
theorem dX10_takeAtom_4 : decode cX10_takeAtom 4 = .ok (.if_icmp .ge 41, 3) := by decide +kernel
theorem dX10_takeAtom_7 : decode cX10_takeAtom 7 = .ok (.aload_n 0, 1) := by decide +kernel
theorem dX10_takeAtom_8 : decode cX10_takeAtom 8 = .ok (.getfield 14, 3) := by decide +kernel
theorem dX10_takeAtom_11 : decode cX10_takeAtom 11 = .ok (.iload_n 2, 1) := by decide +kernel
theorem dX10_takeAtom_12 : decode cX10_takeAtom 12 = .ok (.invokevirtual 47, 3) := by decide +kernel
theorem dX10_takeAtom_15 : decode cX10_takeAtom 15 = .ok (.iconst (-1), 1) := by decide +kernel
theorem dX10_takeAtom_16 : decode cX10_takeAtom 16 = .ok (.if_icmp .eq 23, 3) := by decide +kernel
theorem dX10_takeAtom_19 : decode cX10_takeAtom 19 = .ok (.aload_n 0, 1) := by decide +kernel
theorem dX10_takeAtom_20 : decode cX10_takeAtom 20 = .ok (.iload_n 2, 1) := by decide +kernel
theorem dX10_takeAtom_21 : decode cX10_takeAtom 21 = .ok (.iload_n 1, 1) := by decide +kernel
theorem dX10_takeAtom_22 : decode cX10_takeAtom 22 = .ok (.invokevirtual 48, 3) := by decide +kernel
theorem dX10_takeAtom_25 : decode cX10_takeAtom 25 = .ok (.ifCond .eq 14, 3) := by decide +kernel
theorem dX10_takeAtom_28 : decode cX10_takeAtom 28 = .ok (.aload_n 0, 1) := by decide +kernel
theorem dX10_takeAtom_29 : decode cX10_takeAtom 29 = .ok (.getfield 14, 3) := by decide +kernel
theorem dX10_takeAtom_32 : decode cX10_takeAtom 32 = .ok (.iload_n 2, 1) := by decide +kernel
theorem dX10_takeAtom_33 : decode cX10_takeAtom 33 = .ok (.iconst (-1), 1) := by decide +kernel
theorem dX10_takeAtom_34 : decode cX10_takeAtom 34 = .ok (.invokevirtual 35, 3) := by decide +kernel
theorem dX10_takeAtom_37 : decode cX10_takeAtom 37 = .ok (.iconst 1, 1) := by decide +kernel
theorem dX10_takeAtom_38 : decode cX10_takeAtom 38 = .ok (.ireturn, 1) := by decide +kernel
theorem dX10_takeAtom_39 : decode cX10_takeAtom 39 = .ok (.iinc 2 1, 3) := by decide +kernel
theorem dX10_takeAtom_42 : decode cX10_takeAtom 42 = .ok (.goto (-40), 3) := by decide +kernel
theorem dX10_takeAtom_45 : decode cX10_takeAtom 45 = .ok (.iconst 0, 1) := by decide +kernel
theorem dX10_takeAtom_46 : decode cX10_takeAtom 46 = .ok (.ireturn, 1) := by decide +kernel
theorem dX10_isSpare_0 : decode cX10_isSpare 0 = .ok (.aload_n 0, 1) := by decide +kernel
theorem dX10_isSpare_1 : decode cX10_isSpare 1 = .ok (.getfield 14, 3) := by decide +kernel
theorem dX10_isSpare_4 : decode cX10_isSpare 4 = .ok (.iload_n 1, 1) := by decide +kernel
theorem dX10_isSpare_5 : decode cX10_isSpare 5 = .ok (.invokevirtual 47, 3) := by decide +kernel
theorem dX10_isSpare_8 : decode cX10_isSpare 8 = .ok (.istore_n 3, 1) := by decide +kernel
theorem dX10_isSpare_9 : decode cX10_isSpare 9 = .ok (.iconst 0, 1) := by decide +kernel
theorem dX10_isSpare_10 : decode cX10_isSpare 10 = .ok (.istore 4, 2) := by decide +kernel
theorem dX10_isSpare_12 : decode cX10_isSpare 12 = .ok (.iload 4, 2) := by decide +kernel
theorem dX10_isSpare_14 : decode cX10_isSpare 14 = .ok (.iload_n 2, 1) := by decide +kernel
theorem dX10_isSpare_15 : decode cX10_isSpare 15 = .ok (.if_icmp .ge 46, 3) := by decide +kernel
theorem dX10_isSpare_18 : decode cX10_isSpare 18 = .ok (.iload 4, 2) := by decide +kernel
theorem dX10_isSpare_20 : decode cX10_isSpare 20 = .ok (.iload_n 1, 1) := by decide +kernel
theorem dX10_isSpare_21 : decode cX10_isSpare 21 = .ok (.if_icmp .eq 34, 3) := by decide +kernel
theorem dX10_isSpare_24 : decode cX10_isSpare 24 = .ok (.aload_n 0, 1) := by decide +kernel
theorem dX10_isSpare_25 : decode cX10_isSpare 25 = .ok (.getfield 14, 3) := by decide +kernel
theorem dX10_isSpare_28 : decode cX10_isSpare 28 = .ok (.iload 4, 2) := by decide +kernel
theorem dX10_isSpare_30 : decode cX10_isSpare 30 = .ok (.invokevirtual 47, 3) := by decide +kernel
theorem dX10_isSpare_33 : decode cX10_isSpare 33 = .ok (.iconst (-1), 1) := by decide +kernel
theorem dX10_isSpare_34 : decode cX10_isSpare 34 = .ok (.if_icmp .eq 21, 3) := by decide +kernel
theorem dX10_isSpare_37 : decode cX10_isSpare 37 = .ok (.iload_n 3, 1) := by decide +kernel
theorem dX10_isSpare_38 : decode cX10_isSpare 38 = .ok (.aload_n 0, 1) := by decide +kernel
theorem dX10_isSpare_39 : decode cX10_isSpare 39 = .ok (.getfield 14, 3) := by decide +kernel
theorem dX10_isSpare_42 : decode cX10_isSpare 42 = .ok (.iload 4, 2) := by decide +kernel
theorem dX10_isSpare_44 : decode cX10_isSpare 44 = .ok (.invokevirtual 47, 3) := by decide +kernel
theorem dX10_isSpare_47 : decode cX10_isSpare 47 = .ok (.iconst (-1), 1) := by decide +kernel
theorem dX10_isSpare_48 : decode cX10_isSpare 48 = .ok (.ixor, 1) := by decide +kernel
theorem dX10_isSpare_49 : decode cX10_isSpare 49 = .ok (.iand, 1) := by decide +kernel
theorem dX10_isSpare_50 : decode cX10_isSpare 50 = .ok (.ifCond .ne 5, 3) := by decide +kernel
theorem dX10_isSpare_53 : decode cX10_isSpare 53 = .ok (.iconst 1, 1) := by decide +kernel
theorem dX10_isSpare_54 : decode cX10_isSpare 54 = .ok (.ireturn, 1) := by decide +kernel
theorem dX10_isSpare_55 : decode cX10_isSpare 55 = .ok (.iinc 4 1, 3) := by decide +kernel
theorem dX10_isSpare_58 : decode cX10_isSpare 58 = .ok (.goto (-46), 3) := by decide +kernel
theorem dX10_isSpare_61 : decode cX10_isSpare 61 = .ok (.iload_n 3, 1) := by decide +kernel
theorem dX10_isSpare_62 : decode cX10_isSpare 62 = .ok (.ifCond .ne 7, 3) := by decide +kernel
theorem dX10_isSpare_65 : decode cX10_isSpare 65 = .ok (.iconst 1, 1) := by decide +kernel
theorem dX10_isSpare_66 : decode cX10_isSpare 66 = .ok (.goto 4, 3) := by decide +kernel
theorem dX10_isSpare_69 : decode cX10_isSpare 69 = .ok (.iconst 0, 1) := by decide +kernel
theorem dX10_isSpare_70 : decode cX10_isSpare 70 = .ok (.ireturn, 1) := by decide +kernel
