theorem dL_leavesNothing_14 : decode cL_leavesNothing 14 = .ok (.invokestatic 55, 3) := by decide +kernel
theorem dL_leavesNothing_17 : decode cL_leavesNothing 17 = .ok (.istore 4, 2) := by decide +kernel
theorem dL_leavesNothing_19 : decode cL_leavesNothing 19 = .ok (.aload_n 1, 1) := by decide +kernel
theorem dL_leavesNothing_20 : decode cL_leavesNothing 20 = .ok (.getfield 48, 3) := by decide +kernel
theorem dL_leavesNothing_23 : decode cL_leavesNothing 23 = .ok (.iload_n 3, 1) := by decide +kernel
theorem dL_leavesNothing_24 : decode cL_leavesNothing 24 = .ok (.aaload, 1) := by decide +kernel
theorem dL_leavesNothing_25 : decode cL_leavesNothing 25 = .ok (.iload 4, 2) := by decide +kernel
theorem dL_leavesNothing_27 : decode cL_leavesNothing 27 = .ok (.baload, 1) := by decide +kernel
theorem dL_leavesNothing_28 : decode cL_leavesNothing 28 = .ok (.ifCond .ne 13, 3) := by decide +kernel
theorem dL_leavesNothing_31 : decode cL_leavesNothing 31 = .ok (.aload_n 1, 1) := by decide +kernel
theorem dL_leavesNothing_32 : decode cL_leavesNothing 32 = .ok (.iload_n 3, 1) := by decide +kernel
theorem dL_leavesNothing_33 : decode cL_leavesNothing 33 = .ok (.invokevirtual 62, 3) := by decide +kernel
theorem dL_leavesNothing_36 : decode cL_leavesNothing 36 = .ok (.bipush 60, 2) := by decide +kernel
theorem dL_leavesNothing_38 : decode cL_leavesNothing 38 = .ok (.if_icmp .ne 5, 3) := by decide +kernel
theorem dL_leavesNothing_41 : decode cL_leavesNothing 41 = .ok (.iconst 1, 1) := by decide +kernel
theorem dL_leavesNothing_42 : decode cL_leavesNothing 42 = .ok (.ireturn, 1) := by decide +kernel
theorem dL_leavesNothing_43 : decode cL_leavesNothing 43 = .ok (.aload_n 0, 1) := by decide +kernel
theorem dL_leavesNothing_44 : decode cL_leavesNothing 44 = .ok (.invokevirtual 133, 3) := by decide +kernel
theorem dL_leavesNothing_47 : decode cL_leavesNothing 47 = .ok (.istore 5, 2) := by decide +kernel
theorem dL_leavesNothing_49 : decode cL_leavesNothing 49 = .ok (.aload_n 0, 1) := by decide +kernel
theorem dL_leavesNothing_50 : decode cL_leavesNothing 50 = .ok (.iload_n 3, 1) := by decide +kernel
theorem dL_leavesNothing_51 : decode cL_leavesNothing 51 = .ok (.invokevirtual 109, 3) := by decide +kernel
theorem dL_leavesNothing_54 : decode cL_leavesNothing 54 = .ok (.istore 6, 2) := by decide +kernel
theorem dL_leavesNothing_56 : decode cL_leavesNothing 56 = .ok (.aload_n 0, 1) := by decide +kernel
theorem dL_leavesNothing_57 : decode cL_leavesNothing 57 = .ok (.iload_n 3, 1) := by decide +kernel
theorem dL_leavesNothing_58 : decode cL_leavesNothing 58 = .ok (.iload 4, 2) := by decide +kernel
theorem dL_leavesNothing_60 : decode cL_leavesNothing 60 = .ok (.invokestatic 59, 3) := by decide +kernel
theorem dL_leavesNothing_63 : decode cL_leavesNothing 63 = .ok (.iload 6, 2) := by decide +kernel
theorem dL_leavesNothing_65 : decode cL_leavesNothing 65 = .ok (.iconst 1, 1) := by decide +kernel
theorem dL_leavesNothing_66 : decode cL_leavesNothing 66 = .ok (.iadd, 1) := by decide +kernel
theorem dL_leavesNothing_67 : decode cL_leavesNothing 67 = .ok (.if_icmp .ne 30, 3) := by decide +kernel
theorem dL_leavesNothing_70 : decode cL_leavesNothing 70 = .ok (.aload_n 0, 1) := by decide +kernel
theorem dL_leavesNothing_71 : decode cL_leavesNothing 71 = .ok (.iload_n 3, 1) := by decide +kernel
theorem dL_leavesNothing_72 : decode cL_leavesNothing 72 = .ok (.iload 4, 2) := by decide +kernel
theorem dL_leavesNothing_74 : decode cL_leavesNothing 74 = .ok (.iconst 0, 1) := by decide +kernel
theorem dL_leavesNothing_75 : decode cL_leavesNothing 75 = .ok (.invokestatic 7, 3) := by decide +kernel
theorem dL_leavesNothing_78 : decode cL_leavesNothing 78 = .ok (.iload 4, 2) := by decide +kernel
theorem dL_leavesNothing_80 : decode cL_leavesNothing 80 = .ok (.iconst 1, 1) := by decide +kernel
theorem dL_leavesNothing_81 : decode cL_leavesNothing 81 = .ok (.invokestatic 7, 3) := by decide +kernel
theorem dL_leavesNothing_84 : decode cL_leavesNothing 84 = .ok (.iload 4, 2) := by decide +kernel
theorem dL_leavesNothing_86 : decode cL_leavesNothing 86 = .ok (.iconst 2, 1) := by decide +kernel
theorem dL_leavesNothing_87 : decode cL_leavesNothing 87 = .ok (.invokestatic 7, 3) := by decide +kernel
theorem dL_leavesNothing_90 : decode cL_leavesNothing 90 = .ok (.invokevirtual 116, 3) := by decide +kernel
theorem dL_leavesNothing_93 : decode cL_leavesNothing 93 = .ok (.iconst 1, 1) := by decide +kernel
theorem dL_leavesNothing_94 : decode cL_leavesNothing 94 = .ok (.if_icmp .ge 5, 3) := by decide +kernel
theorem dL_leavesNothing_97 : decode cL_leavesNothing 97 = .ok (.iconst 0, 1) := by decide +kernel
theorem dL_leavesNothing_98 : decode cL_leavesNothing 98 = .ok (.ireturn, 1) := by decide +kernel
theorem dL_leavesNothing_99 : decode cL_leavesNothing 99 = .ok (.aload_n 0, 1) := by decide +kernel
theorem dL_leavesNothing_100 : decode cL_leavesNothing 100 = .ok (.iload_n 3, 1) := by decide +kernel
theorem dL_leavesNothing_101 : decode cL_leavesNothing 101 = .ok (.iload 4, 2) := by decide +kernel
theorem dL_leavesNothing_103 : decode cL_leavesNothing 103 = .ok (.iconst 0, 1) := by decide +kernel
theorem dL_leavesNothing_104 : decode cL_leavesNothing 104 = .ok (.invokestatic 7, 3) := by decide +kernel
theorem dL_leavesNothing_107 : decode cL_leavesNothing 107 = .ok (.iload 4, 2) := by decide +kernel
theorem dL_leavesNothing_109 : decode cL_leavesNothing 109 = .ok (.iconst 1, 1) := by decide +kernel
theorem dL_leavesNothing_110 : decode cL_leavesNothing 110 = .ok (.invokestatic 7, 3) := by decide +kernel
theorem dL_leavesNothing_113 : decode cL_leavesNothing 113 = .ok (.iload 4, 2) := by decide +kernel
theorem dL_leavesNothing_115 : decode cL_leavesNothing 115 = .ok (.iconst 2, 1) := by decide +kernel
theorem dL_leavesNothing_116 : decode cL_leavesNothing 116 = .ok (.invokestatic 7, 3) := by decide +kernel
theorem dL_leavesNothing_119 : decode cL_leavesNothing 119 = .ok (.invokevirtual 65, 3) := by decide +kernel
theorem dL_leavesNothing_122 : decode cL_leavesNothing 122 = .ok (.iload 6, 2) := by decide +kernel
theorem dL_leavesNothing_124 : decode cL_leavesNothing 124 = .ok (.if_icmp .ne 12, 3) := by decide +kernel
theorem dL_leavesNothing_127 : decode cL_leavesNothing 127 = .ok (.aload_n 0, 1) := by decide +kernel
theorem dL_leavesNothing_128 : decode cL_leavesNothing 128 = .ok (.invokevirtual 133, 3) := by decide +kernel
theorem dL_leavesNothing_131 : decode cL_leavesNothing 131 = .ok (.iload 5, 2) := by decide +kernel
theorem dL_leavesNothing_133 : decode cL_leavesNothing 133 = .ok (.if_icmp .eq 5, 3) := by decide +kernel
theorem dL_leavesNothing_136 : decode cL_leavesNothing 136 = .ok (.iconst 0, 1) := by decide +kernel
theorem dL_leavesNothing_137 : decode cL_leavesNothing 137 = .ok (.ireturn, 1) := by decide +kernel
theorem dL_leavesNothing_138 : decode cL_leavesNothing 138 = .ok (.aload_n 0, 1) := by decide +kernel
theorem dL_leavesNothing_139 : decode cL_leavesNothing 139 = .ok (.invokevirtual 137, 3) := by decide +kernel
theorem dL_leavesNothing_142 : decode cL_leavesNothing 142 = .ok (.ifCond .lt 33, 3) := by decide +kernel
theorem dL_leavesNothing_145 : decode cL_leavesNothing 145 = .ok (.aload_n 0, 1) := by decide +kernel
theorem dL_leavesNothing_146 : decode cL_leavesNothing 146 = .ok (.invokevirtual 137, 3) := by decide +kernel
theorem dL_leavesNothing_149 : decode cL_leavesNothing 149 = .ok (.ifCond .lt 26, 3) := by decide +kernel
theorem dL_leavesNothing_152 : decode cL_leavesNothing 152 = .ok (.aload_n 0, 1) := by decide +kernel
theorem dL_leavesNothing_153 : decode cL_leavesNothing 153 = .ok (.invokevirtual 133, 3) := by decide +kernel
theorem dL_leavesNothing_156 : decode cL_leavesNothing 156 = .ok (.iload 5, 2) := by decide +kernel
theorem dL_leavesNothing_158 : decode cL_leavesNothing 158 = .ok (.if_icmp .ne 17, 3) := by decide +kernel
theorem dL_leavesNothing_161 : decode cL_leavesNothing 161 = .ok (.aload_n 0, 1) := by decide +kernel
theorem dL_leavesNothing_162 : decode cL_leavesNothing 162 = .ok (.iload_n 3, 1) := by decide +kernel
theorem dL_leavesNothing_163 : decode cL_leavesNothing 163 = .ok (.invokevirtual 109, 3) := by decide +kernel
theorem dL_leavesNothing_166 : decode cL_leavesNothing 166 = .ok (.iload 6, 2) := by decide +kernel
theorem dL_leavesNothing_168 : decode cL_leavesNothing 168 = .ok (.if_icmp .ne 7, 3) := by decide +kernel
theorem dL_leavesNothing_171 : decode cL_leavesNothing 171 = .ok (.iconst 1, 1) := by decide +kernel
theorem dL_leavesNothing_172 : decode cL_leavesNothing 172 = .ok (.goto 4, 3) := by decide +kernel
theorem dL_leavesNothing_175 : decode cL_leavesNothing 175 = .ok (.iconst 0, 1) := by decide +kernel
theorem dL_leavesNothing_176 : decode cL_leavesNothing 176 = .ok (.ireturn, 1) := by decide +kernel
theorem dL_fitAll_0 : decode cL_fitAll 0 = .ok (.iconst 1, 1) := by decide +kernel
theorem dL_fitAll_1 : decode cL_fitAll 1 = .ok (.istore_n 3, 1) := by decide +kernel
theorem dL_fitAll_2 : decode cL_fitAll 2 = .ok (.iconst 0, 1) := by decide +kernel
theorem dL_fitAll_3 : decode cL_fitAll 3 = .ok (.istore 4, 2) := by decide +kernel
theorem dL_fitAll_5 : decode cL_fitAll 5 = .ok (.iload 4, 2) := by decide +kernel
theorem dL_fitAll_7 : decode cL_fitAll 7 = .ok (.iload_n 2, 1) := by decide +kernel
theorem dL_fitAll_8 : decode cL_fitAll 8 = .ok (.if_icmp .ge 23, 3) := by decide +kernel
theorem dL_fitAll_11 : decode cL_fitAll 11 = .ok (.iload_n 3, 1) := by decide +kernel
theorem dL_fitAll_12 : decode cL_fitAll 12 = .ok (.ifCond .eq 19, 3) := by decide +kernel
theorem dL_fitAll_15 : decode cL_fitAll 15 = .ok (.aload_n 0, 1) := by decide +kernel
theorem dL_fitAll_16 : decode cL_fitAll 16 = .ok (.aload_n 1, 1) := by decide +kernel
theorem dL_fitAll_17 : decode cL_fitAll 17 = .ok (.iload 4, 2) := by decide +kernel
theorem dL_fitAll_19 : decode cL_fitAll 19 = .ok (.aaload, 1) := by decide +kernel
theorem dL_fitAll_20 : decode cL_fitAll 20 = .ok (.iconst 0, 1) := by decide +kernel
theorem dL_fitAll_21 : decode cL_fitAll 21 = .ok (.invokevirtual 140, 3) := by decide +kernel
theorem dL_fitAll_24 : decode cL_fitAll 24 = .ok (.istore_n 3, 1) := by decide +kernel
theorem dL_fitAll_25 : decode cL_fitAll 25 = .ok (.iinc 4 1, 3) := by decide +kernel
theorem dL_fitAll_28 : decode cL_fitAll 28 = .ok (.goto (-23), 3) := by decide +kernel
theorem dL_fitAll_31 : decode cL_fitAll 31 = .ok (.iload_n 3, 1) := by decide +kernel
theorem dL_fitAll_32 : decode cL_fitAll 32 = .ok (.ireturn, 1) := by decide +kernel
theorem dL_drawnOrder_0 : decode cL_drawnOrder 0 = .ok (.iconst 4, 1) := by decide +kernel
theorem dL_drawnOrder_1 : decode cL_drawnOrder 1 = .ok (.newarray .int, 2) := by decide +kernel
theorem dL_drawnOrder_3 : decode cL_drawnOrder 3 = .ok (.dup, 1) := by decide +kernel
theorem dL_drawnOrder_4 : decode cL_drawnOrder 4 = .ok (.iconst 0, 1) := by decide +kernel
theorem dL_drawnOrder_5 : decode cL_drawnOrder 5 = .ok (.iconst 0, 1) := by decide +kernel
theorem dL_drawnOrder_6 : decode cL_drawnOrder 6 = .ok (.iastore, 1) := by decide +kernel
theorem dL_drawnOrder_7 : decode cL_drawnOrder 7 = .ok (.dup, 1) := by decide +kernel
theorem dL_drawnOrder_8 : decode cL_drawnOrder 8 = .ok (.iconst 1, 1) := by decide +kernel
theorem dL_drawnOrder_9 : decode cL_drawnOrder 9 = .ok (.iconst 1, 1) := by decide +kernel
theorem dL_drawnOrder_10 : decode cL_drawnOrder 10 = .ok (.iastore, 1) := by decide +kernel
theorem dL_drawnOrder_11 : decode cL_drawnOrder 11 = .ok (.dup, 1) := by decide +kernel
theorem dL_drawnOrder_12 : decode cL_drawnOrder 12 = .ok (.iconst 2, 1) := by decide +kernel
theorem dL_drawnOrder_13 : decode cL_drawnOrder 13 = .ok (.iconst 2, 1) := by decide +kernel
theorem dL_drawnOrder_14 : decode cL_drawnOrder 14 = .ok (.iastore, 1) := by decide +kernel
theorem dL_drawnOrder_15 : decode cL_drawnOrder 15 = .ok (.dup, 1) := by decide +kernel
theorem dL_drawnOrder_16 : decode cL_drawnOrder 16 = .ok (.iconst 3, 1) := by decide +kernel
theorem dL_drawnOrder_17 : decode cL_drawnOrder 17 = .ok (.iconst 3, 1) := by decide +kernel
theorem dL_drawnOrder_18 : decode cL_drawnOrder 18 = .ok (.iastore, 1) := by decide +kernel
theorem dL_drawnOrder_19 : decode cL_drawnOrder 19 = .ok (.astore_n 1, 1) := by decide +kernel
theorem dL_drawnOrder_20 : decode cL_drawnOrder 20 = .ok (.iconst 3, 1) := by decide +kernel
theorem dL_drawnOrder_21 : decode cL_drawnOrder 21 = .ok (.istore_n 2, 1) := by decide +kernel
theorem dL_drawnOrder_22 : decode cL_drawnOrder 22 = .ok (.iload_n 2, 1) := by decide +kernel
theorem dL_drawnOrder_23 : decode cL_drawnOrder 23 = .ok (.ifCond .le 33, 3) := by decide +kernel
theorem dL_drawnOrder_26 : decode cL_drawnOrder 26 = .ok (.aload_n 0, 1) := by decide +kernel
theorem dL_drawnOrder_27 : decode cL_drawnOrder 27 = .ok (.iload_n 2, 1) := by decide +kernel
theorem dL_drawnOrder_28 : decode cL_drawnOrder 28 = .ok (.iconst 1, 1) := by decide +kernel
theorem dL_drawnOrder_29 : decode cL_drawnOrder 29 = .ok (.iadd, 1) := by decide +kernel
theorem dL_drawnOrder_30 : decode cL_drawnOrder 30 = .ok (.invokevirtual 37, 3) := by decide +kernel
theorem dL_drawnOrder_33 : decode cL_drawnOrder 33 = .ok (.istore_n 3, 1) := by decide +kernel
theorem dL_drawnOrder_34 : decode cL_drawnOrder 34 = .ok (.aload_n 1, 1) := by decide +kernel
theorem dL_drawnOrder_35 : decode cL_drawnOrder 35 = .ok (.iload_n 2, 1) := by decide +kernel
theorem dL_drawnOrder_36 : decode cL_drawnOrder 36 = .ok (.iaload, 1) := by decide +kernel
theorem dL_drawnOrder_37 : decode cL_drawnOrder 37 = .ok (.istore 4, 2) := by decide +kernel
theorem dL_drawnOrder_39 : decode cL_drawnOrder 39 = .ok (.aload_n 1, 1) := by decide +kernel
theorem dL_drawnOrder_40 : decode cL_drawnOrder 40 = .ok (.iload_n 2, 1) := by decide +kernel
theorem dL_drawnOrder_41 : decode cL_drawnOrder 41 = .ok (.aload_n 1, 1) := by decide +kernel
theorem dL_drawnOrder_42 : decode cL_drawnOrder 42 = .ok (.iload_n 3, 1) := by decide +kernel
theorem dL_drawnOrder_43 : decode cL_drawnOrder 43 = .ok (.iaload, 1) := by decide +kernel
theorem dL_drawnOrder_44 : decode cL_drawnOrder 44 = .ok (.iastore, 1) := by decide +kernel
theorem dL_drawnOrder_45 : decode cL_drawnOrder 45 = .ok (.aload_n 1, 1) := by decide +kernel
theorem dL_drawnOrder_46 : decode cL_drawnOrder 46 = .ok (.iload_n 3, 1) := by decide +kernel
theorem dL_drawnOrder_47 : decode cL_drawnOrder 47 = .ok (.iload 4, 2) := by decide +kernel
theorem dL_drawnOrder_49 : decode cL_drawnOrder 49 = .ok (.iastore, 1) := by decide +kernel
theorem dL_drawnOrder_50 : decode cL_drawnOrder 50 = .ok (.iinc 2 (-1), 3) := by decide +kernel
theorem dL_drawnOrder_53 : decode cL_drawnOrder 53 = .ok (.goto (-31), 3) := by decide +kernel
theorem dL_drawnOrder_56 : decode cL_drawnOrder 56 = .ok (.sipush 1000, 3) := by decide +kernel
theorem dL_drawnOrder_59 : decode cL_drawnOrder 59 = .ok (.aload_n 1, 1) := by decide +kernel
theorem dL_drawnOrder_60 : decode cL_drawnOrder 60 = .ok (.iconst 0, 1) := by decide +kernel
theorem dL_drawnOrder_61 : decode cL_drawnOrder 61 = .ok (.iaload, 1) := by decide +kernel
theorem dL_drawnOrder_62 : decode cL_drawnOrder 62 = .ok (.imul, 1) := by decide +kernel
theorem dL_drawnOrder_63 : decode cL_drawnOrder 63 = .ok (.bipush 100, 2) := by decide +kernel
theorem dL_drawnOrder_65 : decode cL_drawnOrder 65 = .ok (.aload_n 1, 1) := by decide +kernel
theorem dL_drawnOrder_66 : decode cL_drawnOrder 66 = .ok (.iconst 1, 1) := by decide +kernel
theorem dL_drawnOrder_67 : decode cL_drawnOrder 67 = .ok (.iaload, 1) := by decide +kernel
theorem dL_drawnOrder_68 : decode cL_drawnOrder 68 = .ok (.imul, 1) := by decide +kernel
theorem dL_drawnOrder_69 : decode cL_drawnOrder 69 = .ok (.iadd, 1) := by decide +kernel
theorem dL_drawnOrder_70 : decode cL_drawnOrder 70 = .ok (.bipush 10, 2) := by decide +kernel
theorem dL_drawnOrder_72 : decode cL_drawnOrder 72 = .ok (.aload_n 1, 1) := by decide +kernel
theorem dL_drawnOrder_73 : decode cL_drawnOrder 73 = .ok (.iconst 2, 1) := by decide +kernel
theorem dL_drawnOrder_74 : decode cL_drawnOrder 74 = .ok (.iaload, 1) := by decide +kernel
theorem dL_drawnOrder_75 : decode cL_drawnOrder 75 = .ok (.imul, 1) := by decide +kernel
theorem dL_drawnOrder_76 : decode cL_drawnOrder 76 = .ok (.iadd, 1) := by decide +kernel
theorem dL_drawnOrder_77 : decode cL_drawnOrder 77 = .ok (.aload_n 1, 1) := by decide +kernel
theorem dL_drawnOrder_78 : decode cL_drawnOrder 78 = .ok (.iconst 3, 1) := by decide +kernel
theorem dL_drawnOrder_79 : decode cL_drawnOrder 79 = .ok (.iaload, 1) := by decide +kernel
theorem dL_drawnOrder_80 : decode cL_drawnOrder 80 = .ok (.iadd, 1) := by decide +kernel
theorem dL_drawnOrder_81 : decode cL_drawnOrder 81 = .ok (.ireturn, 1) := by decide +kernel
theorem dL_areAll_0 : decode cL_areAll 0 = .ok (.aload_n 0, 1) := by decide +kernel
theorem dL_areAll_1 : decode cL_areAll 1 = .ok (.iload_n 3, 1) := by decide +kernel
theorem dL_areAll_2 : decode cL_areAll 2 = .ok (.invokevirtual 144, 3) := by decide +kernel
theorem dL_areAll_5 : decode cL_areAll 5 = .ok (.iload 7, 2) := by decide +kernel
theorem dL_areAll_7 : decode cL_areAll 7 = .ok (.if_icmp .eq 5, 3) := by decide +kernel
theorem dL_areAll_10 : decode cL_areAll 10 = .ok (.iconst 0, 1) := by decide +kernel
theorem dL_areAll_11 : decode cL_areAll 11 = .ok (.ireturn, 1) := by decide +kernel
theorem dL_areAll_12 : decode cL_areAll 12 = .ok (.iconst 0, 1) := by decide +kernel
theorem dL_areAll_13 : decode cL_areAll 13 = .ok (.istore 8, 2) := by decide +kernel
theorem dL_areAll_15 : decode cL_areAll 15 = .ok (.iconst 0, 1) := by decide +kernel
theorem dL_areAll_16 : decode cL_areAll 16 = .ok (.istore 9, 2) := by decide +kernel
theorem dL_areAll_18 : decode cL_areAll 18 = .ok (.iload 9, 2) := by decide +kernel
theorem dL_areAll_20 : decode cL_areAll 20 = .ok (.iload 6, 2) := by decide +kernel
theorem dL_areAll_22 : decode cL_areAll 22 = .ok (.if_icmp .ge 24, 3) := by decide +kernel
theorem dL_areAll_25 : decode cL_areAll 25 = .ok (.iload 8, 2) := by decide +kernel
theorem dL_areAll_27 : decode cL_areAll 27 = .ok (.aload_n 1, 1) := by decide +kernel
theorem dL_areAll_28 : decode cL_areAll 28 = .ok (.aload 5, 2) := by decide +kernel
theorem dL_areAll_30 : decode cL_areAll 30 = .ok (.iload 9, 2) := by decide +kernel
theorem dL_areAll_32 : decode cL_areAll 32 = .ok (.aaload, 1) := by decide +kernel
theorem dL_areAll_33 : decode cL_areAll 33 = .ok (.iconst 0, 1) := by decide +kernel
theorem dL_areAll_34 : decode cL_areAll 34 = .ok (.invokevirtual 147, 3) := by decide +kernel
theorem dL_areAll_37 : decode cL_areAll 37 = .ok (.ior, 1) := by decide +kernel
theorem dL_areAll_38 : decode cL_areAll 38 = .ok (.istore 8, 2) := by decide +kernel
theorem dL_areAll_40 : decode cL_areAll 40 = .ok (.iinc 9 1, 3) := by decide +kernel
theorem dL_areAll_43 : decode cL_areAll 43 = .ok (.goto (-25), 3) := by decide +kernel
theorem dL_areAll_46 : decode cL_areAll 46 = .ok (.iconst (-1), 1) := by decide +kernel
theorem dL_areAll_47 : decode cL_areAll 47 = .ok (.istore 9, 2) := by decide +kernel
theorem dL_areAll_49 : decode cL_areAll 49 = .ok (.iconst 0, 1) := by decide +kernel
theorem dL_areAll_50 : decode cL_areAll 50 = .ok (.istore 10, 2) := by decide +kernel
theorem dL_areAll_52 : decode cL_areAll 52 = .ok (.iload 10, 2) := by decide +kernel
theorem dL_areAll_54 : decode cL_areAll 54 = .ok (.iload 7, 2) := by decide +kernel
theorem dL_areAll_56 : decode cL_areAll 56 = .ok (.if_icmp .ge 175, 3) := by decide +kernel
theorem dL_areAll_59 : decode cL_areAll 59 = .ok (.iload 10, 2) := by decide +kernel
theorem dL_areAll_61 : decode cL_areAll 61 = .ok (.bipush 14, 2) := by decide +kernel
theorem dL_areAll_63 : decode cL_areAll 63 = .ok (.if_icmp .ge 168, 3) := by decide +kernel
theorem dL_areAll_66 : decode cL_areAll 66 = .ok (.iconst 4, 1) := by decide +kernel
theorem dL_areAll_67 : decode cL_areAll 67 = .ok (.newarray .int, 2) := by decide +kernel
theorem dL_areAll_69 : decode cL_areAll 69 = .ok (.dup, 1) := by decide +kernel
theorem dL_areAll_70 : decode cL_areAll 70 = .ok (.iconst 0, 1) := by decide +kernel
theorem dL_areAll_71 : decode cL_areAll 71 = .ok (.iconst 0, 1) := by decide +kernel
theorem dL_areAll_72 : decode cL_areAll 72 = .ok (.iastore, 1) := by decide +kernel
theorem dL_areAll_73 : decode cL_areAll 73 = .ok (.dup, 1) := by decide +kernel
theorem dL_areAll_74 : decode cL_areAll 74 = .ok (.iconst 1, 1) := by decide +kernel
theorem dL_areAll_75 : decode cL_areAll 75 = .ok (.iconst 0, 1) := by decide +kernel
theorem dL_areAll_76 : decode cL_areAll 76 = .ok (.iastore, 1) := by decide +kernel
theorem dL_areAll_77 : decode cL_areAll 77 = .ok (.dup, 1) := by decide +kernel
theorem dL_areAll_78 : decode cL_areAll 78 = .ok (.iconst 2, 1) := by decide +kernel
theorem dL_areAll_79 : decode cL_areAll 79 = .ok (.iconst 0, 1) := by decide +kernel
theorem dL_areAll_80 : decode cL_areAll 80 = .ok (.iastore, 1) := by decide +kernel
theorem dL_areAll_81 : decode cL_areAll 81 = .ok (.dup, 1) := by decide +kernel
theorem dL_areAll_82 : decode cL_areAll 82 = .ok (.iconst 3, 1) := by decide +kernel
theorem dL_areAll_83 : decode cL_areAll 83 = .ok (.iconst 0, 1) := by decide +kernel
theorem dL_areAll_84 : decode cL_areAll 84 = .ok (.iastore, 1) := by decide +kernel
theorem dL_areAll_85 : decode cL_areAll 85 = .ok (.astore 11, 2) := by decide +kernel
theorem dL_areAll_87 : decode cL_areAll 87 = .ok (.iconst 0, 1) := by decide +kernel
theorem dL_areAll_88 : decode cL_areAll 88 = .ok (.istore 12, 2) := by decide +kernel
theorem dL_areAll_90 : decode cL_areAll 90 = .ok (.iconst 0, 1) := by decide +kernel
theorem dL_areAll_91 : decode cL_areAll 91 = .ok (.istore 13, 2) := by decide +kernel
theorem dL_areAll_93 : decode cL_areAll 93 = .ok (.sipush 1000, 3) := by decide +kernel
theorem dL_areAll_96 : decode cL_areAll 96 = .ok (.istore 14, 2) := by decide +kernel
theorem dL_areAll_98 : decode cL_areAll 98 = .ok (.iload 14, 2) := by decide +kernel
theorem dL_areAll_100 : decode cL_areAll 100 = .ok (.ifCond .le 82, 3) := by decide +kernel
theorem dL_areAll_103 : decode cL_areAll 103 = .ok (.iload 4, 2) := by decide +kernel
theorem dL_areAll_105 : decode cL_areAll 105 = .ok (.iload 14, 2) := by decide +kernel
theorem dL_areAll_107 : decode cL_areAll 107 = .ok (.idiv, 1) := by decide +kernel
theorem dL_areAll_108 : decode cL_areAll 108 = .ok (.bipush 10, 2) := by decide +kernel
theorem dL_areAll_110 : decode cL_areAll 110 = .ok (.irem, 1) := by decide +kernel
theorem dL_areAll_111 : decode cL_areAll 111 = .ok (.istore 15, 2) := by decide +kernel
theorem dL_areAll_113 : decode cL_areAll 113 = .ok (.iload 8, 2) := by decide +kernel
theorem dL_areAll_115 : decode cL_areAll 115 = .ok (.iload 15, 2) := by decide +kernel
theorem dL_areAll_117 : decode cL_areAll 117 = .ok (.ishr, 1) := by decide +kernel
theorem dL_areAll_118 : decode cL_areAll 118 = .ok (.iconst 1, 1) := by decide +kernel
theorem dL_areAll_119 : decode cL_areAll 119 = .ok (.iand, 1) := by decide +kernel
theorem dL_areAll_120 : decode cL_areAll 120 = .ok (.ifCond .ne 6, 3) := by decide +kernel
theorem dL_areAll_123 : decode cL_areAll 123 = .ok (.goto 49, 3) := by decide +kernel
theorem dL_areAll_126 : decode cL_areAll 126 = .ok (.aload_n 1, 1) := by decide +kernel
theorem dL_areAll_127 : decode cL_areAll 127 = .ok (.getfield 151, 3) := by decide +kernel
theorem dL_areAll_130 : decode cL_areAll 130 = .ok (.iload 15, 2) := by decide +kernel
theorem dL_areAll_132 : decode cL_areAll 132 = .ok (.aload_n 0, 1) := by decide +kernel
theorem dL_areAll_133 : decode cL_areAll 133 = .ok (.iload_n 3, 1) := by decide +kernel
theorem dL_areAll_134 : decode cL_areAll 134 = .ok (.iload 10, 2) := by decide +kernel
theorem dL_areAll_136 : decode cL_areAll 136 = .ok (.iload 15, 2) := by decide +kernel
theorem dL_areAll_138 : decode cL_areAll 138 = .ok (.invokevirtual 154, 3) := by decide +kernel
theorem dL_areAll_141 : decode cL_areAll 141 = .ok (.iastore, 1) := by decide +kernel
theorem dL_areAll_142 : decode cL_areAll 142 = .ok (.aload 11, 2) := by decide +kernel
theorem dL_areAll_144 : decode cL_areAll 144 = .ok (.iload 12, 2) := by decide +kernel
theorem dL_areAll_146 : decode cL_areAll 146 = .ok (.aload_n 1, 1) := by decide +kernel
theorem dL_areAll_147 : decode cL_areAll 147 = .ok (.getfield 151, 3) := by decide +kernel
theorem dL_areAll_150 : decode cL_areAll 150 = .ok (.iload 15, 2) := by decide +kernel
theorem dL_areAll_152 : decode cL_areAll 152 = .ok (.iaload, 1) := by decide +kernel
theorem dL_areAll_153 : decode cL_areAll 153 = .ok (.iastore, 1) := by decide +kernel
theorem dL_areAll_154 : decode cL_areAll 154 = .ok (.iinc 12 1, 3) := by decide +kernel
theorem dL_areAll_157 : decode cL_areAll 157 = .ok (.bipush 8, 2) := by decide +kernel
theorem dL_areAll_159 : decode cL_areAll 159 = .ok (.iload 13, 2) := by decide +kernel
theorem dL_areAll_161 : decode cL_areAll 161 = .ok (.imul, 1) := by decide +kernel
theorem dL_areAll_162 : decode cL_areAll 162 = .ok (.aload_n 1, 1) := by decide +kernel
theorem dL_areAll_163 : decode cL_areAll 163 = .ok (.getfield 151, 3) := by decide +kernel
theorem dL_areAll_166 : decode cL_areAll 166 = .ok (.iload 15, 2) := by decide +kernel
theorem dL_areAll_168 : decode cL_areAll 168 = .ok (.iaload, 1) := by decide +kernel
theorem dL_areAll_169 : decode cL_areAll 169 = .ok (.iadd, 1) := by decide +kernel
theorem dL_areAll_170 : decode cL_areAll 170 = .ok (.istore 13, 2) := by decide +kernel
theorem dL_areAll_172 : decode cL_areAll 172 = .ok (.iload 14, 2) := by decide +kernel
theorem dL_areAll_174 : decode cL_areAll 174 = .ok (.bipush 10, 2) := by decide +kernel
theorem dL_areAll_176 : decode cL_areAll 176 = .ok (.idiv, 1) := by decide +kernel
theorem dL_areAll_177 : decode cL_areAll 177 = .ok (.istore 14, 2) := by decide +kernel
theorem dL_areAll_179 : decode cL_areAll 179 = .ok (.goto (-81), 3) := by decide +kernel
theorem dL_areAll_182 : decode cL_areAll 182 = .ok (.iload 13, 2) := by decide +kernel
theorem dL_areAll_184 : decode cL_areAll 184 = .ok (.iload 9, 2) := by decide +kernel
theorem dL_areAll_186 : decode cL_areAll 186 = .ok (.if_icmp .le 33, 3) := by decide +kernel
theorem dL_areAll_189 : decode cL_areAll 189 = .ok (.aload_n 1, 1) := by decide +kernel
theorem dL_areAll_190 : decode cL_areAll 190 = .ok (.aload 5, 2) := by decide +kernel
theorem dL_areAll_192 : decode cL_areAll 192 = .ok (.iload 6, 2) := by decide +kernel
theorem dL_areAll_194 : decode cL_areAll 194 = .ok (.invokestatic 157, 3) := by decide +kernel
theorem dL_areAll_197 : decode cL_areAll 197 = .ok (.ifCond .eq 22, 3) := by decide +kernel
theorem dL_areAll_200 : decode cL_areAll 200 = .ok (.iload 10, 2) := by decide +kernel
theorem dL_areAll_202 : decode cL_areAll 202 = .ok (.iconst 5, 1) := by decide +kernel
theorem dL_areAll_203 : decode cL_areAll 203 = .ok (.irem, 1) := by decide +kernel
theorem dL_areAll_204 : decode cL_areAll 204 = .ok (.ifCond .ne 17, 3) := by decide +kernel
theorem dL_areAll_207 : decode cL_areAll 207 = .ok (.aload_n 0, 1) := by decide +kernel
theorem dL_areAll_208 : decode cL_areAll 208 = .ok (.iload_n 3, 1) := by decide +kernel
theorem dL_areAll_209 : decode cL_areAll 209 = .ok (.aload 11, 2) := by decide +kernel
theorem dL_areAll_211 : decode cL_areAll 211 = .ok (.invokestatic 161, 3) := by decide +kernel
theorem dL_areAll_214 : decode cL_areAll 214 = .ok (.iload 10, 2) := by decide +kernel
theorem dL_areAll_216 : decode cL_areAll 216 = .ok (.if_icmp .eq 5, 3) := by decide +kernel
theorem dL_areAll_219 : decode cL_areAll 219 = .ok (.iconst 0, 1) := by decide +kernel
theorem dL_areAll_220 : decode cL_areAll 220 = .ok (.ireturn, 1) := by decide +kernel
theorem dL_areAll_221 : decode cL_areAll 221 = .ok (.iload 13, 2) := by decide +kernel
theorem dL_areAll_223 : decode cL_areAll 223 = .ok (.istore 9, 2) := by decide +kernel
theorem dL_areAll_225 : decode cL_areAll 225 = .ok (.iinc 10 1, 3) := by decide +kernel
theorem dL_areAll_228 : decode cL_areAll 228 = .ok (.goto (-176), 3) := by decide +kernel
theorem dL_areAll_231 : decode cL_areAll 231 = .ok (.aload_n 2, 1) := by decide +kernel
theorem dL_areAll_232 : decode cL_areAll 232 = .ok (.iconst 4, 1) := by decide +kernel
theorem dL_areAll_233 : decode cL_areAll 233 = .ok (.invokevirtual 37, 3) := by decide +kernel
theorem dL_areAll_236 : decode cL_areAll 236 = .ok (.istore 10, 2) := by decide +kernel
theorem dL_areAll_238 : decode cL_areAll 238 = .ok (.iload 8, 2) := by decide +kernel
theorem dL_areAll_240 : decode cL_areAll 240 = .ok (.iload 10, 2) := by decide +kernel
theorem dL_areAll_242 : decode cL_areAll 242 = .ok (.ishr, 1) := by decide +kernel
theorem dL_areAll_243 : decode cL_areAll 243 = .ok (.iconst 1, 1) := by decide +kernel
theorem dL_areAll_244 : decode cL_areAll 244 = .ok (.iand, 1) := by decide +kernel
theorem dL_areAll_245 : decode cL_areAll 245 = .ok (.ifCond .ne 5, 3) := by decide +kernel
theorem dL_areAll_248 : decode cL_areAll 248 = .ok (.iconst 1, 1) := by decide +kernel
theorem dL_areAll_249 : decode cL_areAll 249 = .ok (.ireturn, 1) := by decide +kernel
theorem dL_areAll_250 : decode cL_areAll 250 = .ok (.iconst 0, 1) := by decide +kernel
theorem dL_areAll_251 : decode cL_areAll 251 = .ok (.istore 11, 2) := by decide +kernel
theorem dL_areAll_253 : decode cL_areAll 253 = .ok (.iconst 0, 1) := by decide +kernel
theorem dL_areAll_254 : decode cL_areAll 254 = .ok (.istore 12, 2) := by decide +kernel
theorem dL_areAll_256 : decode cL_areAll 256 = .ok (.iconst 0, 1) := by decide +kernel
theorem dL_areAll_257 : decode cL_areAll 257 = .ok (.istore 13, 2) := by decide +kernel
theorem dL_areAll_259 : decode cL_areAll 259 = .ok (.iload 13, 2) := by decide +kernel
theorem dL_areAll_261 : decode cL_areAll 261 = .ok (.bipush 8, 2) := by decide +kernel
theorem dL_areAll_263 : decode cL_areAll 263 = .ok (.if_icmp .ge 42, 3) := by decide +kernel
theorem dL_areAll_266 : decode cL_areAll 266 = .ok (.aload_n 0, 1) := by decide +kernel
theorem dL_areAll_267 : decode cL_areAll 267 = .ok (.iload_n 3, 1) := by decide +kernel
theorem dL_areAll_268 : decode cL_areAll 268 = .ok (.iload 10, 2) := by decide +kernel
theorem dL_areAll_270 : decode cL_areAll 270 = .ok (.iload 13, 2) := by decide +kernel
theorem dL_areAll_272 : decode cL_areAll 272 = .ok (.invokevirtual 164, 3) := by decide +kernel
theorem dL_areAll_275 : decode cL_areAll 275 = .ok (.istore 14, 2) := by decide +kernel
theorem dL_areAll_277 : decode cL_areAll 277 = .ok (.iload 11, 2) := by decide +kernel
theorem dL_areAll_279 : decode cL_areAll 279 = .ok (.iload 14, 2) := by decide +kernel
theorem dL_areAll_281 : decode cL_areAll 281 = .ok (.ifCond .le 7, 3) := by decide +kernel
theorem dL_areAll_284 : decode cL_areAll 284 = .ok (.iconst 1, 1) := by decide +kernel
theorem dL_areAll_285 : decode cL_areAll 285 = .ok (.goto 4, 3) := by decide +kernel
theorem dL_areAll_288 : decode cL_areAll 288 = .ok (.iconst 0, 1) := by decide +kernel
theorem dL_areAll_289 : decode cL_areAll 289 = .ok (.iadd, 1) := by decide +kernel
theorem dL_areAll_290 : decode cL_areAll 290 = .ok (.istore 11, 2) := by decide +kernel
theorem dL_areAll_292 : decode cL_areAll 292 = .ok (.iload 12, 2) := by decide +kernel
theorem dL_areAll_294 : decode cL_areAll 294 = .ok (.iload 14, 2) := by decide +kernel
theorem dL_areAll_296 : decode cL_areAll 296 = .ok (.iadd, 1) := by decide +kernel
theorem dL_areAll_297 : decode cL_areAll 297 = .ok (.istore 12, 2) := by decide +kernel
theorem dL_areAll_299 : decode cL_areAll 299 = .ok (.iinc 13 1, 3) := by decide +kernel
theorem dL_areAll_302 : decode cL_areAll 302 = .ok (.goto (-43), 3) := by decide +kernel
theorem dL_areAll_305 : decode cL_areAll 305 = .ok (.iload 12, 2) := by decide +kernel
theorem dL_areAll_307 : decode cL_areAll 307 = .ok (.iload 7, 2) := by decide +kernel
theorem dL_areAll_309 : decode cL_areAll 309 = .ok (.if_icmp .ne 19, 3) := by decide +kernel
theorem dL_areAll_312 : decode cL_areAll 312 = .ok (.iload 11, 2) := by decide +kernel
theorem dL_areAll_314 : decode cL_areAll 314 = .ok (.aload_n 0, 1) := by decide +kernel
theorem dL_areAll_315 : decode cL_areAll 315 = .ok (.iload_n 3, 1) := by decide +kernel
theorem dL_areAll_316 : decode cL_areAll 316 = .ok (.iload 10, 2) := by decide +kernel
theorem dL_areAll_318 : decode cL_areAll 318 = .ok (.invokevirtual 167, 3) := by decide +kernel
theorem dL_areAll_321 : decode cL_areAll 321 = .ok (.if_icmp .ne 7, 3) := by decide +kernel
theorem dL_areAll_324 : decode cL_areAll 324 = .ok (.iconst 1, 1) := by decide +kernel
theorem dL_areAll_325 : decode cL_areAll 325 = .ok (.goto 4, 3) := by decide +kernel
theorem dL_areAll_328 : decode cL_areAll 328 = .ok (.iconst 0, 1) := by decide +kernel
theorem dL_areAll_329 : decode cL_areAll 329 = .ok (.ireturn, 1) := by decide +kernel
theorem dL_asks_0 : decode cL_asks 0 = .ok (.iconst 1, 1) := by decide +kernel
theorem dL_asks_1 : decode cL_asks 1 = .ok (.aload_n 3, 1) := by decide +kernel
theorem dL_asks_2 : decode cL_asks 2 = .ok (.iconst 4, 1) := by decide +kernel
theorem dL_asks_3 : decode cL_asks 3 = .ok (.invokevirtual 37, 3) := by decide +kernel
theorem dL_asks_6 : decode cL_asks 6 = .ok (.iadd, 1) := by decide +kernel
theorem dL_asks_7 : decode cL_asks 7 = .ok (.istore 4, 2) := by decide +kernel
theorem dL_asks_9 : decode cL_asks 9 = .ok (.iload 4, 2) := by decide +kernel
theorem dL_asks_11 : decode cL_asks 11 = .ok (.iconst 4, 1) := by decide +kernel
theorem dL_asks_12 : decode cL_asks 12 = .ok (.multianewarray 170 2, 4) := by decide +kernel
theorem dL_asks_16 : decode cL_asks 16 = .ok (.astore 5, 2) := by decide +kernel
theorem dL_asks_18 : decode cL_asks 18 = .ok (.iconst 0, 1) := by decide +kernel
theorem dL_asks_19 : decode cL_asks 19 = .ok (.istore 6, 2) := by decide +kernel
theorem dL_asks_21 : decode cL_asks 21 = .ok (.iconst 0, 1) := by decide +kernel
theorem dL_asks_22 : decode cL_asks 22 = .ok (.istore 7, 2) := by decide +kernel
theorem dL_asks_24 : decode cL_asks 24 = .ok (.iload 7, 2) := by decide +kernel
theorem dL_asks_26 : decode cL_asks 26 = .ok (.iload 4, 2) := by decide +kernel
theorem dL_asks_28 : decode cL_asks 28 = .ok (.if_icmp .ge 82, 3) := by decide +kernel
theorem dL_asks_31 : decode cL_asks 31 = .ok (.aload_n 2, 1) := by decide +kernel
theorem dL_asks_32 : decode cL_asks 32 = .ok (.aload_n 3, 1) := by decide +kernel
theorem dL_asks_33 : decode cL_asks 33 = .ok (.aload 5, 2) := by decide +kernel
theorem dL_asks_35 : decode cL_asks 35 = .ok (.iload 7, 2) := by decide +kernel
theorem dL_asks_37 : decode cL_asks 37 = .ok (.aaload, 1) := by decide +kernel
theorem dL_asks_38 : decode cL_asks 38 = .ok (.iconst 0, 1) := by decide +kernel
theorem dL_asks_39 : decode cL_asks 39 = .ok (.iconst 2, 1) := by decide +kernel
theorem dL_asks_40 : decode cL_asks 40 = .ok (.aload_n 3, 1) := by decide +kernel
theorem dL_asks_41 : decode cL_asks 41 = .ok (.iconst 3, 1) := by decide +kernel
theorem dL_asks_42 : decode cL_asks 42 = .ok (.invokevirtual 37, 3) := by decide +kernel
theorem dL_asks_45 : decode cL_asks 45 = .ok (.iadd, 1) := by decide +kernel
theorem dL_asks_46 : decode cL_asks 46 = .ok (.invokestatic 88, 3) := by decide +kernel
theorem dL_asks_49 : decode cL_asks 49 = .ok (.iload 6, 2) := by decide +kernel
theorem dL_asks_51 : decode cL_asks 51 = .ok (.aload_n 2, 1) := by decide +kernel
theorem dL_asks_52 : decode cL_asks 52 = .ok (.aload 5, 2) := by decide +kernel
theorem dL_asks_54 : decode cL_asks 54 = .ok (.iload 7, 2) := by decide +kernel
theorem dL_asks_56 : decode cL_asks 56 = .ok (.aaload, 1) := by decide +kernel
theorem dL_asks_57 : decode cL_asks 57 = .ok (.iconst 0, 1) := by decide +kernel
theorem dL_asks_58 : decode cL_asks 58 = .ok (.invokevirtual 147, 3) := by decide +kernel
theorem dL_asks_61 : decode cL_asks 61 = .ok (.ior, 1) := by decide +kernel
theorem dL_asks_62 : decode cL_asks 62 = .ok (.istore 6, 2) := by decide +kernel
theorem dL_asks_64 : decode cL_asks 64 = .ok (.aload_n 0, 1) := by decide +kernel
theorem dL_asks_65 : decode cL_asks 65 = .ok (.iconst 2, 1) := by decide +kernel
theorem dL_asks_66 : decode cL_asks 66 = .ok (.aload 5, 2) := by decide +kernel
theorem dL_asks_68 : decode cL_asks 68 = .ok (.iload 7, 2) := by decide +kernel
theorem dL_asks_70 : decode cL_asks 70 = .ok (.aaload, 1) := by decide +kernel
theorem dL_asks_71 : decode cL_asks 71 = .ok (.iconst 0, 1) := by decide +kernel
theorem dL_asks_72 : decode cL_asks 72 = .ok (.iaload, 1) := by decide +kernel
theorem dL_asks_73 : decode cL_asks 73 = .ok (.aload 5, 2) := by decide +kernel
theorem dL_asks_75 : decode cL_asks 75 = .ok (.iload 7, 2) := by decide +kernel
theorem dL_asks_77 : decode cL_asks 77 = .ok (.aaload, 1) := by decide +kernel
theorem dL_asks_78 : decode cL_asks 78 = .ok (.iconst 1, 1) := by decide +kernel
theorem dL_asks_79 : decode cL_asks 79 = .ok (.iaload, 1) := by decide +kernel
theorem dL_asks_80 : decode cL_asks 80 = .ok (.aload 5, 2) := by decide +kernel
theorem dL_asks_82 : decode cL_asks 82 = .ok (.iload 7, 2) := by decide +kernel
theorem dL_asks_84 : decode cL_asks 84 = .ok (.aaload, 1) := by decide +kernel
theorem dL_asks_85 : decode cL_asks 85 = .ok (.iconst 2, 1) := by decide +kernel
theorem dL_asks_86 : decode cL_asks 86 = .ok (.iaload, 1) := by decide +kernel
theorem dL_asks_87 : decode cL_asks 87 = .ok (.aload 5, 2) := by decide +kernel
theorem dL_asks_89 : decode cL_asks 89 = .ok (.iload 7, 2) := by decide +kernel
theorem dL_asks_91 : decode cL_asks 91 = .ok (.aaload, 1) := by decide +kernel
theorem dL_asks_92 : decode cL_asks 92 = .ok (.iconst 3, 1) := by decide +kernel
theorem dL_asks_93 : decode cL_asks 93 = .ok (.iaload, 1) := by decide +kernel
theorem dL_asks_94 : decode cL_asks 94 = .ok (.invokevirtual 171, 3) := by decide +kernel
theorem dL_asks_97 : decode cL_asks 97 = .ok (.iload 7, 2) := by decide +kernel
theorem dL_asks_99 : decode cL_asks 99 = .ok (.if_icmp .eq 5, 3) := by decide +kernel
theorem dL_asks_102 : decode cL_asks 102 = .ok (.iconst 0, 1) := by decide +kernel
theorem dL_asks_103 : decode cL_asks 103 = .ok (.ireturn, 1) := by decide +kernel
theorem dL_asks_104 : decode cL_asks 104 = .ok (.iinc 7 1, 3) := by decide +kernel
theorem dL_asks_107 : decode cL_asks 107 = .ok (.goto (-83), 3) := by decide +kernel
theorem dL_asks_110 : decode cL_asks 110 = .ok (.iconst 0, 1) := by decide +kernel
theorem dL_asks_111 : decode cL_asks 111 = .ok (.istore 7, 2) := by decide +kernel
theorem dL_asks_113 : decode cL_asks 113 = .ok (.iconst 0, 1) := by decide +kernel
theorem dL_asks_114 : decode cL_asks 114 = .ok (.istore 8, 2) := by decide +kernel
theorem dL_asks_116 : decode cL_asks 116 = .ok (.aload_n 2, 1) := by decide +kernel
theorem dL_asks_117 : decode cL_asks 117 = .ok (.iload 6, 2) := by decide +kernel
theorem dL_asks_119 : decode cL_asks 119 = .ok (.iload 8, 2) := by decide +kernel
theorem dL_asks_121 : decode cL_asks 121 = .ok (.invokevirtual 174, 3) := by decide +kernel
theorem dL_asks_124 : decode cL_asks 124 = .ok (.ifCond .eq 30, 3) := by decide +kernel
theorem dL_asks_127 : decode cL_asks 127 = .ok (.iload 7, 2) := by decide +kernel
theorem dL_asks_129 : decode cL_asks 129 = .ok (.aload_n 2, 1) := by decide +kernel
theorem dL_asks_130 : decode cL_asks 130 = .ok (.aload 5, 2) := by decide +kernel
theorem dL_asks_132 : decode cL_asks 132 = .ok (.iload 4, 2) := by decide +kernel
theorem dL_asks_134 : decode cL_asks 134 = .ok (.invokestatic 157, 3) := by decide +kernel
theorem dL_asks_137 : decode cL_asks 137 = .ok (.ifCond .eq 7, 3) := by decide +kernel
theorem dL_asks_140 : decode cL_asks 140 = .ok (.iconst 1, 1) := by decide +kernel
theorem dL_asks_141 : decode cL_asks 141 = .ok (.goto 4, 3) := by decide +kernel
theorem dL_asks_144 : decode cL_asks 144 = .ok (.iconst 0, 1) := by decide +kernel
theorem dL_asks_145 : decode cL_asks 145 = .ok (.iadd, 1) := by decide +kernel
theorem dL_asks_146 : decode cL_asks 146 = .ok (.istore 7, 2) := by decide +kernel
theorem dL_asks_148 : decode cL_asks 148 = .ok (.iinc 8 1, 3) := by decide +kernel
theorem dL_asks_151 : decode cL_asks 151 = .ok (.goto (-35), 3) := by decide +kernel
theorem dL_asks_154 : decode cL_asks 154 = .ok (.aload_n 0, 1) := by decide +kernel
theorem dL_asks_155 : decode cL_asks 155 = .ok (.aload_n 2, 1) := by decide +kernel
theorem dL_asks_156 : decode cL_asks 156 = .ok (.aload_n 3, 1) := by decide +kernel
theorem dL_asks_157 : decode cL_asks 157 = .ok (.iconst 2, 1) := by decide +kernel
theorem dL_asks_158 : decode cL_asks 158 = .ok (.bipush 123, 2) := by decide +kernel
theorem dL_asks_160 : decode cL_asks 160 = .ok (.aload 5, 2) := by decide +kernel
theorem dL_asks_162 : decode cL_asks 162 = .ok (.iload 4, 2) := by decide +kernel
theorem dL_asks_164 : decode cL_asks 164 = .ok (.iload 7, 2) := by decide +kernel
theorem dL_asks_166 : decode cL_asks 166 = .ok (.invokestatic 178, 3) := by decide +kernel
theorem dL_asks_169 : decode cL_asks 169 = .ok (.ifCond .eq 12, 3) := by decide +kernel
theorem dL_asks_172 : decode cL_asks 172 = .ok (.aload_n 0, 1) := by decide +kernel
theorem dL_asks_173 : decode cL_asks 173 = .ok (.iconst 2, 1) := by decide +kernel
theorem dL_asks_174 : decode cL_asks 174 = .ok (.invokevirtual 182, 3) := by decide +kernel
theorem dL_asks_177 : decode cL_asks 177 = .ok (.iconst 1, 1) := by decide +kernel
theorem dL_asks_178 : decode cL_asks 178 = .ok (.if_icmp .ge 5, 3) := by decide +kernel
theorem dL_asks_181 : decode cL_asks 181 = .ok (.iconst 0, 1) := by decide +kernel
theorem dL_asks_182 : decode cL_asks 182 = .ok (.ireturn, 1) := by decide +kernel
theorem dL_asks_183 : decode cL_asks 183 = .ok (.aload_n 3, 1) := by decide +kernel
theorem dL_asks_184 : decode cL_asks 184 = .ok (.invokestatic 185, 3) := by decide +kernel
theorem dL_asks_187 : decode cL_asks 187 = .ok (.istore 8, 2) := by decide +kernel
theorem dL_asks_189 : decode cL_asks 189 = .ok (.aload_n 0, 1) := by decide +kernel
theorem dL_asks_190 : decode cL_asks 190 = .ok (.iconst 2, 1) := by decide +kernel
theorem dL_asks_191 : decode cL_asks 191 = .ok (.iload 8, 2) := by decide +kernel
theorem dL_asks_193 : decode cL_asks 193 = .ok (.invokevirtual 189, 3) := by decide +kernel
theorem dL_asks_196 : decode cL_asks 196 = .ok (.bipush 123, 2) := by decide +kernel
theorem dL_asks_198 : decode cL_asks 198 = .ok (.if_icmp .ne 21, 3) := by decide +kernel
theorem dL_asks_201 : decode cL_asks 201 = .ok (.aload_n 0, 1) := by decide +kernel
theorem dL_asks_202 : decode cL_asks 202 = .ok (.aload_n 2, 1) := by decide +kernel
theorem dL_asks_203 : decode cL_asks 203 = .ok (.aload_n 3, 1) := by decide +kernel
theorem dL_asks_204 : decode cL_asks 204 = .ok (.iconst 2, 1) := by decide +kernel
theorem dL_asks_205 : decode cL_asks 205 = .ok (.iload 8, 2) := by decide +kernel
theorem dL_asks_207 : decode cL_asks 207 = .ok (.aload 5, 2) := by decide +kernel
theorem dL_asks_209 : decode cL_asks 209 = .ok (.iload 4, 2) := by decide +kernel
theorem dL_asks_211 : decode cL_asks 211 = .ok (.iload 7, 2) := by decide +kernel
theorem dL_asks_213 : decode cL_asks 213 = .ok (.invokestatic 178, 3) := by decide +kernel
theorem dL_asks_216 : decode cL_asks 216 = .ok (.ifCond .ne 5, 3) := by decide +kernel
theorem dL_asks_219 : decode cL_asks 219 = .ok (.iconst 0, 1) := by decide +kernel
theorem dL_asks_220 : decode cL_asks 220 = .ok (.ireturn, 1) := by decide +kernel
theorem dL_asks_221 : decode cL_asks 221 = .ok (.iconst 0, 1) := by decide +kernel
theorem dL_asks_222 : decode cL_asks 222 = .ok (.istore 9, 2) := by decide +kernel
theorem dL_asks_224 : decode cL_asks 224 = .ok (.iload 4, 2) := by decide +kernel
theorem dL_asks_226 : decode cL_asks 226 = .ok (.iconst 1, 1) := by decide +kernel
theorem dL_asks_227 : decode cL_asks 227 = .ok (.isub, 1) := by decide +kernel
theorem dL_asks_228 : decode cL_asks 228 = .ok (.istore 10, 2) := by decide +kernel
theorem dL_asks_230 : decode cL_asks 230 = .ok (.iload 10, 2) := by decide +kernel
theorem dL_asks_232 : decode cL_asks 232 = .ok (.ifCond .lt 47, 3) := by decide +kernel
theorem dL_asks_235 : decode cL_asks 235 = .ok (.iload 9, 2) := by decide +kernel
theorem dL_asks_237 : decode cL_asks 237 = .ok (.aload_n 1, 1) := by decide +kernel
theorem dL_asks_238 : decode cL_asks 238 = .ok (.iconst 3, 1) := by decide +kernel
theorem dL_asks_239 : decode cL_asks 239 = .ok (.aload 5, 2) := by decide +kernel
theorem dL_asks_241 : decode cL_asks 241 = .ok (.iload 10, 2) := by decide +kernel
theorem dL_asks_243 : decode cL_asks 243 = .ok (.aaload, 1) := by decide +kernel
theorem dL_asks_244 : decode cL_asks 244 = .ok (.iconst 0, 1) := by decide +kernel
theorem dL_asks_245 : decode cL_asks 245 = .ok (.iaload, 1) := by decide +kernel
theorem dL_asks_246 : decode cL_asks 246 = .ok (.aload 5, 2) := by decide +kernel
theorem dL_asks_248 : decode cL_asks 248 = .ok (.iload 10, 2) := by decide +kernel
theorem dL_asks_250 : decode cL_asks 250 = .ok (.aaload, 1) := by decide +kernel
theorem dL_asks_251 : decode cL_asks 251 = .ok (.iconst 1, 1) := by decide +kernel
theorem dL_asks_252 : decode cL_asks 252 = .ok (.iaload, 1) := by decide +kernel
theorem dL_asks_253 : decode cL_asks 253 = .ok (.aload 5, 2) := by decide +kernel
theorem dL_asks_255 : decode cL_asks 255 = .ok (.iload 10, 2) := by decide +kernel
theorem dL_asks_257 : decode cL_asks 257 = .ok (.aaload, 1) := by decide +kernel
theorem dL_asks_258 : decode cL_asks 258 = .ok (.iconst 2, 1) := by decide +kernel
theorem dL_asks_259 : decode cL_asks 259 = .ok (.iaload, 1) := by decide +kernel
theorem dL_asks_260 : decode cL_asks 260 = .ok (.aload 5, 2) := by decide +kernel
theorem dL_asks_262 : decode cL_asks 262 = .ok (.iload 10, 2) := by decide +kernel
theorem dL_asks_264 : decode cL_asks 264 = .ok (.aaload, 1) := by decide +kernel
theorem dL_asks_265 : decode cL_asks 265 = .ok (.iconst 3, 1) := by decide +kernel
theorem dL_asks_266 : decode cL_asks 266 = .ok (.iaload, 1) := by decide +kernel
theorem dL_asks_267 : decode cL_asks 267 = .ok (.invokevirtual 171, 3) := by decide +kernel
theorem dL_asks_270 : decode cL_asks 270 = .ok (.iadd, 1) := by decide +kernel
theorem dL_asks_271 : decode cL_asks 271 = .ok (.istore 9, 2) := by decide +kernel
theorem dL_asks_273 : decode cL_asks 273 = .ok (.iinc 10 (-1), 3) := by decide +kernel
theorem dL_asks_276 : decode cL_asks 276 = .ok (.goto (-46), 3) := by decide +kernel
theorem dL_asks_279 : decode cL_asks 279 = .ok (.iload 9, 2) := by decide +kernel
theorem dL_asks_281 : decode cL_asks 281 = .ok (.aload_n 1, 1) := by decide +kernel
theorem dL_asks_282 : decode cL_asks 282 = .ok (.iconst 3, 1) := by decide +kernel
theorem dL_asks_283 : decode cL_asks 283 = .ok (.aload 5, 2) := by decide +kernel
theorem dL_asks_285 : decode cL_asks 285 = .ok (.iconst 0, 1) := by decide +kernel
theorem dL_asks_286 : decode cL_asks 286 = .ok (.aaload, 1) := by decide +kernel
theorem dL_asks_287 : decode cL_asks 287 = .ok (.iconst 0, 1) := by decide +kernel
theorem dL_asks_288 : decode cL_asks 288 = .ok (.iaload, 1) := by decide +kernel
theorem dL_asks_289 : decode cL_asks 289 = .ok (.aload 5, 2) := by decide +kernel
theorem dL_asks_291 : decode cL_asks 291 = .ok (.iconst 0, 1) := by decide +kernel
theorem dL_asks_292 : decode cL_asks 292 = .ok (.aaload, 1) := by decide +kernel
theorem dL_asks_293 : decode cL_asks 293 = .ok (.iconst 1, 1) := by decide +kernel
theorem dL_asks_294 : decode cL_asks 294 = .ok (.iaload, 1) := by decide +kernel
theorem dL_asks_295 : decode cL_asks 295 = .ok (.aload 5, 2) := by decide +kernel
theorem dL_asks_297 : decode cL_asks 297 = .ok (.iconst 0, 1) := by decide +kernel
theorem dL_asks_298 : decode cL_asks 298 = .ok (.aaload, 1) := by decide +kernel
theorem dL_asks_299 : decode cL_asks 299 = .ok (.iconst 2, 1) := by decide +kernel
theorem dL_asks_300 : decode cL_asks 300 = .ok (.iaload, 1) := by decide +kernel
theorem dL_asks_301 : decode cL_asks 301 = .ok (.aload 5, 2) := by decide +kernel
theorem dL_asks_303 : decode cL_asks 303 = .ok (.iconst 0, 1) := by decide +kernel
theorem dL_asks_304 : decode cL_asks 304 = .ok (.aaload, 1) := by decide +kernel
theorem dL_asks_305 : decode cL_asks 305 = .ok (.iconst 3, 1) := by decide +kernel
theorem dL_asks_306 : decode cL_asks 306 = .ok (.iaload, 1) := by decide +kernel
theorem dL_asks_307 : decode cL_asks 307 = .ok (.invokevirtual 171, 3) := by decide +kernel
theorem dL_asks_310 : decode cL_asks 310 = .ok (.iadd, 1) := by decide +kernel
theorem dL_asks_311 : decode cL_asks 311 = .ok (.istore 9, 2) := by decide +kernel
theorem dL_asks_313 : decode cL_asks 313 = .ok (.aload_n 1, 1) := by decide +kernel
theorem dL_asks_314 : decode cL_asks 314 = .ok (.aload_n 2, 1) := by decide +kernel
theorem dL_asks_315 : decode cL_asks 315 = .ok (.aload_n 3, 1) := by decide +kernel
theorem dL_asks_316 : decode cL_asks 316 = .ok (.iconst 3, 1) := by decide +kernel
theorem dL_asks_317 : decode cL_asks 317 = .ok (.bipush 123, 2) := by decide +kernel
theorem dL_asks_319 : decode cL_asks 319 = .ok (.aload 5, 2) := by decide +kernel
theorem dL_asks_321 : decode cL_asks 321 = .ok (.iload 4, 2) := by decide +kernel
theorem dL_asks_323 : decode cL_asks 323 = .ok (.iload 7, 2) := by decide +kernel
theorem dL_asks_325 : decode cL_asks 325 = .ok (.invokestatic 178, 3) := by decide +kernel
theorem dL_asks_328 : decode cL_asks 328 = .ok (.ifCond .ne 5, 3) := by decide +kernel
theorem dL_asks_331 : decode cL_asks 331 = .ok (.iconst 0, 1) := by decide +kernel
theorem dL_asks_332 : decode cL_asks 332 = .ok (.ireturn, 1) := by decide +kernel
theorem dL_asks_333 : decode cL_asks 333 = .ok (.aload_n 0, 1) := by decide +kernel
theorem dL_asks_334 : decode cL_asks 334 = .ok (.iconst 2, 1) := by decide +kernel
theorem dL_asks_335 : decode cL_asks 335 = .ok (.invokevirtual 192, 3) := by decide +kernel
theorem dL_asks_338 : decode cL_asks 338 = .ok (.lstore 10, 2) := by decide +kernel
theorem dL_asks_340 : decode cL_asks 340 = .ok (.iload 7, 2) := by decide +kernel
theorem dL_asks_342 : decode cL_asks 342 = .ok (.i2l, 1) := by decide +kernel
theorem dL_asks_343 : decode cL_asks 343 = .ok (.iload 7, 2) := by decide +kernel
theorem dL_asks_345 : decode cL_asks 345 = .ok (.i2l, 1) := by decide +kernel
theorem dL_asks_346 : decode cL_asks 346 = .ok (.lmul, 1) := by decide +kernel
theorem dL_asks_347 : decode cL_asks 347 = .ok (.lload 10, 2) := by decide +kernel
theorem dL_asks_349 : decode cL_asks 349 = .ok (.lcmp, 1) := by decide +kernel
theorem dL_asks_350 : decode cL_asks 350 = .ok (.ifCond .gt 35, 3) := by decide +kernel
theorem dL_asks_353 : decode cL_asks 353 = .ok (.aload_n 0, 1) := by decide +kernel
theorem dL_asks_354 : decode cL_asks 354 = .ok (.iconst 2, 1) := by decide +kernel
theorem dL_asks_355 : decode cL_asks 355 = .ok (.invokevirtual 196, 3) := by decide +kernel
theorem dL_asks_358 : decode cL_asks 358 = .ok (.iconst 2, 1) := by decide +kernel
theorem dL_asks_359 : decode cL_asks 359 = .ok (.if_icmp .lt 26, 3) := by decide +kernel
theorem dL_asks_362 : decode cL_asks 362 = .ok (.aload_n 0, 1) := by decide +kernel
theorem dL_asks_363 : decode cL_asks 363 = .ok (.iconst 2, 1) := by decide +kernel
theorem dL_asks_364 : decode cL_asks 364 = .ok (.invokevirtual 196, 3) := by decide +kernel
theorem dL_asks_367 : decode cL_asks 367 = .ok (.iconst 2, 1) := by decide +kernel
theorem dL_asks_368 : decode cL_asks 368 = .ok (.iload 4, 2) := by decide +kernel
theorem dL_asks_370 : decode cL_asks 370 = .ok (.imul, 1) := by decide +kernel
theorem dL_asks_371 : decode cL_asks 371 = .ok (.if_icmp .gt 14, 3) := by decide +kernel
theorem dL_asks_374 : decode cL_asks 374 = .ok (.aload_n 1, 1) := by decide +kernel
theorem dL_asks_375 : decode cL_asks 375 = .ok (.iconst 3, 1) := by decide +kernel
theorem dL_asks_376 : decode cL_asks 376 = .ok (.invokevirtual 192, 3) := by decide +kernel
theorem dL_asks_379 : decode cL_asks 379 = .ok (.lload 10, 2) := by decide +kernel
theorem dL_asks_381 : decode cL_asks 381 = .ok (.lcmp, 1) := by decide +kernel
theorem dL_asks_382 : decode cL_asks 382 = .ok (.ifCond .le 5, 3) := by decide +kernel
theorem dL_asks_385 : decode cL_asks 385 = .ok (.iconst 0, 1) := by decide +kernel
theorem dL_asks_386 : decode cL_asks 386 = .ok (.ireturn, 1) := by decide +kernel
theorem dL_asks_387 : decode cL_asks 387 = .ok (.aload_n 0, 1) := by decide +kernel
theorem dL_asks_388 : decode cL_asks 388 = .ok (.iconst 2, 1) := by decide +kernel
theorem dL_asks_389 : decode cL_asks 389 = .ok (.invokevirtual 199, 3) := by decide +kernel
theorem dL_asks_392 : decode cL_asks 392 = .ok (.aload_n 1, 1) := by decide +kernel
theorem dL_asks_393 : decode cL_asks 393 = .ok (.iconst 3, 1) := by decide +kernel
theorem dL_asks_394 : decode cL_asks 394 = .ok (.invokevirtual 199, 3) := by decide +kernel
theorem dL_asks_397 : decode cL_asks 397 = .ok (.if_icmp .eq 5, 3) := by decide +kernel
theorem dL_asks_400 : decode cL_asks 400 = .ok (.iconst 0, 1) := by decide +kernel
theorem dL_asks_401 : decode cL_asks 401 = .ok (.ireturn, 1) := by decide +kernel
theorem dL_asks_402 : decode cL_asks 402 = .ok (.aload_n 3, 1) := by decide +kernel
theorem dL_asks_403 : decode cL_asks 403 = .ok (.iload 4, 2) := by decide +kernel
theorem dL_asks_405 : decode cL_asks 405 = .ok (.invokevirtual 37, 3) := by decide +kernel
theorem dL_asks_408 : decode cL_asks 408 = .ok (.istore 12, 2) := by decide +kernel
theorem dL_asks_410 : decode cL_asks 410 = .ok (.aload_n 0, 1) := by decide +kernel
theorem dL_asks_411 : decode cL_asks 411 = .ok (.iconst 2, 1) := by decide +kernel
theorem dL_asks_412 : decode cL_asks 412 = .ok (.iload 12, 2) := by decide +kernel
theorem dL_asks_414 : decode cL_asks 414 = .ok (.invokevirtual 203, 3) := by decide +kernel
theorem dL_asks_417 : decode cL_asks 417 = .ok (.istore 13, 2) := by decide +kernel
theorem dL_asks_419 : decode cL_asks 419 = .ok (.aload_n 2, 1) := by decide +kernel
theorem dL_asks_420 : decode cL_asks 420 = .ok (.aload 5, 2) := by decide +kernel
theorem dL_asks_422 : decode cL_asks 422 = .ok (.iload 12, 2) := by decide +kernel
theorem dL_asks_424 : decode cL_asks 424 = .ok (.aaload, 1) := by decide +kernel
theorem dL_asks_425 : decode cL_asks 425 = .ok (.iconst 0, 1) := by decide +kernel
theorem dL_asks_426 : decode cL_asks 426 = .ok (.iaload, 1) := by decide +kernel
theorem dL_asks_427 : decode cL_asks 427 = .ok (.invokevirtual 108, 3) := by decide +kernel
theorem dL_asks_430 : decode cL_asks 430 = .ok (.istore 14, 2) := by decide +kernel
theorem dL_asks_432 : decode cL_asks 432 = .ok (.iload 7, 2) := by decide +kernel
theorem dL_asks_434 : decode cL_asks 434 = .ok (.ifCond .ne 18, 3) := by decide +kernel
theorem dL_asks_437 : decode cL_asks 437 = .ok (.iload 13, 2) := by decide +kernel
theorem dL_asks_439 : decode cL_asks 439 = .ok (.iload 14, 2) := by decide +kernel
theorem dL_asks_441 : decode cL_asks 441 = .ok (.if_icmp .ne 7, 3) := by decide +kernel
theorem dL_asks_444 : decode cL_asks 444 = .ok (.iconst 1, 1) := by decide +kernel
theorem dL_asks_445 : decode cL_asks 445 = .ok (.goto 19, 3) := by decide +kernel
theorem dL_asks_448 : decode cL_asks 448 = .ok (.iconst 0, 1) := by decide +kernel
theorem dL_asks_449 : decode cL_asks 449 = .ok (.goto 15, 3) := by decide +kernel
theorem dL_asks_452 : decode cL_asks 452 = .ok (.iload 13, 2) := by decide +kernel
theorem dL_asks_454 : decode cL_asks 454 = .ok (.iload 14, 2) := by decide +kernel
theorem dL_asks_456 : decode cL_asks 456 = .ok (.if_icmp .ge 7, 3) := by decide +kernel
theorem dL_asks_459 : decode cL_asks 459 = .ok (.iconst 1, 1) := by decide +kernel
theorem dL_asks_460 : decode cL_asks 460 = .ok (.goto 4, 3) := by decide +kernel
theorem dL_asks_463 : decode cL_asks 463 = .ok (.iconst 0, 1) := by decide +kernel
theorem dL_asks_464 : decode cL_asks 464 = .ok (.ireturn, 1) := by decide +kernel
theorem dL_clears_0 : decode cL_clears 0 = .ok (.aload_n 1, 1) := by decide +kernel
theorem dL_clears_1 : decode cL_clears 1 = .ok (.getfield 68, 3) := by decide +kernel
theorem dL_clears_4 : decode cL_clears 4 = .ok (.ifCond .le 27, 3) := by decide +kernel
theorem dL_clears_7 : decode cL_clears 7 = .ok (.aload_n 1, 1) := by decide +kernel
theorem dL_clears_8 : decode cL_clears 8 = .ok (.dup, 1) := by decide +kernel
theorem dL_clears_9 : decode cL_clears 9 = .ok (.getfield 68, 3) := by decide +kernel
theorem dL_clears_12 : decode cL_clears 12 = .ok (.iconst 1, 1) := by decide +kernel
theorem dL_clears_13 : decode cL_clears 13 = .ok (.isub, 1) := by decide +kernel
theorem dL_clears_14 : decode cL_clears 14 = .ok (.putfield 68, 3) := by decide +kernel
theorem dL_clears_17 : decode cL_clears 17 = .ok (.aload_n 0, 1) := by decide +kernel
theorem dL_clears_18 : decode cL_clears 18 = .ok (.iconst 0, 1) := by decide +kernel
theorem dL_clears_19 : decode cL_clears 19 = .ok (.invokevirtual 85, 3) := by decide +kernel
theorem dL_clears_22 : decode cL_clears 22 = .ok (.aload_n 1, 1) := by decide +kernel
theorem dL_clears_23 : decode cL_clears 23 = .ok (.getfield 68, 3) := by decide +kernel
theorem dL_clears_26 : decode cL_clears 26 = .ok (.if_icmp .eq (-26), 3) := by decide +kernel
theorem dL_clears_29 : decode cL_clears 29 = .ok (.iconst 0, 1) := by decide +kernel
theorem dL_clears_30 : decode cL_clears 30 = .ok (.ireturn, 1) := by decide +kernel
theorem dL_clears_31 : decode cL_clears 31 = .ok (.aload_n 1, 1) := by decide +kernel
theorem dL_clears_32 : decode cL_clears 32 = .ok (.invokevirtual 102, 3) := by decide +kernel
theorem dL_clears_35 : decode cL_clears 35 = .ok (.iconst 5, 1) := by decide +kernel
theorem dL_clears_36 : decode cL_clears 36 = .ok (.iconst 4, 1) := by decide +kernel
theorem dL_clears_37 : decode cL_clears 37 = .ok (.multianewarray 170 2, 4) := by decide +kernel
theorem dL_clears_41 : decode cL_clears 41 = .ok (.astore_n 3, 1) := by decide +kernel
theorem dL_clears_42 : decode cL_clears 42 = .ok (.iconst 0, 1) := by decide +kernel
theorem dL_clears_43 : decode cL_clears 43 = .ok (.istore 4, 2) := by decide +kernel
theorem dL_clears_45 : decode cL_clears 45 = .ok (.iconst 0, 1) := by decide +kernel
theorem dL_clears_46 : decode cL_clears 46 = .ok (.istore 5, 2) := by decide +kernel
theorem dL_clears_48 : decode cL_clears 48 = .ok (.aload_n 2, 1) := by decide +kernel
theorem dL_clears_49 : decode cL_clears 49 = .ok (.iconst 2, 1) := by decide +kernel
theorem dL_clears_50 : decode cL_clears 50 = .ok (.invokevirtual 37, 3) := by decide +kernel
theorem dL_clears_53 : decode cL_clears 53 = .ok (.istore 6, 2) := by decide +kernel
theorem dL_clears_55 : decode cL_clears 55 = .ok (.iload 6, 2) := by decide +kernel
theorem dL_clears_57 : decode cL_clears 57 = .ok (.aload_n 1, 1) := by decide +kernel
theorem dL_clears_58 : decode cL_clears 58 = .ok (.getfield 43, 3) := by decide +kernel
theorem dL_clears_61 : decode cL_clears 61 = .ok (.if_icmp .ge 117, 3) := by decide +kernel
theorem dL_clears_64 : decode cL_clears 64 = .ok (.iload 4, 2) := by decide +kernel
theorem dL_clears_66 : decode cL_clears 66 = .ok (.ifCond .le 14, 3) := by decide +kernel
theorem dL_clears_69 : decode cL_clears 69 = .ok (.aload_n 2, 1) := by decide +kernel
theorem dL_clears_70 : decode cL_clears 70 = .ok (.iconst 4, 1) := by decide +kernel
theorem dL_clears_71 : decode cL_clears 71 = .ok (.invokevirtual 37, 3) := by decide +kernel
theorem dL_clears_74 : decode cL_clears 74 = .ok (.ifCond .ne 6, 3) := by decide +kernel
theorem dL_clears_77 : decode cL_clears 77 = .ok (.goto 95, 3) := by decide +kernel
theorem dL_clears_80 : decode cL_clears 80 = .ok (.aload_n 3, 1) := by decide +kernel
theorem dL_clears_81 : decode cL_clears 81 = .ok (.iload 4, 2) := by decide +kernel
theorem dL_clears_83 : decode cL_clears 83 = .ok (.aaload, 1) := by decide +kernel
theorem dL_clears_84 : decode cL_clears 84 = .ok (.iconst 0, 1) := by decide +kernel
theorem dL_clears_85 : decode cL_clears 85 = .ok (.iload 6, 2) := by decide +kernel
theorem dL_clears_87 : decode cL_clears 87 = .ok (.iastore, 1) := by decide +kernel
theorem dL_clears_88 : decode cL_clears 88 = .ok (.iconst 0, 1) := by decide +kernel
theorem dL_clears_89 : decode cL_clears 89 = .ok (.istore 7, 2) := by decide +kernel
theorem dL_clears_91 : decode cL_clears 91 = .ok (.iload 7, 2) := by decide +kernel
theorem dL_clears_93 : decode cL_clears 93 = .ok (.aload_n 1, 1) := by decide +kernel
theorem dL_clears_94 : decode cL_clears 94 = .ok (.getfield 31, 3) := by decide +kernel
theorem dL_clears_97 : decode cL_clears 97 = .ok (.iload 6, 2) := by decide +kernel
theorem dL_clears_99 : decode cL_clears 99 = .ok (.iaload, 1) := by decide +kernel
theorem dL_clears_100 : decode cL_clears 100 = .ok (.if_icmp .ge 23, 3) := by decide +kernel
theorem dL_clears_103 : decode cL_clears 103 = .ok (.aload_n 3, 1) := by decide +kernel
theorem dL_clears_104 : decode cL_clears 104 = .ok (.iload 4, 2) := by decide +kernel
theorem dL_clears_106 : decode cL_clears 106 = .ok (.aaload, 1) := by decide +kernel
theorem dL_clears_107 : decode cL_clears 107 = .ok (.iconst 1, 1) := by decide +kernel
theorem dL_clears_108 : decode cL_clears 108 = .ok (.iload 7, 2) := by decide +kernel
theorem dL_clears_110 : decode cL_clears 110 = .ok (.iadd, 1) := by decide +kernel
theorem dL_clears_111 : decode cL_clears 111 = .ok (.aload_n 2, 1) := by decide +kernel
theorem dL_clears_112 : decode cL_clears 112 = .ok (.iconst 3, 1) := by decide +kernel
theorem dL_clears_113 : decode cL_clears 113 = .ok (.invokevirtual 37, 3) := by decide +kernel
theorem dL_clears_116 : decode cL_clears 116 = .ok (.iastore, 1) := by decide +kernel
theorem dL_clears_117 : decode cL_clears 117 = .ok (.iinc 7 1, 3) := by decide +kernel
theorem dL_clears_120 : decode cL_clears 120 = .ok (.goto (-29), 3) := by decide +kernel
theorem dL_clears_123 : decode cL_clears 123 = .ok (.iload 5, 2) := by decide +kernel
theorem dL_clears_125 : decode cL_clears 125 = .ok (.aload_n 1, 1) := by decide +kernel
theorem dL_clears_126 : decode cL_clears 126 = .ok (.aload_n 3, 1) := by decide +kernel
theorem dL_clears_127 : decode cL_clears 127 = .ok (.iload 4, 2) := by decide +kernel
theorem dL_clears_129 : decode cL_clears 129 = .ok (.aaload, 1) := by decide +kernel
theorem dL_clears_130 : decode cL_clears 130 = .ok (.iconst 0, 1) := by decide +kernel
theorem dL_clears_131 : decode cL_clears 131 = .ok (.invokevirtual 147, 3) := by decide +kernel
theorem dL_clears_134 : decode cL_clears 134 = .ok (.ior, 1) := by decide +kernel
theorem dL_clears_135 : decode cL_clears 135 = .ok (.istore 5, 2) := by decide +kernel
theorem dL_clears_137 : decode cL_clears 137 = .ok (.aload_n 0, 1) := by decide +kernel
theorem dL_clears_138 : decode cL_clears 138 = .ok (.iconst 3, 1) := by decide +kernel
theorem dL_clears_139 : decode cL_clears 139 = .ok (.iload 6, 2) := by decide +kernel
theorem dL_clears_141 : decode cL_clears 141 = .ok (.aload_n 3, 1) := by decide +kernel
theorem dL_clears_142 : decode cL_clears 142 = .ok (.iload 4, 2) := by decide +kernel
theorem dL_clears_144 : decode cL_clears 144 = .ok (.aaload, 1) := by decide +kernel
theorem dL_clears_145 : decode cL_clears 145 = .ok (.iconst 1, 1) := by decide +kernel
theorem dL_clears_146 : decode cL_clears 146 = .ok (.iaload, 1) := by decide +kernel
theorem dL_clears_147 : decode cL_clears 147 = .ok (.aload_n 3, 1) := by decide +kernel
theorem dL_clears_148 : decode cL_clears 148 = .ok (.iload 4, 2) := by decide +kernel
theorem dL_clears_150 : decode cL_clears 150 = .ok (.aaload, 1) := by decide +kernel
theorem dL_clears_151 : decode cL_clears 151 = .ok (.iconst 2, 1) := by decide +kernel
theorem dL_clears_152 : decode cL_clears 152 = .ok (.iaload, 1) := by decide +kernel
theorem dL_clears_153 : decode cL_clears 153 = .ok (.aload_n 3, 1) := by decide +kernel
theorem dL_clears_154 : decode cL_clears 154 = .ok (.iload 4, 2) := by decide +kernel
theorem dL_clears_156 : decode cL_clears 156 = .ok (.aaload, 1) := by decide +kernel
theorem dL_clears_157 : decode cL_clears 157 = .ok (.iconst 3, 1) := by decide +kernel
theorem dL_clears_158 : decode cL_clears 158 = .ok (.iaload, 1) := by decide +kernel
theorem dL_clears_159 : decode cL_clears 159 = .ok (.invokevirtual 171, 3) := by decide +kernel
theorem dL_clears_162 : decode cL_clears 162 = .ok (.iload 4, 2) := by decide +kernel
theorem dL_clears_164 : decode cL_clears 164 = .ok (.if_icmp .eq 5, 3) := by decide +kernel
theorem dL_clears_167 : decode cL_clears 167 = .ok (.iconst 0, 1) := by decide +kernel
theorem dL_clears_168 : decode cL_clears 168 = .ok (.ireturn, 1) := by decide +kernel
theorem dL_clears_169 : decode cL_clears 169 = .ok (.iinc 4 1, 3) := by decide +kernel
theorem dL_clears_172 : decode cL_clears 172 = .ok (.iinc 6 1, 3) := by decide +kernel
theorem dL_clears_175 : decode cL_clears 175 = .ok (.goto (-120), 3) := by decide +kernel
theorem dL_clears_178 : decode cL_clears 178 = .ok (.iconst 0, 1) := by decide +kernel
theorem dL_clears_179 : decode cL_clears 179 = .ok (.istore 6, 2) := by decide +kernel
theorem dL_clears_181 : decode cL_clears 181 = .ok (.iconst 0, 1) := by decide +kernel
theorem dL_clears_182 : decode cL_clears 182 = .ok (.istore 7, 2) := by decide +kernel
theorem dL_clears_184 : decode cL_clears 184 = .ok (.aload_n 1, 1) := by decide +kernel
theorem dL_clears_185 : decode cL_clears 185 = .ok (.iload 5, 2) := by decide +kernel
theorem dL_clears_187 : decode cL_clears 187 = .ok (.iload 7, 2) := by decide +kernel
theorem dL_clears_189 : decode cL_clears 189 = .ok (.invokevirtual 174, 3) := by decide +kernel
theorem dL_clears_192 : decode cL_clears 192 = .ok (.ifCond .eq 29, 3) := by decide +kernel
theorem dL_clears_195 : decode cL_clears 195 = .ok (.iload 6, 2) := by decide +kernel
theorem dL_clears_197 : decode cL_clears 197 = .ok (.aload_n 1, 1) := by decide +kernel
theorem dL_clears_198 : decode cL_clears 198 = .ok (.aload_n 3, 1) := by decide +kernel
theorem dL_clears_199 : decode cL_clears 199 = .ok (.iload 4, 2) := by decide +kernel
theorem dL_clears_201 : decode cL_clears 201 = .ok (.invokestatic 157, 3) := by decide +kernel
theorem dL_clears_204 : decode cL_clears 204 = .ok (.ifCond .eq 7, 3) := by decide +kernel
theorem dL_clears_207 : decode cL_clears 207 = .ok (.iconst 1, 1) := by decide +kernel
theorem dL_clears_208 : decode cL_clears 208 = .ok (.goto 4, 3) := by decide +kernel
theorem dL_clears_211 : decode cL_clears 211 = .ok (.iconst 0, 1) := by decide +kernel
theorem dL_clears_212 : decode cL_clears 212 = .ok (.iadd, 1) := by decide +kernel
theorem dL_clears_213 : decode cL_clears 213 = .ok (.istore 6, 2) := by decide +kernel
theorem dL_clears_215 : decode cL_clears 215 = .ok (.iinc 7 1, 3) := by decide +kernel
theorem dL_clears_218 : decode cL_clears 218 = .ok (.goto (-34), 3) := by decide +kernel
theorem dL_clears_221 : decode cL_clears 221 = .ok (.aload_n 0, 1) := by decide +kernel
theorem dL_clears_222 : decode cL_clears 222 = .ok (.aload_n 1, 1) := by decide +kernel
theorem dL_clears_223 : decode cL_clears 223 = .ok (.aload_n 2, 1) := by decide +kernel
theorem dL_clears_224 : decode cL_clears 224 = .ok (.iconst 3, 1) := by decide +kernel
theorem dL_clears_225 : decode cL_clears 225 = .ok (.bipush 123, 2) := by decide +kernel
theorem dL_clears_227 : decode cL_clears 227 = .ok (.aload_n 3, 1) := by decide +kernel
theorem dL_clears_228 : decode cL_clears 228 = .ok (.iload 4, 2) := by decide +kernel
theorem dL_clears_230 : decode cL_clears 230 = .ok (.iload 6, 2) := by decide +kernel
theorem dL_clears_232 : decode cL_clears 232 = .ok (.invokestatic 178, 3) := by decide +kernel
theorem dL_clears_235 : decode cL_clears 235 = .ok (.ifCond .ne 5, 3) := by decide +kernel
theorem dL_clears_238 : decode cL_clears 238 = .ok (.iconst 0, 1) := by decide +kernel
theorem dL_clears_239 : decode cL_clears 239 = .ok (.ireturn, 1) := by decide +kernel
theorem dL_clears_240 : decode cL_clears 240 = .ok (.aload_n 2, 1) := by decide +kernel
theorem dL_clears_241 : decode cL_clears 241 = .ok (.iload 4, 2) := by decide +kernel
theorem dL_clears_243 : decode cL_clears 243 = .ok (.invokevirtual 37, 3) := by decide +kernel
theorem dL_clears_246 : decode cL_clears 246 = .ok (.istore 7, 2) := by decide +kernel
theorem dL_clears_248 : decode cL_clears 248 = .ok (.aload_n 3, 1) := by decide +kernel
theorem dL_clears_249 : decode cL_clears 249 = .ok (.iload 7, 2) := by decide +kernel
theorem dL_clears_251 : decode cL_clears 251 = .ok (.aaload, 1) := by decide +kernel
theorem dL_clears_252 : decode cL_clears 252 = .ok (.iconst 0, 1) := by decide +kernel
theorem dL_clears_253 : decode cL_clears 253 = .ok (.iaload, 1) := by decide +kernel
theorem dL_clears_254 : decode cL_clears 254 = .ok (.istore 8, 2) := by decide +kernel
theorem dL_clears_256 : decode cL_clears 256 = .ok (.aload_n 0, 1) := by decide +kernel
theorem dL_clears_257 : decode cL_clears 257 = .ok (.iconst 3, 1) := by decide +kernel
theorem dL_clears_258 : decode cL_clears 258 = .ok (.iload 7, 2) := by decide +kernel
theorem dL_clears_260 : decode cL_clears 260 = .ok (.invokevirtual 203, 3) := by decide +kernel
theorem dL_clears_263 : decode cL_clears 263 = .ok (.istore 9, 2) := by decide +kernel
theorem dL_clears_265 : decode cL_clears 265 = .ok (.aload_n 0, 1) := by decide +kernel
theorem dL_clears_266 : decode cL_clears 266 = .ok (.invokevirtual 133, 3) := by decide +kernel
theorem dL_clears_269 : decode cL_clears 269 = .ok (.istore 10, 2) := by decide +kernel
theorem dL_clears_271 : decode cL_clears 271 = .ok (.aload_n 0, 1) := by decide +kernel
theorem dL_clears_272 : decode cL_clears 272 = .ok (.iconst 3, 1) := by decide +kernel
theorem dL_clears_273 : decode cL_clears 273 = .ok (.iload 7, 2) := by decide +kernel
theorem dL_clears_275 : decode cL_clears 275 = .ok (.invokevirtual 206, 3) := by decide +kernel
theorem dL_clears_278 : decode cL_clears 278 = .ok (.iload 9, 2) := by decide +kernel
theorem dL_clears_280 : decode cL_clears 280 = .ok (.if_icmp .ne 41, 3) := by decide +kernel
theorem dL_clears_283 : decode cL_clears 283 = .ok (.aload_n 0, 1) := by decide +kernel
theorem dL_clears_284 : decode cL_clears 284 = .ok (.iconst 3, 1) := by decide +kernel
theorem dL_clears_285 : decode cL_clears 285 = .ok (.invokevirtual 144, 3) := by decide +kernel
theorem dL_clears_288 : decode cL_clears 288 = .ok (.iload 6, 2) := by decide +kernel
theorem dL_clears_290 : decode cL_clears 290 = .ok (.if_icmp .ne 31, 3) := by decide +kernel
theorem dL_clears_293 : decode cL_clears 293 = .ok (.aload_n 0, 1) := by decide +kernel
theorem dL_clears_294 : decode cL_clears 294 = .ok (.iconst 3, 1) := by decide +kernel
theorem dL_clears_295 : decode cL_clears 295 = .ok (.iload 7, 2) := by decide +kernel
theorem dL_clears_297 : decode cL_clears 297 = .ok (.invokevirtual 203, 3) := by decide +kernel
theorem dL_clears_300 : decode cL_clears 300 = .ok (.ifCond .ne 21, 3) := by decide +kernel
theorem dL_clears_303 : decode cL_clears 303 = .ok (.aload_n 0, 1) := by decide +kernel
theorem dL_clears_304 : decode cL_clears 304 = .ok (.iload 8, 2) := by decide +kernel
theorem dL_clears_306 : decode cL_clears 306 = .ok (.invokevirtual 109, 3) := by decide +kernel
theorem dL_clears_309 : decode cL_clears 309 = .ok (.aload_n 1, 1) := by decide +kernel
theorem dL_clears_310 : decode cL_clears 310 = .ok (.iload 8, 2) := by decide +kernel
theorem dL_clears_312 : decode cL_clears 312 = .ok (.invokevirtual 62, 3) := by decide +kernel
theorem dL_clears_315 : decode cL_clears 315 = .ok (.iload 9, 2) := by decide +kernel
theorem dL_clears_317 : decode cL_clears 317 = .ok (.isub, 1) := by decide +kernel
theorem dL_clears_318 : decode cL_clears 318 = .ok (.if_icmp .eq 5, 3) := by decide +kernel
theorem dL_clears_321 : decode cL_clears 321 = .ok (.iconst 0, 1) := by decide +kernel
theorem dL_clears_322 : decode cL_clears 322 = .ok (.ireturn, 1) := by decide +kernel
theorem dL_clears_323 : decode cL_clears 323 = .ok (.aload_n 0, 1) := by decide +kernel
theorem dL_clears_324 : decode cL_clears 324 = .ok (.invokevirtual 137, 3) := by decide +kernel
theorem dL_clears_327 : decode cL_clears 327 = .ok (.ifCond .lt 31, 3) := by decide +kernel
theorem dL_clears_330 : decode cL_clears 330 = .ok (.aload_n 0, 1) := by decide +kernel
theorem dL_clears_331 : decode cL_clears 331 = .ok (.invokevirtual 133, 3) := by decide +kernel
theorem dL_clears_334 : decode cL_clears 334 = .ok (.iload 10, 2) := by decide +kernel
theorem dL_clears_336 : decode cL_clears 336 = .ok (.if_icmp .ne 22, 3) := by decide +kernel
theorem dL_clears_339 : decode cL_clears 339 = .ok (.aload_n 0, 1) := by decide +kernel
theorem dL_clears_340 : decode cL_clears 340 = .ok (.iload 8, 2) := by decide +kernel
theorem dL_clears_342 : decode cL_clears 342 = .ok (.invokevirtual 109, 3) := by decide +kernel
theorem dL_clears_345 : decode cL_clears 345 = .ok (.aload_n 1, 1) := by decide +kernel
theorem dL_clears_346 : decode cL_clears 346 = .ok (.iload 8, 2) := by decide +kernel
theorem dL_clears_348 : decode cL_clears 348 = .ok (.invokevirtual 62, 3) := by decide +kernel
theorem dL_clears_351 : decode cL_clears 351 = .ok (.if_icmp .ne 7, 3) := by decide +kernel
theorem dL_clears_354 : decode cL_clears 354 = .ok (.iconst 1, 1) := by decide +kernel
theorem dL_clears_355 : decode cL_clears 355 = .ok (.goto 4, 3) := by decide +kernel
theorem dL_clears_358 : decode cL_clears 358 = .ok (.iconst 0, 1) := by decide +kernel
theorem dL_clears_359 : decode cL_clears 359 = .ok (.ireturn, 1) := by decide +kernel
theorem dL_law_0 : decode cL_law 0 = .ok (.new 38, 3) := by decide +kernel
theorem dL_law_3 : decode cL_law 3 = .ok (.dup, 1) := by decide +kernel
theorem dL_law_4 : decode cL_law 4 = .ok (.aload_n 0, 1) := by decide +kernel
theorem dL_law_5 : decode cL_law 5 = .ok (.invokespecial 209, 3) := by decide +kernel
theorem dL_law_8 : decode cL_law 8 = .ok (.astore_n 1, 1) := by decide +kernel
theorem dL_law_9 : decode cL_law 9 = .ok (.new 14, 3) := by decide +kernel
theorem dL_law_12 : decode cL_law 12 = .ok (.dup, 1) := by decide +kernel
theorem dL_law_13 : decode cL_law 13 = .ok (.invokespecial 132, 3) := by decide +kernel
theorem dL_law_16 : decode cL_law 16 = .ok (.astore_n 2, 1) := by decide +kernel
theorem dL_law_17 : decode cL_law 17 = .ok (.new 32, 3) := by decide +kernel
theorem dL_law_20 : decode cL_law 20 = .ok (.dup, 1) := by decide +kernel
theorem dL_law_21 : decode cL_law 21 = .ok (.invokespecial 212, 3) := by decide +kernel
theorem dL_law_24 : decode cL_law 24 = .ok (.astore_n 3, 1) := by decide +kernel
theorem dL_law_25 : decode cL_law 25 = .ok (.aload_n 2, 1) := by decide +kernel
theorem dL_law_26 : decode cL_law 26 = .ok (.aload_n 3, 1) := by decide +kernel
theorem dL_law_27 : decode cL_law 27 = .ok (.aload_n 1, 1) := by decide +kernel
theorem dL_law_28 : decode cL_law 28 = .ok (.invokestatic 213, 3) := by decide +kernel
theorem dL_law_31 : decode cL_law 31 = .ok (.ifCond .eq 21, 3) := by decide +kernel
theorem dL_law_34 : decode cL_law 34 = .ok (.aload_n 2, 1) := by decide +kernel
theorem dL_law_35 : decode cL_law 35 = .ok (.aload_n 3, 1) := by decide +kernel
theorem dL_law_36 : decode cL_law 36 = .ok (.aload_n 1, 1) := by decide +kernel
theorem dL_law_37 : decode cL_law 37 = .ok (.invokestatic 217, 3) := by decide +kernel
theorem dL_law_40 : decode cL_law 40 = .ok (.ifCond .eq 12, 3) := by decide +kernel
theorem dL_law_43 : decode cL_law 43 = .ok (.aload_n 2, 1) := by decide +kernel
theorem dL_law_44 : decode cL_law 44 = .ok (.aload_n 3, 1) := by decide +kernel
theorem dL_law_45 : decode cL_law 45 = .ok (.aload_n 1, 1) := by decide +kernel
theorem dL_law_46 : decode cL_law 46 = .ok (.invokestatic 220, 3) := by decide +kernel
theorem dL_law_49 : decode cL_law 49 = .ok (.ifCond .ne 5, 3) := by decide +kernel
theorem dL_law_52 : decode cL_law 52 = .ok (.iconst 0, 1) := by decide +kernel
theorem dL_law_53 : decode cL_law 53 = .ok (.ireturn, 1) := by decide +kernel
theorem dL_law_54 : decode cL_law 54 = .ok (.aload_n 3, 1) := by decide +kernel
theorem dL_law_55 : decode cL_law 55 = .ok (.invokestatic 223, 3) := by decide +kernel
theorem dL_law_58 : decode cL_law 58 = .ok (.astore 4, 2) := by decide +kernel
theorem dL_law_60 : decode cL_law 60 = .ok (.aload 4, 2) := by decide +kernel
theorem dL_law_62 : decode cL_law 62 = .ok (.invokevirtual 133, 3) := by decide +kernel
theorem dL_law_65 : decode cL_law 65 = .ok (.aload_n 2, 1) := by decide +kernel
theorem dL_law_66 : decode cL_law 66 = .ok (.invokevirtual 133, 3) := by decide +kernel
theorem dL_law_69 : decode cL_law 69 = .ok (.if_icmp .eq 5, 3) := by decide +kernel
theorem dL_law_72 : decode cL_law 72 = .ok (.iconst 0, 1) := by decide +kernel
theorem dL_law_73 : decode cL_law 73 = .ok (.ireturn, 1) := by decide +kernel
theorem dL_law_74 : decode cL_law 74 = .ok (.iconst 0, 1) := by decide +kernel
theorem dL_law_75 : decode cL_law 75 = .ok (.istore 5, 2) := by decide +kernel
theorem dL_law_77 : decode cL_law 77 = .ok (.iload 5, 2) := by decide +kernel
theorem dL_law_79 : decode cL_law 79 = .ok (.aload_n 3, 1) := by decide +kernel
theorem dL_law_80 : decode cL_law 80 = .ok (.getfield 43, 3) := by decide +kernel
theorem dL_law_83 : decode cL_law 83 = .ok (.if_icmp .ge 44, 3) := by decide +kernel
theorem dL_law_86 : decode cL_law 86 = .ok (.aload 4, 2) := by decide +kernel
theorem dL_law_88 : decode cL_law 88 = .ok (.iload 5, 2) := by decide +kernel
theorem dL_law_90 : decode cL_law 90 = .ok (.invokevirtual 105, 3) := by decide +kernel
theorem dL_law_93 : decode cL_law 93 = .ok (.aload_n 3, 1) := by decide +kernel
theorem dL_law_94 : decode cL_law 94 = .ok (.iload 5, 2) := by decide +kernel
theorem dL_law_96 : decode cL_law 96 = .ok (.invokevirtual 108, 3) := by decide +kernel
theorem dL_law_99 : decode cL_law 99 = .ok (.if_icmp .ne 20, 3) := by decide +kernel
theorem dL_law_102 : decode cL_law 102 = .ok (.aload 4, 2) := by decide +kernel
theorem dL_law_104 : decode cL_law 104 = .ok (.iload 5, 2) := by decide +kernel
theorem dL_law_106 : decode cL_law 106 = .ok (.invokevirtual 110, 3) := by decide +kernel
theorem dL_law_109 : decode cL_law 109 = .ok (.aload_n 3, 1) := by decide +kernel
theorem dL_law_110 : decode cL_law 110 = .ok (.getfield 113, 3) := by decide +kernel
theorem dL_law_113 : decode cL_law 113 = .ok (.iload 5, 2) := by decide +kernel
theorem dL_law_115 : decode cL_law 115 = .ok (.iaload, 1) := by decide +kernel
theorem dL_law_116 : decode cL_law 116 = .ok (.if_icmp .eq 5, 3) := by decide +kernel
theorem dL_law_119 : decode cL_law 119 = .ok (.iconst 0, 1) := by decide +kernel
theorem dL_law_120 : decode cL_law 120 = .ok (.ireturn, 1) := by decide +kernel
theorem dL_law_121 : decode cL_law 121 = .ok (.iinc 5 1, 3) := by decide +kernel
theorem dL_law_124 : decode cL_law 124 = .ok (.goto (-47), 3) := by decide +kernel
theorem dL_law_127 : decode cL_law 127 = .ok (.aload_n 2, 1) := by decide +kernel
theorem dL_law_128 : decode cL_law 128 = .ok (.aload_n 3, 1) := by decide +kernel
theorem dL_law_129 : decode cL_law 129 = .ok (.aload_n 1, 1) := by decide +kernel
theorem dL_law_130 : decode cL_law 130 = .ok (.invokestatic 227, 3) := by decide +kernel
theorem dL_law_133 : decode cL_law 133 = .ok (.ifCond .eq 23, 3) := by decide +kernel
theorem dL_law_136 : decode cL_law 136 = .ok (.aload_n 2, 1) := by decide +kernel
theorem dL_law_137 : decode cL_law 137 = .ok (.aload 4, 2) := by decide +kernel
theorem dL_law_139 : decode cL_law 139 = .ok (.aload_n 3, 1) := by decide +kernel
theorem dL_law_140 : decode cL_law 140 = .ok (.aload_n 1, 1) := by decide +kernel
theorem dL_law_141 : decode cL_law 141 = .ok (.invokestatic 230, 3) := by decide +kernel
theorem dL_law_144 : decode cL_law 144 = .ok (.ifCond .eq 12, 3) := by decide +kernel
theorem dL_law_147 : decode cL_law 147 = .ok (.aload_n 2, 1) := by decide +kernel
theorem dL_law_148 : decode cL_law 148 = .ok (.aload_n 3, 1) := by decide +kernel
theorem dL_law_149 : decode cL_law 149 = .ok (.aload_n 1, 1) := by decide +kernel
theorem dL_law_150 : decode cL_law 150 = .ok (.invokestatic 234, 3) := by decide +kernel
theorem dL_law_153 : decode cL_law 153 = .ok (.ifCond .ne 5, 3) := by decide +kernel
theorem dL_law_156 : decode cL_law 156 = .ok (.iconst 0, 1) := by decide +kernel
theorem dL_law_157 : decode cL_law 157 = .ok (.ireturn, 1) := by decide +kernel
theorem dL_law_158 : decode cL_law 158 = .ok (.aload_n 2, 1) := by decide +kernel
theorem dL_law_159 : decode cL_law 159 = .ok (.invokevirtual 237, 3) := by decide +kernel
theorem dL_law_162 : decode cL_law 162 = .ok (.ifCond .ne 15, 3) := by decide +kernel
theorem dL_law_165 : decode cL_law 165 = .ok (.aload 4, 2) := by decide +kernel
theorem dL_law_167 : decode cL_law 167 = .ok (.invokevirtual 237, 3) := by decide +kernel
theorem dL_law_170 : decode cL_law 170 = .ok (.ifCond .ne 7, 3) := by decide +kernel
theorem dL_law_173 : decode cL_law 173 = .ok (.iconst 1, 1) := by decide +kernel
theorem dL_law_174 : decode cL_law 174 = .ok (.goto 4, 3) := by decide +kernel
theorem dL_law_177 : decode cL_law 177 = .ok (.iconst 0, 1) := by decide +kernel
theorem dL_law_178 : decode cL_law 178 = .ok (.ireturn, 1) := by decide +kernel
