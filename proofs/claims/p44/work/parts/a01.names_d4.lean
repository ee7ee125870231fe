theorem dX13_gives_35 : decode cX13_gives 35 = .ok (.aload_n 0, 1) := by decide +kernel
theorem dX13_gives_36 : decode cX13_gives 36 = .ok (.getfield 26, 3) := by decide +kernel
theorem dX13_gives_39 : decode cX13_gives 39 = .ok (.iload_n 1, 1) := by decide +kernel
theorem dX13_gives_40 : decode cX13_gives 40 = .ok (.aaload, 1) := by decide +kernel
theorem dX13_gives_41 : decode cX13_gives 41 = .ok (.bipush 9, 2) := by decide +kernel
theorem dX13_gives_43 : decode cX13_gives 43 = .ok (.iconst 5, 1) := by decide +kernel
theorem dX13_gives_44 : decode cX13_gives 44 = .ok (.iload_n 3, 1) := by decide +kernel
theorem dX13_gives_45 : decode cX13_gives 45 = .ok (.imul, 1) := by decide +kernel
theorem dX13_gives_46 : decode cX13_gives 46 = .ok (.iadd, 1) := by decide +kernel
theorem dX13_gives_47 : decode cX13_gives 47 = .ok (.iaload, 1) := by decide +kernel
theorem dX13_gives_48 : decode cX13_gives 48 = .ok (.iconst 1, 1) := by decide +kernel
theorem dX13_gives_49 : decode cX13_gives 49 = .ok (.if_icmp .ne 7, 3) := by decide +kernel
theorem dX13_gives_52 : decode cX13_gives 52 = .ok (.iconst 1, 1) := by decide +kernel
theorem dX13_gives_53 : decode cX13_gives 53 = .ok (.goto 4, 3) := by decide +kernel
theorem dX13_gives_56 : decode cX13_gives 56 = .ok (.iconst 0, 1) := by decide +kernel
theorem dX13_gives_57 : decode cX13_gives 57 = .ok (.if_icmp .eq 7, 3) := by decide +kernel
theorem dX13_gives_60 : decode cX13_gives 60 = .ok (.iconst 1, 1) := by decide +kernel
theorem dX13_gives_61 : decode cX13_gives 61 = .ok (.goto 4, 3) := by decide +kernel
theorem dX13_gives_64 : decode cX13_gives 64 = .ok (.iconst 0, 1) := by decide +kernel
theorem dX13_gives_65 : decode cX13_gives 65 = .ok (.istore_n 2, 1) := by decide +kernel
theorem dX13_gives_66 : decode cX13_gives 66 = .ok (.iinc 3 1, 3) := by decide +kernel
theorem dX13_gives_69 : decode cX13_gives 69 = .ok (.goto (-65), 3) := by decide +kernel
theorem dX13_gives_72 : decode cX13_gives 72 = .ok (.iload_n 2, 1) := by decide +kernel
theorem dX13_gives_73 : decode cX13_gives 73 = .ok (.ireturn, 1) := by decide +kernel
theorem dX13_findsLayers_0 : decode cX13_findsLayers 0 = .ok (.iconst 0, 1) := by decide +kernel
theorem dX13_findsLayers_1 : decode cX13_findsLayers 1 = .ok (.istore_n 1, 1) := by decide +kernel
theorem dX13_findsLayers_2 : decode cX13_findsLayers 2 = .ok (.iload_n 1, 1) := by decide +kernel
theorem dX13_findsLayers_3 : decode cX13_findsLayers 3 = .ok (.iconst 5, 1) := by decide +kernel
theorem dX13_findsLayers_4 : decode cX13_findsLayers 4 = .ok (.if_icmp .ge 16, 3) := by decide +kernel
theorem dX13_findsLayers_7 : decode cX13_findsLayers 7 = .ok (.aload_n 0, 1) := by decide +kernel
theorem dX13_findsLayers_8 : decode cX13_findsLayers 8 = .ok (.getfield 32, 3) := by decide +kernel
theorem dX13_findsLayers_11 : decode cX13_findsLayers 11 = .ok (.iload_n 1, 1) := by decide +kernel
theorem dX13_findsLayers_12 : decode cX13_findsLayers 12 = .ok (.iconst 0, 1) := by decide +kernel
theorem dX13_findsLayers_13 : decode cX13_findsLayers 13 = .ok (.iastore, 1) := by decide +kernel
theorem dX13_findsLayers_14 : decode cX13_findsLayers 14 = .ok (.iinc 1 1, 3) := by decide +kernel
theorem dX13_findsLayers_17 : decode cX13_findsLayers 17 = .ok (.goto (-15), 3) := by decide +kernel
theorem dX13_findsLayers_20 : decode cX13_findsLayers 20 = .ok (.iconst 0, 1) := by decide +kernel
theorem dX13_findsLayers_21 : decode cX13_findsLayers 21 = .ok (.istore_n 1, 1) := by decide +kernel
theorem dX13_findsLayers_22 : decode cX13_findsLayers 22 = .ok (.iload_n 1, 1) := by decide +kernel
theorem dX13_findsLayers_23 : decode cX13_findsLayers 23 = .ok (.bipush 40, 2) := by decide +kernel
theorem dX13_findsLayers_25 : decode cX13_findsLayers 25 = .ok (.if_icmp .ge 149, 3) := by decide +kernel
theorem dX13_findsLayers_28 : decode cX13_findsLayers 28 = .ok (.iconst 1, 1) := by decide +kernel
theorem dX13_findsLayers_29 : decode cX13_findsLayers 29 = .ok (.istore_n 2, 1) := by decide +kernel
theorem dX13_findsLayers_30 : decode cX13_findsLayers 30 = .ok (.iconst 0, 1) := by decide +kernel
theorem dX13_findsLayers_31 : decode cX13_findsLayers 31 = .ok (.istore_n 3, 1) := by decide +kernel
theorem dX13_findsLayers_32 : decode cX13_findsLayers 32 = .ok (.iload_n 3, 1) := by decide +kernel
theorem dX13_findsLayers_33 : decode cX13_findsLayers 33 = .ok (.aload_n 0, 1) := by decide +kernel
theorem dX13_findsLayers_34 : decode cX13_findsLayers 34 = .ok (.getfield 56, 3) := by decide +kernel
theorem dX13_findsLayers_37 : decode cX13_findsLayers 37 = .ok (.if_icmp .ge 125, 3) := by decide +kernel
theorem dX13_findsLayers_40 : decode cX13_findsLayers 40 = .ok (.iconst 0, 1) := by decide +kernel
theorem dX13_findsLayers_41 : decode cX13_findsLayers 41 = .ok (.istore 4, 2) := by decide +kernel
theorem dX13_findsLayers_43 : decode cX13_findsLayers 43 = .ok (.iload 4, 2) := by decide +kernel
theorem dX13_findsLayers_45 : decode cX13_findsLayers 45 = .ok (.aload_n 0, 1) := by decide +kernel
theorem dX13_findsLayers_46 : decode cX13_findsLayers 46 = .ok (.getfield 26, 3) := by decide +kernel
theorem dX13_findsLayers_49 : decode cX13_findsLayers 49 = .ok (.iload_n 3, 1) := by decide +kernel
theorem dX13_findsLayers_50 : decode cX13_findsLayers 50 = .ok (.aaload, 1) := by decide +kernel
theorem dX13_findsLayers_51 : decode cX13_findsLayers 51 = .ok (.iconst 4, 1) := by decide +kernel
theorem dX13_findsLayers_52 : decode cX13_findsLayers 52 = .ok (.iaload, 1) := by decide +kernel
theorem dX13_findsLayers_53 : decode cX13_findsLayers 53 = .ok (.if_icmp .ge 103, 3) := by decide +kernel
theorem dX13_findsLayers_56 : decode cX13_findsLayers 56 = .ok (.aload_n 0, 1) := by decide +kernel
theorem dX13_findsLayers_57 : decode cX13_findsLayers 57 = .ok (.getfield 32, 3) := by decide +kernel
theorem dX13_findsLayers_60 : decode cX13_findsLayers 60 = .ok (.aload_n 0, 1) := by decide +kernel
theorem dX13_findsLayers_61 : decode cX13_findsLayers 61 = .ok (.getfield 26, 3) := by decide +kernel
theorem dX13_findsLayers_64 : decode cX13_findsLayers 64 = .ok (.iload_n 3, 1) := by decide +kernel
theorem dX13_findsLayers_65 : decode cX13_findsLayers 65 = .ok (.aaload, 1) := by decide +kernel
theorem dX13_findsLayers_66 : decode cX13_findsLayers 66 = .ok (.iconst 5, 1) := by decide +kernel
theorem dX13_findsLayers_67 : decode cX13_findsLayers 67 = .ok (.iconst 5, 1) := by decide +kernel
theorem dX13_findsLayers_68 : decode cX13_findsLayers 68 = .ok (.iload 4, 2) := by decide +kernel
theorem dX13_findsLayers_70 : decode cX13_findsLayers 70 = .ok (.imul, 1) := by decide +kernel
theorem dX13_findsLayers_71 : decode cX13_findsLayers 71 = .ok (.iadd, 1) := by decide +kernel
theorem dX13_findsLayers_72 : decode cX13_findsLayers 72 = .ok (.iaload, 1) := by decide +kernel
theorem dX13_findsLayers_73 : decode cX13_findsLayers 73 = .ok (.iaload, 1) := by decide +kernel
theorem dX13_findsLayers_74 : decode cX13_findsLayers 74 = .ok (.aload_n 0, 1) := by decide +kernel
theorem dX13_findsLayers_75 : decode cX13_findsLayers 75 = .ok (.getfield 26, 3) := by decide +kernel
theorem dX13_findsLayers_78 : decode cX13_findsLayers 78 = .ok (.iload_n 3, 1) := by decide +kernel
theorem dX13_findsLayers_79 : decode cX13_findsLayers 79 = .ok (.aaload, 1) := by decide +kernel
theorem dX13_findsLayers_80 : decode cX13_findsLayers 80 = .ok (.bipush 9, 2) := by decide +kernel
theorem dX13_findsLayers_82 : decode cX13_findsLayers 82 = .ok (.iconst 5, 1) := by decide +kernel
theorem dX13_findsLayers_83 : decode cX13_findsLayers 83 = .ok (.iload 4, 2) := by decide +kernel
theorem dX13_findsLayers_85 : decode cX13_findsLayers 85 = .ok (.imul, 1) := by decide +kernel
theorem dX13_findsLayers_86 : decode cX13_findsLayers 86 = .ok (.iadd, 1) := by decide +kernel
theorem dX13_findsLayers_87 : decode cX13_findsLayers 87 = .ok (.iaload, 1) := by decide +kernel
theorem dX13_findsLayers_88 : decode cX13_findsLayers 88 = .ok (.iadd, 1) := by decide +kernel
theorem dX13_findsLayers_89 : decode cX13_findsLayers 89 = .ok (.istore 5, 2) := by decide +kernel
theorem dX13_findsLayers_91 : decode cX13_findsLayers 91 = .ok (.iload_n 2, 1) := by decide +kernel
theorem dX13_findsLayers_92 : decode cX13_findsLayers 92 = .ok (.ifCond .eq 25, 3) := by decide +kernel
theorem dX13_findsLayers_95 : decode cX13_findsLayers 95 = .ok (.aload_n 0, 1) := by decide +kernel
theorem dX13_findsLayers_96 : decode cX13_findsLayers 96 = .ok (.getfield 32, 3) := by decide +kernel
theorem dX13_findsLayers_99 : decode cX13_findsLayers 99 = .ok (.aload_n 0, 1) := by decide +kernel
theorem dX13_findsLayers_100 : decode cX13_findsLayers 100 = .ok (.getfield 26, 3) := by decide +kernel
theorem dX13_findsLayers_103 : decode cX13_findsLayers 103 = .ok (.iload_n 3, 1) := by decide +kernel
theorem dX13_findsLayers_104 : decode cX13_findsLayers 104 = .ok (.aaload, 1) := by decide +kernel
theorem dX13_findsLayers_105 : decode cX13_findsLayers 105 = .ok (.iconst 0, 1) := by decide +kernel
theorem dX13_findsLayers_106 : decode cX13_findsLayers 106 = .ok (.iaload, 1) := by decide +kernel
theorem dX13_findsLayers_107 : decode cX13_findsLayers 107 = .ok (.iaload, 1) := by decide +kernel
theorem dX13_findsLayers_108 : decode cX13_findsLayers 108 = .ok (.iload 5, 2) := by decide +kernel
theorem dX13_findsLayers_110 : decode cX13_findsLayers 110 = .ok (.if_icmp .lt 7, 3) := by decide +kernel
theorem dX13_findsLayers_113 : decode cX13_findsLayers 113 = .ok (.iconst 1, 1) := by decide +kernel
theorem dX13_findsLayers_114 : decode cX13_findsLayers 114 = .ok (.goto 4, 3) := by decide +kernel
theorem dX13_findsLayers_117 : decode cX13_findsLayers 117 = .ok (.iconst 0, 1) := by decide +kernel
theorem dX13_findsLayers_118 : decode cX13_findsLayers 118 = .ok (.istore_n 2, 1) := by decide +kernel
theorem dX13_findsLayers_119 : decode cX13_findsLayers 119 = .ok (.aload_n 0, 1) := by decide +kernel
theorem dX13_findsLayers_120 : decode cX13_findsLayers 120 = .ok (.getfield 32, 3) := by decide +kernel
theorem dX13_findsLayers_123 : decode cX13_findsLayers 123 = .ok (.aload_n 0, 1) := by decide +kernel
theorem dX13_findsLayers_124 : decode cX13_findsLayers 124 = .ok (.getfield 26, 3) := by decide +kernel
theorem dX13_findsLayers_127 : decode cX13_findsLayers 127 = .ok (.iload_n 3, 1) := by decide +kernel
theorem dX13_findsLayers_128 : decode cX13_findsLayers 128 = .ok (.aaload, 1) := by decide +kernel
theorem dX13_findsLayers_129 : decode cX13_findsLayers 129 = .ok (.iconst 0, 1) := by decide +kernel
theorem dX13_findsLayers_130 : decode cX13_findsLayers 130 = .ok (.iaload, 1) := by decide +kernel
theorem dX13_findsLayers_131 : decode cX13_findsLayers 131 = .ok (.aload_n 0, 1) := by decide +kernel
theorem dX13_findsLayers_132 : decode cX13_findsLayers 132 = .ok (.getfield 32, 3) := by decide +kernel
theorem dX13_findsLayers_135 : decode cX13_findsLayers 135 = .ok (.aload_n 0, 1) := by decide +kernel
theorem dX13_findsLayers_136 : decode cX13_findsLayers 136 = .ok (.getfield 26, 3) := by decide +kernel
theorem dX13_findsLayers_139 : decode cX13_findsLayers 139 = .ok (.iload_n 3, 1) := by decide +kernel
theorem dX13_findsLayers_140 : decode cX13_findsLayers 140 = .ok (.aaload, 1) := by decide +kernel
theorem dX13_findsLayers_141 : decode cX13_findsLayers 141 = .ok (.iconst 0, 1) := by decide +kernel
theorem dX13_findsLayers_142 : decode cX13_findsLayers 142 = .ok (.iaload, 1) := by decide +kernel
theorem dX13_findsLayers_143 : decode cX13_findsLayers 143 = .ok (.iaload, 1) := by decide +kernel
theorem dX13_findsLayers_144 : decode cX13_findsLayers 144 = .ok (.iload 5, 2) := by decide +kernel
theorem dX13_findsLayers_146 : decode cX13_findsLayers 146 = .ok (.invokestatic 59, 3) := by decide +kernel
theorem dX13_findsLayers_149 : decode cX13_findsLayers 149 = .ok (.iastore, 1) := by decide +kernel
theorem dX13_findsLayers_150 : decode cX13_findsLayers 150 = .ok (.iinc 4 1, 3) := by decide +kernel
theorem dX13_findsLayers_153 : decode cX13_findsLayers 153 = .ok (.goto (-110), 3) := by decide +kernel
theorem dX13_findsLayers_156 : decode cX13_findsLayers 156 = .ok (.iinc 3 1, 3) := by decide +kernel
theorem dX13_findsLayers_159 : decode cX13_findsLayers 159 = .ok (.goto (-127), 3) := by decide +kernel
theorem dX13_findsLayers_162 : decode cX13_findsLayers 162 = .ok (.iload_n 2, 1) := by decide +kernel
theorem dX13_findsLayers_163 : decode cX13_findsLayers 163 = .ok (.ifCond .eq 5, 3) := by decide +kernel
theorem dX13_findsLayers_166 : decode cX13_findsLayers 166 = .ok (.iconst 1, 1) := by decide +kernel
theorem dX13_findsLayers_167 : decode cX13_findsLayers 167 = .ok (.ireturn, 1) := by decide +kernel
theorem dX13_findsLayers_168 : decode cX13_findsLayers 168 = .ok (.iinc 1 1, 3) := by decide +kernel
theorem dX13_findsLayers_171 : decode cX13_findsLayers 171 = .ok (.goto (-149), 3) := by decide +kernel
theorem dX13_findsLayers_174 : decode cX13_findsLayers 174 = .ok (.iconst 0, 1) := by decide +kernel
theorem dX13_findsLayers_175 : decode cX13_findsLayers 175 = .ok (.ireturn, 1) := by decide +kernel
theorem dX13_follows_0 : decode cX13_follows 0 = .ok (.aload_n 0, 1) := by decide +kernel
theorem dX13_follows_1 : decode cX13_follows 1 = .ok (.invokevirtual 64, 3) := by decide +kernel
theorem dX13_follows_4 : decode cX13_follows 4 = .ok (.istore_n 1, 1) := by decide +kernel
theorem dX13_follows_5 : decode cX13_follows 5 = .ok (.iconst 0, 1) := by decide +kernel
theorem dX13_follows_6 : decode cX13_follows 6 = .ok (.istore_n 2, 1) := by decide +kernel
theorem dX13_follows_7 : decode cX13_follows 7 = .ok (.iload_n 2, 1) := by decide +kernel
theorem dX13_follows_8 : decode cX13_follows 8 = .ok (.iconst 5, 1) := by decide +kernel
theorem dX13_follows_9 : decode cX13_follows 9 = .ok (.if_icmp .ge 40, 3) := by decide +kernel
theorem dX13_follows_12 : decode cX13_follows 12 = .ok (.iconst 0, 1) := by decide +kernel
theorem dX13_follows_13 : decode cX13_follows 13 = .ok (.istore_n 3, 1) := by decide +kernel
theorem dX13_follows_14 : decode cX13_follows 14 = .ok (.iload_n 3, 1) := by decide +kernel
theorem dX13_follows_15 : decode cX13_follows 15 = .ok (.sipush 512, 3) := by decide +kernel
theorem dX13_follows_18 : decode cX13_follows 18 = .ok (.if_icmp .ge 25, 3) := by decide +kernel
theorem dX13_follows_21 : decode cX13_follows 21 = .ok (.aload_n 0, 1) := by decide +kernel
theorem dX13_follows_22 : decode cX13_follows 22 = .ok (.getfield 29, 3) := by decide +kernel
theorem dX13_follows_25 : decode cX13_follows 25 = .ok (.iload_n 2, 1) := by decide +kernel
theorem dX13_follows_26 : decode cX13_follows 26 = .ok (.aaload, 1) := by decide +kernel
theorem dX13_follows_27 : decode cX13_follows 27 = .ok (.iload_n 3, 1) := by decide +kernel
theorem dX13_follows_28 : decode cX13_follows 28 = .ok (.aload_n 0, 1) := by decide +kernel
theorem dX13_follows_29 : decode cX13_follows 29 = .ok (.getfield 21, 3) := by decide +kernel
theorem dX13_follows_32 : decode cX13_follows 32 = .ok (.iload_n 2, 1) := by decide +kernel
theorem dX13_follows_33 : decode cX13_follows 33 = .ok (.aaload, 1) := by decide +kernel
theorem dX13_follows_34 : decode cX13_follows 34 = .ok (.iload_n 3, 1) := by decide +kernel
theorem dX13_follows_35 : decode cX13_follows 35 = .ok (.baload, 1) := by decide +kernel
theorem dX13_follows_36 : decode cX13_follows 36 = .ok (.bastore, 1) := by decide +kernel
theorem dX13_follows_37 : decode cX13_follows 37 = .ok (.iinc 3 1, 3) := by decide +kernel
theorem dX13_follows_40 : decode cX13_follows 40 = .ok (.goto (-26), 3) := by decide +kernel
theorem dX13_follows_43 : decode cX13_follows 43 = .ok (.iinc 2 1, 3) := by decide +kernel
theorem dX13_follows_46 : decode cX13_follows 46 = .ok (.goto (-39), 3) := by decide +kernel
theorem dX13_follows_49 : decode cX13_follows 49 = .ok (.iconst 0, 1) := by decide +kernel
theorem dX13_follows_50 : decode cX13_follows 50 = .ok (.istore_n 2, 1) := by decide +kernel
theorem dX13_follows_51 : decode cX13_follows 51 = .ok (.iload_n 2, 1) := by decide +kernel
theorem dX13_follows_52 : decode cX13_follows 52 = .ok (.iconst 5, 1) := by decide +kernel
theorem dX13_follows_53 : decode cX13_follows 53 = .ok (.if_icmp .ge 78, 3) := by decide +kernel
theorem dX13_follows_56 : decode cX13_follows 56 = .ok (.iload_n 1, 1) := by decide +kernel
theorem dX13_follows_57 : decode cX13_follows 57 = .ok (.ifCond .eq 74, 3) := by decide +kernel
theorem dX13_follows_60 : decode cX13_follows 60 = .ok (.iconst 1, 1) := by decide +kernel
theorem dX13_follows_61 : decode cX13_follows 61 = .ok (.istore_n 3, 1) := by decide +kernel
theorem dX13_follows_62 : decode cX13_follows 62 = .ok (.iload_n 3, 1) := by decide +kernel
theorem dX13_follows_63 : decode cX13_follows 63 = .ok (.ifCond .eq 62, 3) := by decide +kernel
theorem dX13_follows_66 : decode cX13_follows 66 = .ok (.iconst 0, 1) := by decide +kernel
theorem dX13_follows_67 : decode cX13_follows 67 = .ok (.istore_n 3, 1) := by decide +kernel
theorem dX13_follows_68 : decode cX13_follows 68 = .ok (.iconst 0, 1) := by decide +kernel
theorem dX13_follows_69 : decode cX13_follows 69 = .ok (.istore 4, 2) := by decide +kernel
theorem dX13_follows_71 : decode cX13_follows 71 = .ok (.iload 4, 2) := by decide +kernel
theorem dX13_follows_73 : decode cX13_follows 73 = .ok (.aload_n 0, 1) := by decide +kernel
theorem dX13_follows_74 : decode cX13_follows 74 = .ok (.getfield 56, 3) := by decide +kernel
theorem dX13_follows_77 : decode cX13_follows 77 = .ok (.if_icmp .ge 45, 3) := by decide +kernel
theorem dX13_follows_80 : decode cX13_follows 80 = .ok (.aload_n 0, 1) := by decide +kernel
theorem dX13_follows_81 : decode cX13_follows 81 = .ok (.getfield 32, 3) := by decide +kernel
theorem dX13_follows_84 : decode cX13_follows 84 = .ok (.aload_n 0, 1) := by decide +kernel
theorem dX13_follows_85 : decode cX13_follows 85 = .ok (.getfield 26, 3) := by decide +kernel
theorem dX13_follows_88 : decode cX13_follows 88 = .ok (.iload 4, 2) := by decide +kernel
theorem dX13_follows_90 : decode cX13_follows 90 = .ok (.aaload, 1) := by decide +kernel
theorem dX13_follows_91 : decode cX13_follows 91 = .ok (.iconst 0, 1) := by decide +kernel
theorem dX13_follows_92 : decode cX13_follows 92 = .ok (.iaload, 1) := by decide +kernel
theorem dX13_follows_93 : decode cX13_follows 93 = .ok (.iaload, 1) := by decide +kernel
theorem dX13_follows_94 : decode cX13_follows 94 = .ok (.iload_n 2, 1) := by decide +kernel
theorem dX13_follows_95 : decode cX13_follows 95 = .ok (.if_icmp .ne 21, 3) := by decide +kernel
theorem dX13_follows_98 : decode cX13_follows 98 = .ok (.aload_n 0, 1) := by decide +kernel
theorem dX13_follows_99 : decode cX13_follows 99 = .ok (.iload 4, 2) := by decide +kernel
theorem dX13_follows_101 : decode cX13_follows 101 = .ok (.invokevirtual 68, 3) := by decide +kernel
theorem dX13_follows_104 : decode cX13_follows 104 = .ok (.ifCond .ne 12, 3) := by decide +kernel
theorem dX13_follows_107 : decode cX13_follows 107 = .ok (.iload_n 3, 1) := by decide +kernel
theorem dX13_follows_108 : decode cX13_follows 108 = .ok (.aload_n 0, 1) := by decide +kernel
theorem dX13_follows_109 : decode cX13_follows 109 = .ok (.iload 4, 2) := by decide +kernel
theorem dX13_follows_111 : decode cX13_follows 111 = .ok (.invokevirtual 72, 3) := by decide +kernel
theorem dX13_follows_114 : decode cX13_follows 114 = .ok (.ior, 1) := by decide +kernel
theorem dX13_follows_115 : decode cX13_follows 115 = .ok (.istore_n 3, 1) := by decide +kernel
theorem dX13_follows_116 : decode cX13_follows 116 = .ok (.iinc 4 1, 3) := by decide +kernel
theorem dX13_follows_119 : decode cX13_follows 119 = .ok (.goto (-48), 3) := by decide +kernel
theorem dX13_follows_122 : decode cX13_follows 122 = .ok (.goto (-60), 3) := by decide +kernel
theorem dX13_follows_125 : decode cX13_follows 125 = .ok (.iinc 2 1, 3) := by decide +kernel
theorem dX13_follows_128 : decode cX13_follows 128 = .ok (.goto (-77), 3) := by decide +kernel
theorem dX13_follows_131 : decode cX13_follows 131 = .ok (.return_, 1) := by decide +kernel
theorem dX13_applies_0 : decode cX13_applies 0 = .ok (.aload_n 0, 1) := by decide +kernel
theorem dX13_applies_1 : decode cX13_applies 1 = .ok (.iload_n 1, 1) := by decide +kernel
theorem dX13_applies_2 : decode cX13_applies 2 = .ok (.iconst 0, 1) := by decide +kernel
theorem dX13_applies_3 : decode cX13_applies 3 = .ok (.invokevirtual 49, 3) := by decide +kernel
theorem dX13_applies_6 : decode cX13_applies 6 = .ok (.istore_n 2, 1) := by decide +kernel
theorem dX13_applies_7 : decode cX13_applies 7 = .ok (.iconst 0, 1) := by decide +kernel
theorem dX13_applies_8 : decode cX13_applies 8 = .ok (.istore_n 3, 1) := by decide +kernel
theorem dX13_applies_9 : decode cX13_applies 9 = .ok (.iconst 0, 1) := by decide +kernel
theorem dX13_applies_10 : decode cX13_applies 10 = .ok (.istore 4, 2) := by decide +kernel
theorem dX13_applies_12 : decode cX13_applies 12 = .ok (.aload_n 0, 1) := by decide +kernel
theorem dX13_applies_13 : decode cX13_applies 13 = .ok (.iload_n 2, 1) := by decide +kernel
theorem dX13_applies_14 : decode cX13_applies 14 = .ok (.iload 4, 2) := by decide +kernel
theorem dX13_applies_16 : decode cX13_applies 16 = .ok (.invokevirtual 75, 3) := by decide +kernel
theorem dX13_applies_19 : decode cX13_applies 19 = .ok (.ifCond .eq 62, 3) := by decide +kernel
theorem dX13_applies_22 : decode cX13_applies 22 = .ok (.aload_n 0, 1) := by decide +kernel
theorem dX13_applies_23 : decode cX13_applies 23 = .ok (.iload_n 1, 1) := by decide +kernel
theorem dX13_applies_24 : decode cX13_applies 24 = .ok (.invokevirtual 79, 3) := by decide +kernel
theorem dX13_applies_27 : decode cX13_applies 27 = .ok (.ifCond .eq 48, 3) := by decide +kernel
theorem dX13_applies_30 : decode cX13_applies 30 = .ok (.aload_n 0, 1) := by decide +kernel
theorem dX13_applies_31 : decode cX13_applies 31 = .ok (.aload_n 0, 1) := by decide +kernel
theorem dX13_applies_32 : decode cX13_applies 32 = .ok (.getfield 26, 3) := by decide +kernel
theorem dX13_applies_35 : decode cX13_applies 35 = .ok (.iload_n 1, 1) := by decide +kernel
theorem dX13_applies_36 : decode cX13_applies 36 = .ok (.aaload, 1) := by decide +kernel
theorem dX13_applies_37 : decode cX13_applies 37 = .ok (.iconst 0, 1) := by decide +kernel
theorem dX13_applies_38 : decode cX13_applies 38 = .ok (.invokevirtual 52, 3) := by decide +kernel
theorem dX13_applies_41 : decode cX13_applies 41 = .ok (.ifCond .eq 6, 3) := by decide +kernel
theorem dX13_applies_44 : decode cX13_applies 44 = .ok (.goto 31, 3) := by decide +kernel
theorem dX13_applies_47 : decode cX13_applies 47 = .ok (.aload_n 0, 1) := by decide +kernel
theorem dX13_applies_48 : decode cX13_applies 48 = .ok (.getfield 29, 3) := by decide +kernel
theorem dX13_applies_51 : decode cX13_applies 51 = .ok (.aload_n 0, 1) := by decide +kernel
theorem dX13_applies_52 : decode cX13_applies 52 = .ok (.getfield 26, 3) := by decide +kernel
theorem dX13_applies_55 : decode cX13_applies 55 = .ok (.iload_n 1, 1) := by decide +kernel
theorem dX13_applies_56 : decode cX13_applies 56 = .ok (.aaload, 1) := by decide +kernel
theorem dX13_applies_57 : decode cX13_applies 57 = .ok (.iconst 0, 1) := by decide +kernel
theorem dX13_applies_58 : decode cX13_applies 58 = .ok (.iaload, 1) := by decide +kernel
theorem dX13_applies_59 : decode cX13_applies 59 = .ok (.aaload, 1) := by decide +kernel
theorem dX13_applies_60 : decode cX13_applies 60 = .ok (.aload_n 0, 1) := by decide +kernel
theorem dX13_applies_61 : decode cX13_applies 61 = .ok (.aload_n 0, 1) := by decide +kernel
theorem dX13_applies_62 : decode cX13_applies 62 = .ok (.getfield 26, 3) := by decide +kernel
theorem dX13_applies_65 : decode cX13_applies 65 = .ok (.iload_n 1, 1) := by decide +kernel
theorem dX13_applies_66 : decode cX13_applies 66 = .ok (.aaload, 1) := by decide +kernel
theorem dX13_applies_67 : decode cX13_applies 67 = .ok (.iconst 0, 1) := by decide +kernel
theorem dX13_applies_68 : decode cX13_applies 68 = .ok (.invokevirtual 42, 3) := by decide +kernel
theorem dX13_applies_71 : decode cX13_applies 71 = .ok (.iconst 1, 1) := by decide +kernel
theorem dX13_applies_72 : decode cX13_applies 72 = .ok (.bastore, 1) := by decide +kernel
theorem dX13_applies_73 : decode cX13_applies 73 = .ok (.iconst 1, 1) := by decide +kernel
theorem dX13_applies_74 : decode cX13_applies 74 = .ok (.istore_n 3, 1) := by decide +kernel
theorem dX13_applies_75 : decode cX13_applies 75 = .ok (.iinc 4 1, 3) := by decide +kernel
theorem dX13_applies_78 : decode cX13_applies 78 = .ok (.goto (-66), 3) := by decide +kernel
theorem dX13_applies_81 : decode cX13_applies 81 = .ok (.iload_n 3, 1) := by decide +kernel
theorem dX13_applies_82 : decode cX13_applies 82 = .ok (.ireturn, 1) := by decide +kernel
theorem dX13_reasons_0 : decode cX13_reasons 0 = .ok (.aload_n 0, 1) := by decide +kernel
theorem dX13_reasons_1 : decode cX13_reasons 1 = .ok (.getfield 21, 3) := by decide +kernel
theorem dX13_reasons_4 : decode cX13_reasons 4 = .ok (.iload_n 1, 1) := by decide +kernel
theorem dX13_reasons_5 : decode cX13_reasons 5 = .ok (.aaload, 1) := by decide +kernel
theorem dX13_reasons_6 : decode cX13_reasons 6 = .ok (.iload_n 2, 1) := by decide +kernel
theorem dX13_reasons_7 : decode cX13_reasons 7 = .ok (.baload, 1) := by decide +kernel
theorem dX13_reasons_8 : decode cX13_reasons 8 = .ok (.ifCond .eq 7, 3) := by decide +kernel
theorem dX13_reasons_11 : decode cX13_reasons 11 = .ok (.iconst 1, 1) := by decide +kernel
theorem dX13_reasons_12 : decode cX13_reasons 12 = .ok (.goto 4, 3) := by decide +kernel
theorem dX13_reasons_15 : decode cX13_reasons 15 = .ok (.iconst 0, 1) := by decide +kernel
theorem dX13_reasons_16 : decode cX13_reasons 16 = .ok (.istore_n 3, 1) := by decide +kernel
theorem dX13_reasons_17 : decode cX13_reasons 17 = .ok (.iconst 0, 1) := by decide +kernel
theorem dX13_reasons_18 : decode cX13_reasons 18 = .ok (.istore 4, 2) := by decide +kernel
theorem dX13_reasons_20 : decode cX13_reasons 20 = .ok (.iload 4, 2) := by decide +kernel
theorem dX13_reasons_22 : decode cX13_reasons 22 = .ok (.aload_n 0, 1) := by decide +kernel
theorem dX13_reasons_23 : decode cX13_reasons 23 = .ok (.getfield 56, 3) := by decide +kernel
theorem dX13_reasons_26 : decode cX13_reasons 26 = .ok (.if_icmp .ge 96, 3) := by decide +kernel
theorem dX13_reasons_29 : decode cX13_reasons 29 = .ok (.aload_n 0, 1) := by decide +kernel
theorem dX13_reasons_30 : decode cX13_reasons 30 = .ok (.getfield 26, 3) := by decide +kernel
theorem dX13_reasons_33 : decode cX13_reasons 33 = .ok (.iload 4, 2) := by decide +kernel
theorem dX13_reasons_35 : decode cX13_reasons 35 = .ok (.aaload, 1) := by decide +kernel
theorem dX13_reasons_36 : decode cX13_reasons 36 = .ok (.iconst 0, 1) := by decide +kernel
theorem dX13_reasons_37 : decode cX13_reasons 37 = .ok (.iaload, 1) := by decide +kernel
theorem dX13_reasons_38 : decode cX13_reasons 38 = .ok (.iload_n 1, 1) := by decide +kernel
theorem dX13_reasons_39 : decode cX13_reasons 39 = .ok (.if_icmp .ne 77, 3) := by decide +kernel
theorem dX13_reasons_42 : decode cX13_reasons 42 = .ok (.aload_n 0, 1) := by decide +kernel
theorem dX13_reasons_43 : decode cX13_reasons 43 = .ok (.iload 4, 2) := by decide +kernel
theorem dX13_reasons_45 : decode cX13_reasons 45 = .ok (.invokevirtual 68, 3) := by decide +kernel
theorem dX13_reasons_48 : decode cX13_reasons 48 = .ok (.ifCond .eq 6, 3) := by decide +kernel
theorem dX13_reasons_51 : decode cX13_reasons 51 = .ok (.goto 65, 3) := by decide +kernel
theorem dX13_reasons_54 : decode cX13_reasons 54 = .ok (.aload_n 0, 1) := by decide +kernel
theorem dX13_reasons_55 : decode cX13_reasons 55 = .ok (.iload 4, 2) := by decide +kernel
theorem dX13_reasons_57 : decode cX13_reasons 57 = .ok (.iconst 0, 1) := by decide +kernel
theorem dX13_reasons_58 : decode cX13_reasons 58 = .ok (.invokevirtual 49, 3) := by decide +kernel
theorem dX13_reasons_61 : decode cX13_reasons 61 = .ok (.istore 5, 2) := by decide +kernel
theorem dX13_reasons_63 : decode cX13_reasons 63 = .ok (.iconst 0, 1) := by decide +kernel
theorem dX13_reasons_64 : decode cX13_reasons 64 = .ok (.istore 6, 2) := by decide +kernel
theorem dX13_reasons_66 : decode cX13_reasons 66 = .ok (.aload_n 0, 1) := by decide +kernel
theorem dX13_reasons_67 : decode cX13_reasons 67 = .ok (.iload 5, 2) := by decide +kernel
theorem dX13_reasons_69 : decode cX13_reasons 69 = .ok (.iload 6, 2) := by decide +kernel
theorem dX13_reasons_71 : decode cX13_reasons 71 = .ok (.invokevirtual 75, 3) := by decide +kernel
theorem dX13_reasons_74 : decode cX13_reasons 74 = .ok (.ifCond .eq 42, 3) := by decide +kernel
theorem dX13_reasons_77 : decode cX13_reasons 77 = .ok (.iload_n 3, 1) := by decide +kernel
theorem dX13_reasons_78 : decode cX13_reasons 78 = .ok (.aload_n 0, 1) := by decide +kernel
theorem dX13_reasons_79 : decode cX13_reasons 79 = .ok (.iload 4, 2) := by decide +kernel
theorem dX13_reasons_81 : decode cX13_reasons 81 = .ok (.invokevirtual 79, 3) := by decide +kernel
theorem dX13_reasons_84 : decode cX13_reasons 84 = .ok (.ifCond .eq 23, 3) := by decide +kernel
theorem dX13_reasons_87 : decode cX13_reasons 87 = .ok (.aload_n 0, 1) := by decide +kernel
theorem dX13_reasons_88 : decode cX13_reasons 88 = .ok (.aload_n 0, 1) := by decide +kernel
theorem dX13_reasons_89 : decode cX13_reasons 89 = .ok (.getfield 26, 3) := by decide +kernel
theorem dX13_reasons_92 : decode cX13_reasons 92 = .ok (.iload 4, 2) := by decide +kernel
theorem dX13_reasons_94 : decode cX13_reasons 94 = .ok (.aaload, 1) := by decide +kernel
theorem dX13_reasons_95 : decode cX13_reasons 95 = .ok (.iconst 0, 1) := by decide +kernel
theorem dX13_reasons_96 : decode cX13_reasons 96 = .ok (.invokevirtual 42, 3) := by decide +kernel
theorem dX13_reasons_99 : decode cX13_reasons 99 = .ok (.iload_n 2, 1) := by decide +kernel
theorem dX13_reasons_100 : decode cX13_reasons 100 = .ok (.if_icmp .ne 7, 3) := by decide +kernel
theorem dX13_reasons_103 : decode cX13_reasons 103 = .ok (.iconst 1, 1) := by decide +kernel
theorem dX13_reasons_104 : decode cX13_reasons 104 = .ok (.goto 4, 3) := by decide +kernel
theorem dX13_reasons_107 : decode cX13_reasons 107 = .ok (.iconst 0, 1) := by decide +kernel
theorem dX13_reasons_108 : decode cX13_reasons 108 = .ok (.iadd, 1) := by decide +kernel
theorem dX13_reasons_109 : decode cX13_reasons 109 = .ok (.istore_n 3, 1) := by decide +kernel
theorem dX13_reasons_110 : decode cX13_reasons 110 = .ok (.iinc 6 1, 3) := by decide +kernel
theorem dX13_reasons_113 : decode cX13_reasons 113 = .ok (.goto (-47), 3) := by decide +kernel
theorem dX13_reasons_116 : decode cX13_reasons 116 = .ok (.iinc 4 1, 3) := by decide +kernel
theorem dX13_reasons_119 : decode cX13_reasons 119 = .ok (.goto (-99), 3) := by decide +kernel
theorem dX13_reasons_122 : decode cX13_reasons 122 = .ok (.iload_n 3, 1) := by decide +kernel
theorem dX13_reasons_123 : decode cX13_reasons 123 = .ok (.ireturn, 1) := by decide +kernel
theorem dX13_rowCount_0 : decode cX13_rowCount 0 = .ok (.iconst 0, 1) := by decide +kernel
theorem dX13_rowCount_1 : decode cX13_rowCount 1 = .ok (.istore_n 2, 1) := by decide +kernel
theorem dX13_rowCount_2 : decode cX13_rowCount 2 = .ok (.iconst 0, 1) := by decide +kernel
theorem dX13_rowCount_3 : decode cX13_rowCount 3 = .ok (.istore_n 3, 1) := by decide +kernel
theorem dX13_rowCount_4 : decode cX13_rowCount 4 = .ok (.iload_n 3, 1) := by decide +kernel
theorem dX13_rowCount_5 : decode cX13_rowCount 5 = .ok (.sipush 512, 3) := by decide +kernel
theorem dX13_rowCount_8 : decode cX13_rowCount 8 = .ok (.if_icmp .ge 28, 3) := by decide +kernel
theorem dX13_rowCount_11 : decode cX13_rowCount 11 = .ok (.iload_n 2, 1) := by decide +kernel
theorem dX13_rowCount_12 : decode cX13_rowCount 12 = .ok (.aload_n 0, 1) := by decide +kernel
theorem dX13_rowCount_13 : decode cX13_rowCount 13 = .ok (.getfield 29, 3) := by decide +kernel
theorem dX13_rowCount_16 : decode cX13_rowCount 16 = .ok (.iload_n 1, 1) := by decide +kernel
theorem dX13_rowCount_17 : decode cX13_rowCount 17 = .ok (.aaload, 1) := by decide +kernel
theorem dX13_rowCount_18 : decode cX13_rowCount 18 = .ok (.iload_n 3, 1) := by decide +kernel
theorem dX13_rowCount_19 : decode cX13_rowCount 19 = .ok (.baload, 1) := by decide +kernel
theorem dX13_rowCount_20 : decode cX13_rowCount 20 = .ok (.ifCond .eq 7, 3) := by decide +kernel
theorem dX13_rowCount_23 : decode cX13_rowCount 23 = .ok (.iconst 1, 1) := by decide +kernel
theorem dX13_rowCount_24 : decode cX13_rowCount 24 = .ok (.goto 4, 3) := by decide +kernel
theorem dX13_rowCount_27 : decode cX13_rowCount 27 = .ok (.iconst 0, 1) := by decide +kernel
theorem dX13_rowCount_28 : decode cX13_rowCount 28 = .ok (.iadd, 1) := by decide +kernel
theorem dX13_rowCount_29 : decode cX13_rowCount 29 = .ok (.istore_n 2, 1) := by decide +kernel
theorem dX13_rowCount_30 : decode cX13_rowCount 30 = .ok (.iinc 3 1, 3) := by decide +kernel
theorem dX13_rowCount_33 : decode cX13_rowCount 33 = .ok (.goto (-29), 3) := by decide +kernel
theorem dX13_rowCount_36 : decode cX13_rowCount 36 = .ok (.iload_n 2, 1) := by decide +kernel
theorem dX13_rowCount_37 : decode cX13_rowCount 37 = .ok (.ireturn, 1) := by decide +kernel
theorem dX13_factCount_0 : decode cX13_factCount 0 = .ok (.iconst 0, 1) := by decide +kernel
theorem dX13_factCount_1 : decode cX13_factCount 1 = .ok (.istore_n 2, 1) := by decide +kernel
theorem dX13_factCount_2 : decode cX13_factCount 2 = .ok (.iconst 0, 1) := by decide +kernel
theorem dX13_factCount_3 : decode cX13_factCount 3 = .ok (.istore_n 3, 1) := by decide +kernel
theorem dX13_factCount_4 : decode cX13_factCount 4 = .ok (.iload_n 3, 1) := by decide +kernel
theorem dX13_factCount_5 : decode cX13_factCount 5 = .ok (.sipush 512, 3) := by decide +kernel
theorem dX13_factCount_8 : decode cX13_factCount 8 = .ok (.if_icmp .ge 28, 3) := by decide +kernel
theorem dX13_factCount_11 : decode cX13_factCount 11 = .ok (.iload_n 2, 1) := by decide +kernel
theorem dX13_factCount_12 : decode cX13_factCount 12 = .ok (.aload_n 0, 1) := by decide +kernel
theorem dX13_factCount_13 : decode cX13_factCount 13 = .ok (.getfield 21, 3) := by decide +kernel
theorem dX13_factCount_16 : decode cX13_factCount 16 = .ok (.iload_n 1, 1) := by decide +kernel
theorem dX13_factCount_17 : decode cX13_factCount 17 = .ok (.aaload, 1) := by decide +kernel
theorem dX13_factCount_18 : decode cX13_factCount 18 = .ok (.iload_n 3, 1) := by decide +kernel
theorem dX13_factCount_19 : decode cX13_factCount 19 = .ok (.baload, 1) := by decide +kernel
theorem dX13_factCount_20 : decode cX13_factCount 20 = .ok (.ifCond .eq 7, 3) := by decide +kernel
theorem dX13_factCount_23 : decode cX13_factCount 23 = .ok (.iconst 1, 1) := by decide +kernel
theorem dX13_factCount_24 : decode cX13_factCount 24 = .ok (.goto 4, 3) := by decide +kernel
theorem dX13_factCount_27 : decode cX13_factCount 27 = .ok (.iconst 0, 1) := by decide +kernel
theorem dX13_factCount_28 : decode cX13_factCount 28 = .ok (.iadd, 1) := by decide +kernel
theorem dX13_factCount_29 : decode cX13_factCount 29 = .ok (.istore_n 2, 1) := by decide +kernel
theorem dX13_factCount_30 : decode cX13_factCount 30 = .ok (.iinc 3 1, 3) := by decide +kernel
theorem dX13_factCount_33 : decode cX13_factCount 33 = .ok (.goto (-29), 3) := by decide +kernel
theorem dX13_factCount_36 : decode cX13_factCount 36 = .ok (.iload_n 2, 1) := by decide +kernel
theorem dX13_factCount_37 : decode cX13_factCount 37 = .ok (.ireturn, 1) := by decide +kernel
theorem dJ6_bitCount_0f7a4_0 : decode cJ6_bitCount_0f7a4 0 = .ok (.iload_n 0, 1) := by decide +kernel
theorem dJ6_bitCount_0f7a4_1 : decode cJ6_bitCount_0f7a4 1 = .ok (.iload_n 0, 1) := by decide +kernel
theorem dJ6_bitCount_0f7a4_2 : decode cJ6_bitCount_0f7a4 2 = .ok (.iconst 1, 1) := by decide +kernel
theorem dJ6_bitCount_0f7a4_3 : decode cJ6_bitCount_0f7a4 3 = .ok (.iushr, 1) := by decide +kernel
theorem dJ6_bitCount_0f7a4_4 : decode cJ6_bitCount_0f7a4 4 = .ok (.ldc_w 265, 3) := by decide +kernel
theorem dJ6_bitCount_0f7a4_7 : decode cJ6_bitCount_0f7a4 7 = .ok (.iand, 1) := by decide +kernel
theorem dJ6_bitCount_0f7a4_8 : decode cJ6_bitCount_0f7a4 8 = .ok (.isub, 1) := by decide +kernel
theorem dJ6_bitCount_0f7a4_9 : decode cJ6_bitCount_0f7a4 9 = .ok (.istore_n 0, 1) := by decide +kernel
theorem dJ6_bitCount_0f7a4_10 : decode cJ6_bitCount_0f7a4 10 = .ok (.iload_n 0, 1) := by decide +kernel
theorem dJ6_bitCount_0f7a4_11 : decode cJ6_bitCount_0f7a4 11 = .ok (.ldc_w 266, 3) := by decide +kernel
theorem dJ6_bitCount_0f7a4_14 : decode cJ6_bitCount_0f7a4 14 = .ok (.iand, 1) := by decide +kernel
theorem dJ6_bitCount_0f7a4_15 : decode cJ6_bitCount_0f7a4 15 = .ok (.iload_n 0, 1) := by decide +kernel
theorem dJ6_bitCount_0f7a4_16 : decode cJ6_bitCount_0f7a4 16 = .ok (.iconst 2, 1) := by decide +kernel
theorem dJ6_bitCount_0f7a4_17 : decode cJ6_bitCount_0f7a4 17 = .ok (.iushr, 1) := by decide +kernel
theorem dJ6_bitCount_0f7a4_18 : decode cJ6_bitCount_0f7a4 18 = .ok (.ldc_w 266, 3) := by decide +kernel
theorem dJ6_bitCount_0f7a4_21 : decode cJ6_bitCount_0f7a4 21 = .ok (.iand, 1) := by decide +kernel
theorem dJ6_bitCount_0f7a4_22 : decode cJ6_bitCount_0f7a4 22 = .ok (.iadd, 1) := by decide +kernel
theorem dJ6_bitCount_0f7a4_23 : decode cJ6_bitCount_0f7a4 23 = .ok (.istore_n 0, 1) := by decide +kernel
theorem dJ6_bitCount_0f7a4_24 : decode cJ6_bitCount_0f7a4 24 = .ok (.iload_n 0, 1) := by decide +kernel
theorem dJ6_bitCount_0f7a4_25 : decode cJ6_bitCount_0f7a4 25 = .ok (.iload_n 0, 1) := by decide +kernel
theorem dJ6_bitCount_0f7a4_26 : decode cJ6_bitCount_0f7a4 26 = .ok (.iconst 4, 1) := by decide +kernel
theorem dJ6_bitCount_0f7a4_27 : decode cJ6_bitCount_0f7a4 27 = .ok (.iushr, 1) := by decide +kernel
theorem dJ6_bitCount_0f7a4_28 : decode cJ6_bitCount_0f7a4 28 = .ok (.iadd, 1) := by decide +kernel
theorem dJ6_bitCount_0f7a4_29 : decode cJ6_bitCount_0f7a4 29 = .ok (.ldc_w 267, 3) := by decide +kernel
theorem dJ6_bitCount_0f7a4_32 : decode cJ6_bitCount_0f7a4 32 = .ok (.iand, 1) := by decide +kernel
theorem dJ6_bitCount_0f7a4_33 : decode cJ6_bitCount_0f7a4 33 = .ok (.istore_n 0, 1) := by decide +kernel
theorem dJ6_bitCount_0f7a4_34 : decode cJ6_bitCount_0f7a4 34 = .ok (.iload_n 0, 1) := by decide +kernel
theorem dJ6_bitCount_0f7a4_35 : decode cJ6_bitCount_0f7a4 35 = .ok (.iload_n 0, 1) := by decide +kernel
theorem dJ6_bitCount_0f7a4_36 : decode cJ6_bitCount_0f7a4 36 = .ok (.bipush 8, 2) := by decide +kernel
theorem dJ6_bitCount_0f7a4_38 : decode cJ6_bitCount_0f7a4 38 = .ok (.iushr, 1) := by decide +kernel
theorem dJ6_bitCount_0f7a4_39 : decode cJ6_bitCount_0f7a4 39 = .ok (.iadd, 1) := by decide +kernel
theorem dJ6_bitCount_0f7a4_40 : decode cJ6_bitCount_0f7a4 40 = .ok (.istore_n 0, 1) := by decide +kernel
theorem dJ6_bitCount_0f7a4_41 : decode cJ6_bitCount_0f7a4 41 = .ok (.iload_n 0, 1) := by decide +kernel
theorem dJ6_bitCount_0f7a4_42 : decode cJ6_bitCount_0f7a4 42 = .ok (.iload_n 0, 1) := by decide +kernel
theorem dJ6_bitCount_0f7a4_43 : decode cJ6_bitCount_0f7a4 43 = .ok (.bipush 16, 2) := by decide +kernel
theorem dJ6_bitCount_0f7a4_45 : decode cJ6_bitCount_0f7a4 45 = .ok (.iushr, 1) := by decide +kernel
theorem dJ6_bitCount_0f7a4_46 : decode cJ6_bitCount_0f7a4 46 = .ok (.iadd, 1) := by decide +kernel
theorem dJ6_bitCount_0f7a4_47 : decode cJ6_bitCount_0f7a4 47 = .ok (.istore_n 0, 1) := by decide +kernel
theorem dJ6_bitCount_0f7a4_48 : decode cJ6_bitCount_0f7a4 48 = .ok (.iload_n 0, 1) := by decide +kernel
theorem dJ6_bitCount_0f7a4_49 : decode cJ6_bitCount_0f7a4 49 = .ok (.bipush 63, 2) := by decide +kernel
theorem dJ6_bitCount_0f7a4_51 : decode cJ6_bitCount_0f7a4 51 = .ok (.iand, 1) := by decide +kernel
theorem dJ6_bitCount_0f7a4_52 : decode cJ6_bitCount_0f7a4 52 = .ok (.ireturn, 1) := by decide +kernel
theorem dJ13_bitCount_95d88_0 : decode cJ13_bitCount_95d88 0 = .ok (.lload_n 0, 1) := by decide +kernel
theorem dJ13_bitCount_95d88_1 : decode cJ13_bitCount_95d88 1 = .ok (.lload_n 0, 1) := by decide +kernel
theorem dJ13_bitCount_95d88_2 : decode cJ13_bitCount_95d88 2 = .ok (.iconst 1, 1) := by decide +kernel
theorem dJ13_bitCount_95d88_3 : decode cJ13_bitCount_95d88 3 = .ok (.lushr, 1) := by decide +kernel
theorem dJ13_bitCount_95d88_4 : decode cJ13_bitCount_95d88 4 = .ok (.ldc2_w 314, 3) := by decide +kernel
theorem dJ13_bitCount_95d88_7 : decode cJ13_bitCount_95d88 7 = .ok (.land, 1) := by decide +kernel
theorem dJ13_bitCount_95d88_8 : decode cJ13_bitCount_95d88 8 = .ok (.lsub, 1) := by decide +kernel
theorem dJ13_bitCount_95d88_9 : decode cJ13_bitCount_95d88 9 = .ok (.lstore_n 0, 1) := by decide +kernel
theorem dJ13_bitCount_95d88_10 : decode cJ13_bitCount_95d88 10 = .ok (.lload_n 0, 1) := by decide +kernel
theorem dJ13_bitCount_95d88_11 : decode cJ13_bitCount_95d88 11 = .ok (.ldc2_w 316, 3) := by decide +kernel
theorem dJ13_bitCount_95d88_14 : decode cJ13_bitCount_95d88 14 = .ok (.land, 1) := by decide +kernel
theorem dJ13_bitCount_95d88_15 : decode cJ13_bitCount_95d88 15 = .ok (.lload_n 0, 1) := by decide +kernel
theorem dJ13_bitCount_95d88_16 : decode cJ13_bitCount_95d88 16 = .ok (.iconst 2, 1) := by decide +kernel
theorem dJ13_bitCount_95d88_17 : decode cJ13_bitCount_95d88 17 = .ok (.lushr, 1) := by decide +kernel
theorem dJ13_bitCount_95d88_18 : decode cJ13_bitCount_95d88 18 = .ok (.ldc2_w 316, 3) := by decide +kernel
theorem dJ13_bitCount_95d88_21 : decode cJ13_bitCount_95d88 21 = .ok (.land, 1) := by decide +kernel
theorem dJ13_bitCount_95d88_22 : decode cJ13_bitCount_95d88 22 = .ok (.ladd, 1) := by decide +kernel
theorem dJ13_bitCount_95d88_23 : decode cJ13_bitCount_95d88 23 = .ok (.lstore_n 0, 1) := by decide +kernel
theorem dJ13_bitCount_95d88_24 : decode cJ13_bitCount_95d88 24 = .ok (.lload_n 0, 1) := by decide +kernel
theorem dJ13_bitCount_95d88_25 : decode cJ13_bitCount_95d88 25 = .ok (.lload_n 0, 1) := by decide +kernel
theorem dJ13_bitCount_95d88_26 : decode cJ13_bitCount_95d88 26 = .ok (.iconst 4, 1) := by decide +kernel
theorem dJ13_bitCount_95d88_27 : decode cJ13_bitCount_95d88 27 = .ok (.lushr, 1) := by decide +kernel
theorem dJ13_bitCount_95d88_28 : decode cJ13_bitCount_95d88 28 = .ok (.ladd, 1) := by decide +kernel
theorem dJ13_bitCount_95d88_29 : decode cJ13_bitCount_95d88 29 = .ok (.ldc2_w 318, 3) := by decide +kernel
theorem dJ13_bitCount_95d88_32 : decode cJ13_bitCount_95d88 32 = .ok (.land, 1) := by decide +kernel
theorem dJ13_bitCount_95d88_33 : decode cJ13_bitCount_95d88 33 = .ok (.lstore_n 0, 1) := by decide +kernel
theorem dJ13_bitCount_95d88_34 : decode cJ13_bitCount_95d88 34 = .ok (.lload_n 0, 1) := by decide +kernel
theorem dJ13_bitCount_95d88_35 : decode cJ13_bitCount_95d88 35 = .ok (.lload_n 0, 1) := by decide +kernel
theorem dJ13_bitCount_95d88_36 : decode cJ13_bitCount_95d88 36 = .ok (.bipush 8, 2) := by decide +kernel
theorem dJ13_bitCount_95d88_38 : decode cJ13_bitCount_95d88 38 = .ok (.lushr, 1) := by decide +kernel
theorem dJ13_bitCount_95d88_39 : decode cJ13_bitCount_95d88 39 = .ok (.ladd, 1) := by decide +kernel
theorem dJ13_bitCount_95d88_40 : decode cJ13_bitCount_95d88 40 = .ok (.lstore_n 0, 1) := by decide +kernel
theorem dJ13_bitCount_95d88_41 : decode cJ13_bitCount_95d88 41 = .ok (.lload_n 0, 1) := by decide +kernel
theorem dJ13_bitCount_95d88_42 : decode cJ13_bitCount_95d88 42 = .ok (.lload_n 0, 1) := by decide +kernel
theorem dJ13_bitCount_95d88_43 : decode cJ13_bitCount_95d88 43 = .ok (.bipush 16, 2) := by decide +kernel
theorem dJ13_bitCount_95d88_45 : decode cJ13_bitCount_95d88 45 = .ok (.lushr, 1) := by decide +kernel
theorem dJ13_bitCount_95d88_46 : decode cJ13_bitCount_95d88 46 = .ok (.ladd, 1) := by decide +kernel
theorem dJ13_bitCount_95d88_47 : decode cJ13_bitCount_95d88 47 = .ok (.lstore_n 0, 1) := by decide +kernel
theorem dJ13_bitCount_95d88_48 : decode cJ13_bitCount_95d88 48 = .ok (.lload_n 0, 1) := by decide +kernel
theorem dJ13_bitCount_95d88_49 : decode cJ13_bitCount_95d88 49 = .ok (.lload_n 0, 1) := by decide +kernel
theorem dJ13_bitCount_95d88_50 : decode cJ13_bitCount_95d88 50 = .ok (.bipush 32, 2) := by decide +kernel
theorem dJ13_bitCount_95d88_52 : decode cJ13_bitCount_95d88 52 = .ok (.lushr, 1) := by decide +kernel
theorem dJ13_bitCount_95d88_53 : decode cJ13_bitCount_95d88 53 = .ok (.ladd, 1) := by decide +kernel
theorem dJ13_bitCount_95d88_54 : decode cJ13_bitCount_95d88 54 = .ok (.lstore_n 0, 1) := by decide +kernel
theorem dJ13_bitCount_95d88_55 : decode cJ13_bitCount_95d88 55 = .ok (.lload_n 0, 1) := by decide +kernel
theorem dJ13_bitCount_95d88_56 : decode cJ13_bitCount_95d88 56 = .ok (.l2i, 1) := by decide +kernel
theorem dJ13_bitCount_95d88_57 : decode cJ13_bitCount_95d88 57 = .ok (.bipush 127, 2) := by decide +kernel
theorem dJ13_bitCount_95d88_59 : decode cJ13_bitCount_95d88 59 = .ok (.iand, 1) := by decide +kernel
theorem dJ13_bitCount_95d88_60 : decode cJ13_bitCount_95d88 60 = .ok (.ireturn, 1) := by decide +kernel
theorem dJ9_max_7cf53_0 : decode cJ9_max_7cf53 0 = .ok (.iload_n 0, 1) := by decide +kernel
theorem dJ9_max_7cf53_1 : decode cJ9_max_7cf53 1 = .ok (.iload_n 1, 1) := by decide +kernel
theorem dJ9_max_7cf53_2 : decode cJ9_max_7cf53 2 = .ok (.if_icmp .lt 7, 3) := by decide +kernel
theorem dJ9_max_7cf53_5 : decode cJ9_max_7cf53 5 = .ok (.iload_n 0, 1) := by decide +kernel
theorem dJ9_max_7cf53_6 : decode cJ9_max_7cf53 6 = .ok (.goto 4, 3) := by decide +kernel
theorem dJ9_max_7cf53_9 : decode cJ9_max_7cf53 9 = .ok (.iload_n 1, 1) := by decide +kernel
theorem dJ9_max_7cf53_10 : decode cJ9_max_7cf53 10 = .ok (.ireturn, 1) := by decide +kernel
theorem dJ9_min_7cf53_0 : decode cJ9_min_7cf53 0 = .ok (.iload_n 0, 1) := by decide +kernel
theorem dJ9_min_7cf53_1 : decode cJ9_min_7cf53 1 = .ok (.iload_n 1, 1) := by decide +kernel
theorem dJ9_min_7cf53_2 : decode cJ9_min_7cf53 2 = .ok (.if_icmp .gt 7, 3) := by decide +kernel
theorem dJ9_min_7cf53_5 : decode cJ9_min_7cf53 5 = .ok (.iload_n 0, 1) := by decide +kernel
theorem dJ9_min_7cf53_6 : decode cJ9_min_7cf53 6 = .ok (.goto 4, 3) := by decide +kernel
theorem dJ9_min_7cf53_9 : decode cJ9_min_7cf53 9 = .ok (.iload_n 1, 1) := by decide +kernel
theorem dJ9_min_7cf53_10 : decode cJ9_min_7cf53 10 = .ok (.ireturn, 1) := by decide +kernel
theorem dJ9_min_f86c9_0 : decode cJ9_min_f86c9 0 = .ok (.lload_n 0, 1) := by decide +kernel
theorem dJ9_min_f86c9_1 : decode cJ9_min_f86c9 1 = .ok (.lload_n 2, 1) := by decide +kernel
theorem dJ9_min_f86c9_2 : decode cJ9_min_f86c9 2 = .ok (.lcmp, 1) := by decide +kernel
theorem dJ9_min_f86c9_3 : decode cJ9_min_f86c9 3 = .ok (.ifCond .gt 7, 3) := by decide +kernel
theorem dJ9_min_f86c9_6 : decode cJ9_min_f86c9 6 = .ok (.lload_n 0, 1) := by decide +kernel
theorem dJ9_min_f86c9_7 : decode cJ9_min_f86c9 7 = .ok (.goto 4, 3) := by decide +kernel
theorem dJ9_min_f86c9_10 : decode cJ9_min_f86c9 10 = .ok (.lload_n 2, 1) := by decide +kernel
theorem dJ9_min_f86c9_11 : decode cJ9_min_f86c9 11 = .ok (.lreturn, 1) := by decide +kernel
theorem dJ7_fill_d0a16_0 : decode cJ7_fill_d0a16 0 = .ok (.iconst 0, 1) := by decide +kernel
theorem dJ7_fill_d0a16_1 : decode cJ7_fill_d0a16 1 = .ok (.istore_n 3, 1) := by decide +kernel
theorem dJ7_fill_d0a16_2 : decode cJ7_fill_d0a16 2 = .ok (.aload_n 0, 1) := by decide +kernel
theorem dJ7_fill_d0a16_3 : decode cJ7_fill_d0a16 3 = .ok (.arraylength, 1) := by decide +kernel
theorem dJ7_fill_d0a16_4 : decode cJ7_fill_d0a16 4 = .ok (.istore 4, 2) := by decide +kernel
theorem dJ7_fill_d0a16_6 : decode cJ7_fill_d0a16 6 = .ok (.iload_n 3, 1) := by decide +kernel
theorem dJ7_fill_d0a16_7 : decode cJ7_fill_d0a16 7 = .ok (.iload 4, 2) := by decide +kernel
theorem dJ7_fill_d0a16_9 : decode cJ7_fill_d0a16 9 = .ok (.if_icmp .ge 13, 3) := by decide +kernel
theorem dJ7_fill_d0a16_12 : decode cJ7_fill_d0a16 12 = .ok (.aload_n 0, 1) := by decide +kernel
theorem dJ7_fill_d0a16_13 : decode cJ7_fill_d0a16 13 = .ok (.iload_n 3, 1) := by decide +kernel
theorem dJ7_fill_d0a16_14 : decode cJ7_fill_d0a16 14 = .ok (.lload_n 1, 1) := by decide +kernel
theorem dJ7_fill_d0a16_15 : decode cJ7_fill_d0a16 15 = .ok (.lastore, 1) := by decide +kernel
theorem dJ7_fill_d0a16_16 : decode cJ7_fill_d0a16 16 = .ok (.iinc 3 1, 3) := by decide +kernel
theorem dJ7_fill_d0a16_19 : decode cJ7_fill_d0a16 19 = .ok (.goto (-13), 3) := by decide +kernel
theorem dJ7_fill_d0a16_22 : decode cJ7_fill_d0a16 22 = .ok (.return_, 1) := by decide +kernel
theorem dJ7_fill_53178_0 : decode cJ7_fill_53178 0 = .ok (.iconst 0, 1) := by decide +kernel
theorem dJ7_fill_53178_1 : decode cJ7_fill_53178 1 = .ok (.istore_n 2, 1) := by decide +kernel
theorem dJ7_fill_53178_2 : decode cJ7_fill_53178 2 = .ok (.aload_n 0, 1) := by decide +kernel
theorem dJ7_fill_53178_3 : decode cJ7_fill_53178 3 = .ok (.arraylength, 1) := by decide +kernel
theorem dJ7_fill_53178_4 : decode cJ7_fill_53178 4 = .ok (.istore_n 3, 1) := by decide +kernel
theorem dJ7_fill_53178_5 : decode cJ7_fill_53178 5 = .ok (.iload_n 2, 1) := by decide +kernel
theorem dJ7_fill_53178_6 : decode cJ7_fill_53178 6 = .ok (.iload_n 3, 1) := by decide +kernel
theorem dJ7_fill_53178_7 : decode cJ7_fill_53178 7 = .ok (.if_icmp .ge 13, 3) := by decide +kernel
theorem dJ7_fill_53178_10 : decode cJ7_fill_53178 10 = .ok (.aload_n 0, 1) := by decide +kernel
theorem dJ7_fill_53178_11 : decode cJ7_fill_53178 11 = .ok (.iload_n 2, 1) := by decide +kernel
theorem dJ7_fill_53178_12 : decode cJ7_fill_53178 12 = .ok (.iload_n 1, 1) := by decide +kernel
theorem dJ7_fill_53178_13 : decode cJ7_fill_53178 13 = .ok (.iastore, 1) := by decide +kernel
theorem dJ7_fill_53178_14 : decode cJ7_fill_53178 14 = .ok (.iinc 2 1, 3) := by decide +kernel
theorem dJ7_fill_53178_17 : decode cJ7_fill_53178 17 = .ok (.goto (-12), 3) := by decide +kernel
theorem dJ7_fill_53178_20 : decode cJ7_fill_53178 20 = .ok (.return_, 1) := by decide +kernel
theorem dL_valueIn_0 : decode cL_valueIn 0 = .ok (.iload_n 0, 1) := by decide +kernel
theorem dL_valueIn_1 : decode cL_valueIn 1 = .ok (.bipush 6, 2) := by decide +kernel
theorem dL_valueIn_3 : decode cL_valueIn 3 = .ok (.iconst 3, 1) := by decide +kernel
theorem dL_valueIn_4 : decode cL_valueIn 4 = .ok (.iload_n 1, 1) := by decide +kernel
theorem dL_valueIn_5 : decode cL_valueIn 5 = .ok (.imul, 1) := by decide +kernel
theorem dL_valueIn_6 : decode cL_valueIn 6 = .ok (.isub, 1) := by decide +kernel
theorem dL_valueIn_7 : decode cL_valueIn 7 = .ok (.ishr, 1) := by decide +kernel
theorem dL_valueIn_8 : decode cL_valueIn 8 = .ok (.bipush 7, 2) := by decide +kernel
theorem dL_valueIn_10 : decode cL_valueIn 10 = .ok (.iand, 1) := by decide +kernel
theorem dL_valueIn_11 : decode cL_valueIn 11 = .ok (.ireturn, 1) := by decide +kernel
theorem dL_addFact_0 : decode cL_addFact 0 = .ok (.aload_n 0, 1) := by decide +kernel
theorem dL_addFact_1 : decode cL_addFact 1 = .ok (.iload_n 1, 1) := by decide +kernel
theorem dL_addFact_2 : decode cL_addFact 2 = .ok (.iload_n 2, 1) := by decide +kernel
theorem dL_addFact_3 : decode cL_addFact 3 = .ok (.iconst 0, 1) := by decide +kernel
theorem dL_addFact_4 : decode cL_addFact 4 = .ok (.invokestatic 7, 3) := by decide +kernel
theorem dL_addFact_7 : decode cL_addFact 7 = .ok (.iload_n 2, 1) := by decide +kernel
theorem dL_addFact_8 : decode cL_addFact 8 = .ok (.iconst 1, 1) := by decide +kernel
theorem dL_addFact_9 : decode cL_addFact 9 = .ok (.invokestatic 7, 3) := by decide +kernel
theorem dL_addFact_12 : decode cL_addFact 12 = .ok (.iload_n 2, 1) := by decide +kernel
theorem dL_addFact_13 : decode cL_addFact 13 = .ok (.iconst 2, 1) := by decide +kernel
theorem dL_addFact_14 : decode cL_addFact 14 = .ok (.invokestatic 7, 3) := by decide +kernel
theorem dL_addFact_17 : decode cL_addFact 17 = .ok (.invokevirtual 13, 3) := by decide +kernel
theorem dL_addFact_20 : decode cL_addFact 20 = .ok (.ireturn, 1) := by decide +kernel
theorem dL_addFact_21 : decode cL_addFact 21 = .ok (.astore_n 3, 1) := by decide +kernel
theorem dL_addFact_22 : decode cL_addFact 22 = .ok (.iconst (-1), 1) := by decide +kernel
theorem dL_addFact_23 : decode cL_addFact 23 = .ok (.ireturn, 1) := by decide +kernel
theorem dL_addRuleAtom_0 : decode cL_addRuleAtom 0 = .ok (.aload_n 0, 1) := by decide +kernel
theorem dL_addRuleAtom_1 : decode cL_addRuleAtom 1 = .ok (.iload_n 1, 1) := by decide +kernel
theorem dL_addRuleAtom_2 : decode cL_addRuleAtom 2 = .ok (.aload_n 2, 1) := by decide +kernel
theorem dL_addRuleAtom_3 : decode cL_addRuleAtom 3 = .ok (.iload_n 3, 1) := by decide +kernel
theorem dL_addRuleAtom_4 : decode cL_addRuleAtom 4 = .ok (.iaload, 1) := by decide +kernel
theorem dL_addRuleAtom_5 : decode cL_addRuleAtom 5 = .ok (.aload_n 2, 1) := by decide +kernel
theorem dL_addRuleAtom_6 : decode cL_addRuleAtom 6 = .ok (.iload_n 3, 1) := by decide +kernel
theorem dL_addRuleAtom_7 : decode cL_addRuleAtom 7 = .ok (.iconst 1, 1) := by decide +kernel
theorem dL_addRuleAtom_8 : decode cL_addRuleAtom 8 = .ok (.iadd, 1) := by decide +kernel
theorem dL_addRuleAtom_9 : decode cL_addRuleAtom 9 = .ok (.iaload, 1) := by decide +kernel
theorem dL_addRuleAtom_10 : decode cL_addRuleAtom 10 = .ok (.aload_n 2, 1) := by decide +kernel
theorem dL_addRuleAtom_11 : decode cL_addRuleAtom 11 = .ok (.iload_n 3, 1) := by decide +kernel
theorem dL_addRuleAtom_12 : decode cL_addRuleAtom 12 = .ok (.iconst 2, 1) := by decide +kernel
theorem dL_addRuleAtom_13 : decode cL_addRuleAtom 13 = .ok (.iadd, 1) := by decide +kernel
theorem dL_addRuleAtom_14 : decode cL_addRuleAtom 14 = .ok (.iaload, 1) := by decide +kernel
theorem dL_addRuleAtom_15 : decode cL_addRuleAtom 15 = .ok (.aload_n 2, 1) := by decide +kernel
theorem dL_addRuleAtom_16 : decode cL_addRuleAtom 16 = .ok (.iload_n 3, 1) := by decide +kernel
theorem dL_addRuleAtom_17 : decode cL_addRuleAtom 17 = .ok (.iconst 3, 1) := by decide +kernel
theorem dL_addRuleAtom_18 : decode cL_addRuleAtom 18 = .ok (.iadd, 1) := by decide +kernel
theorem dL_addRuleAtom_19 : decode cL_addRuleAtom 19 = .ok (.iaload, 1) := by decide +kernel
theorem dL_addRuleAtom_20 : decode cL_addRuleAtom 20 = .ok (.aload_n 2, 1) := by decide +kernel
theorem dL_addRuleAtom_21 : decode cL_addRuleAtom 21 = .ok (.iload_n 3, 1) := by decide +kernel
theorem dL_addRuleAtom_22 : decode cL_addRuleAtom 22 = .ok (.iconst 4, 1) := by decide +kernel
theorem dL_addRuleAtom_23 : decode cL_addRuleAtom 23 = .ok (.iadd, 1) := by decide +kernel
theorem dL_addRuleAtom_24 : decode cL_addRuleAtom 24 = .ok (.iaload, 1) := by decide +kernel
theorem dL_addRuleAtom_25 : decode cL_addRuleAtom 25 = .ok (.iconst 1, 1) := by decide +kernel
theorem dL_addRuleAtom_26 : decode cL_addRuleAtom 26 = .ok (.if_icmp .ne 7, 3) := by decide +kernel
theorem dL_addRuleAtom_29 : decode cL_addRuleAtom 29 = .ok (.iconst 1, 1) := by decide +kernel
theorem dL_addRuleAtom_30 : decode cL_addRuleAtom 30 = .ok (.goto 4, 3) := by decide +kernel
theorem dL_addRuleAtom_33 : decode cL_addRuleAtom 33 = .ok (.iconst 0, 1) := by decide +kernel
theorem dL_addRuleAtom_34 : decode cL_addRuleAtom 34 = .ok (.invokevirtual 21, 3) := by decide +kernel
theorem dL_addRuleAtom_37 : decode cL_addRuleAtom 37 = .ok (.ireturn, 1) := by decide +kernel
theorem dL_addRuleAtom_38 : decode cL_addRuleAtom 38 = .ok (.astore 4, 2) := by decide +kernel
theorem dL_addRuleAtom_40 : decode cL_addRuleAtom 40 = .ok (.iconst (-1), 1) := by decide +kernel
theorem dL_addRuleAtom_41 : decode cL_addRuleAtom 41 = .ok (.ireturn, 1) := by decide +kernel
theorem dL_seek_0 : decode cL_seek 0 = .ok (.aload_n 0, 1) := by decide +kernel
theorem dL_seek_1 : decode cL_seek 1 = .ok (.iload_n 1, 1) := by decide +kernel
theorem dL_seek_2 : decode cL_seek 2 = .ok (.aload_n 2, 1) := by decide +kernel
theorem dL_seek_3 : decode cL_seek 3 = .ok (.iconst 0, 1) := by decide +kernel
theorem dL_seek_4 : decode cL_seek 4 = .ok (.iaload, 1) := by decide +kernel
theorem dL_seek_5 : decode cL_seek 5 = .ok (.aload_n 2, 1) := by decide +kernel
theorem dL_seek_6 : decode cL_seek 6 = .ok (.iconst 1, 1) := by decide +kernel
theorem dL_seek_7 : decode cL_seek 7 = .ok (.iaload, 1) := by decide +kernel
theorem dL_seek_8 : decode cL_seek 8 = .ok (.aload_n 2, 1) := by decide +kernel
theorem dL_seek_9 : decode cL_seek 9 = .ok (.iconst 2, 1) := by decide +kernel
theorem dL_seek_10 : decode cL_seek 10 = .ok (.iaload, 1) := by decide +kernel
theorem dL_seek_11 : decode cL_seek 11 = .ok (.aload_n 2, 1) := by decide +kernel
theorem dL_seek_12 : decode cL_seek 12 = .ok (.iconst 3, 1) := by decide +kernel
theorem dL_seek_13 : decode cL_seek 13 = .ok (.iaload, 1) := by decide +kernel
theorem dL_seek_14 : decode cL_seek 14 = .ok (.invokevirtual 25, 3) := by decide +kernel
theorem dL_seek_17 : decode cL_seek 17 = .ok (.ireturn, 1) := by decide +kernel
theorem dL_seek_18 : decode cL_seek 18 = .ok (.astore_n 3, 1) := by decide +kernel
theorem dL_seek_19 : decode cL_seek 19 = .ok (.iconst (-1), 1) := by decide +kernel
theorem dL_seek_20 : decode cL_seek 20 = .ok (.ireturn, 1) := by decide +kernel
theorem dL_drawnCode_0 : decode cL_drawnCode 0 = .ok (.iconst 0, 1) := by decide +kernel
theorem dL_drawnCode_1 : decode cL_drawnCode 1 = .ok (.istore 4, 2) := by decide +kernel
theorem dL_drawnCode_3 : decode cL_drawnCode 3 = .ok (.iconst 0, 1) := by decide +kernel
theorem dL_drawnCode_4 : decode cL_drawnCode 4 = .ok (.istore 5, 2) := by decide +kernel
theorem dL_drawnCode_6 : decode cL_drawnCode 6 = .ok (.iload 5, 2) := by decide +kernel
theorem dL_drawnCode_8 : decode cL_drawnCode 8 = .ok (.aload_n 0, 1) := by decide +kernel
theorem dL_drawnCode_9 : decode cL_drawnCode 9 = .ok (.getfield 31, 3) := by decide +kernel
theorem dL_drawnCode_12 : decode cL_drawnCode 12 = .ok (.iload_n 2, 1) := by decide +kernel
theorem dL_drawnCode_13 : decode cL_drawnCode 13 = .ok (.iaload, 1) := by decide +kernel
theorem dL_drawnCode_14 : decode cL_drawnCode 14 = .ok (.if_icmp .ge 27, 3) := by decide +kernel
theorem dL_drawnCode_17 : decode cL_drawnCode 17 = .ok (.iload 4, 2) := by decide +kernel
theorem dL_drawnCode_19 : decode cL_drawnCode 19 = .ok (.aload_n 1, 1) := by decide +kernel
theorem dL_drawnCode_20 : decode cL_drawnCode 20 = .ok (.iload_n 3, 1) := by decide +kernel
theorem dL_drawnCode_21 : decode cL_drawnCode 21 = .ok (.invokevirtual 37, 3) := by decide +kernel
theorem dL_drawnCode_24 : decode cL_drawnCode 24 = .ok (.bipush 6, 2) := by decide +kernel
theorem dL_drawnCode_26 : decode cL_drawnCode 26 = .ok (.iconst 3, 1) := by decide +kernel
theorem dL_drawnCode_27 : decode cL_drawnCode 27 = .ok (.iload 5, 2) := by decide +kernel
theorem dL_drawnCode_29 : decode cL_drawnCode 29 = .ok (.imul, 1) := by decide +kernel
theorem dL_drawnCode_30 : decode cL_drawnCode 30 = .ok (.isub, 1) := by decide +kernel
theorem dL_drawnCode_31 : decode cL_drawnCode 31 = .ok (.ishl, 1) := by decide +kernel
theorem dL_drawnCode_32 : decode cL_drawnCode 32 = .ok (.ior, 1) := by decide +kernel
theorem dL_drawnCode_33 : decode cL_drawnCode 33 = .ok (.istore 4, 2) := by decide +kernel
theorem dL_drawnCode_35 : decode cL_drawnCode 35 = .ok (.iinc 5 1, 3) := by decide +kernel
theorem dL_drawnCode_38 : decode cL_drawnCode 38 = .ok (.goto (-32), 3) := by decide +kernel
theorem dL_drawnCode_41 : decode cL_drawnCode 41 = .ok (.iload 4, 2) := by decide +kernel
theorem dL_drawnCode_43 : decode cL_drawnCode 43 = .ok (.ireturn, 1) := by decide +kernel
theorem dL_laysAtom_0 : decode cL_laysAtom 0 = .ok (.aload_n 1, 1) := by decide +kernel
theorem dL_laysAtom_1 : decode cL_laysAtom 1 = .ok (.aload_n 0, 1) := by decide +kernel
theorem dL_laysAtom_2 : decode cL_laysAtom 2 = .ok (.getfield 43, 3) := by decide +kernel
theorem dL_laysAtom_5 : decode cL_laysAtom 5 = .ok (.invokevirtual 37, 3) := by decide +kernel
theorem dL_laysAtom_8 : decode cL_laysAtom 8 = .ok (.istore 5, 2) := by decide +kernel
theorem dL_laysAtom_10 : decode cL_laysAtom 10 = .ok (.aload_n 2, 1) := by decide +kernel
theorem dL_laysAtom_11 : decode cL_laysAtom 11 = .ok (.iload_n 3, 1) := by decide +kernel
theorem dL_laysAtom_12 : decode cL_laysAtom 12 = .ok (.iload 5, 2) := by decide +kernel
theorem dL_laysAtom_14 : decode cL_laysAtom 14 = .ok (.iastore, 1) := by decide +kernel
theorem dL_laysAtom_15 : decode cL_laysAtom 15 = .ok (.iconst 0, 1) := by decide +kernel
theorem dL_laysAtom_16 : decode cL_laysAtom 16 = .ok (.istore 6, 2) := by decide +kernel
theorem dL_laysAtom_18 : decode cL_laysAtom 18 = .ok (.iload 6, 2) := by decide +kernel
theorem dL_laysAtom_20 : decode cL_laysAtom 20 = .ok (.iconst 3, 1) := by decide +kernel
theorem dL_laysAtom_21 : decode cL_laysAtom 21 = .ok (.if_icmp .ge 39, 3) := by decide +kernel
theorem dL_laysAtom_24 : decode cL_laysAtom 24 = .ok (.aload_n 2, 1) := by decide +kernel
theorem dL_laysAtom_25 : decode cL_laysAtom 25 = .ok (.iload_n 3, 1) := by decide +kernel
theorem dL_laysAtom_26 : decode cL_laysAtom 26 = .ok (.iconst 1, 1) := by decide +kernel
theorem dL_laysAtom_27 : decode cL_laysAtom 27 = .ok (.iadd, 1) := by decide +kernel
theorem dL_laysAtom_28 : decode cL_laysAtom 28 = .ok (.iload 6, 2) := by decide +kernel
theorem dL_laysAtom_30 : decode cL_laysAtom 30 = .ok (.iadd, 1) := by decide +kernel
theorem dL_laysAtom_31 : decode cL_laysAtom 31 = .ok (.iload 6, 2) := by decide +kernel
theorem dL_laysAtom_33 : decode cL_laysAtom 33 = .ok (.aload_n 0, 1) := by decide +kernel
theorem dL_laysAtom_34 : decode cL_laysAtom 34 = .ok (.getfield 31, 3) := by decide +kernel
theorem dL_laysAtom_37 : decode cL_laysAtom 37 = .ok (.iload 5, 2) := by decide +kernel
theorem dL_laysAtom_39 : decode cL_laysAtom 39 = .ok (.iaload, 1) := by decide +kernel
theorem dL_laysAtom_40 : decode cL_laysAtom 40 = .ok (.if_icmp .ge 12, 3) := by decide +kernel
theorem dL_laysAtom_43 : decode cL_laysAtom 43 = .ok (.aload_n 1, 1) := by decide +kernel
theorem dL_laysAtom_44 : decode cL_laysAtom 44 = .ok (.iload 4, 2) := by decide +kernel
theorem dL_laysAtom_46 : decode cL_laysAtom 46 = .ok (.invokevirtual 37, 3) := by decide +kernel
theorem dL_laysAtom_49 : decode cL_laysAtom 49 = .ok (.goto 4, 3) := by decide +kernel
theorem dL_laysAtom_52 : decode cL_laysAtom 52 = .ok (.iconst 0, 1) := by decide +kernel
theorem dL_laysAtom_53 : decode cL_laysAtom 53 = .ok (.iastore, 1) := by decide +kernel
theorem dL_laysAtom_54 : decode cL_laysAtom 54 = .ok (.iinc 6 1, 3) := by decide +kernel
theorem dL_laysAtom_57 : decode cL_laysAtom 57 = .ok (.goto (-39), 3) := by decide +kernel
theorem dL_laysAtom_60 : decode cL_laysAtom 60 = .ok (.return_, 1) := by decide +kernel
theorem dL_drawsTables_0 : decode cL_drawsTables 0 = .ok (.bipush 6, 2) := by decide +kernel
theorem dL_drawsTables_2 : decode cL_drawsTables 2 = .ok (.anewarray 47, 3) := by decide +kernel
theorem dL_drawsTables_5 : decode cL_drawsTables 5 = .ok (.dup, 1) := by decide +kernel
theorem dL_drawsTables_6 : decode cL_drawsTables 6 = .ok (.iconst 0, 1) := by decide +kernel
theorem dL_drawsTables_7 : decode cL_drawsTables 7 = .ok (.iconst 2, 1) := by decide +kernel
theorem dL_drawsTables_8 : decode cL_drawsTables 8 = .ok (.newarray .int, 2) := by decide +kernel
theorem dL_drawsTables_10 : decode cL_drawsTables 10 = .ok (.dup, 1) := by decide +kernel
theorem dL_drawsTables_11 : decode cL_drawsTables 11 = .ok (.iconst 0, 1) := by decide +kernel
theorem dL_drawsTables_12 : decode cL_drawsTables 12 = .ok (.iconst 0, 1) := by decide +kernel
theorem dL_drawsTables_13 : decode cL_drawsTables 13 = .ok (.iastore, 1) := by decide +kernel
theorem dL_drawsTables_14 : decode cL_drawsTables 14 = .ok (.dup, 1) := by decide +kernel
theorem dL_drawsTables_15 : decode cL_drawsTables 15 = .ok (.iconst 1, 1) := by decide +kernel
theorem dL_drawsTables_16 : decode cL_drawsTables 16 = .ok (.iconst 1, 1) := by decide +kernel
theorem dL_drawsTables_17 : decode cL_drawsTables 17 = .ok (.iastore, 1) := by decide +kernel
theorem dL_drawsTables_18 : decode cL_drawsTables 18 = .ok (.aastore, 1) := by decide +kernel
theorem dL_drawsTables_19 : decode cL_drawsTables 19 = .ok (.dup, 1) := by decide +kernel
theorem dL_drawsTables_20 : decode cL_drawsTables 20 = .ok (.iconst 1, 1) := by decide +kernel
theorem dL_drawsTables_21 : decode cL_drawsTables 21 = .ok (.iconst 2, 1) := by decide +kernel
theorem dL_drawsTables_22 : decode cL_drawsTables 22 = .ok (.newarray .int, 2) := by decide +kernel
theorem dL_drawsTables_24 : decode cL_drawsTables 24 = .ok (.dup, 1) := by decide +kernel
theorem dL_drawsTables_25 : decode cL_drawsTables 25 = .ok (.iconst 0, 1) := by decide +kernel
theorem dL_drawsTables_26 : decode cL_drawsTables 26 = .ok (.iconst 0, 1) := by decide +kernel
theorem dL_drawsTables_27 : decode cL_drawsTables 27 = .ok (.iastore, 1) := by decide +kernel
theorem dL_drawsTables_28 : decode cL_drawsTables 28 = .ok (.dup, 1) := by decide +kernel
theorem dL_drawsTables_29 : decode cL_drawsTables 29 = .ok (.iconst 1, 1) := by decide +kernel
theorem dL_drawsTables_30 : decode cL_drawsTables 30 = .ok (.iconst 2, 1) := by decide +kernel
theorem dL_drawsTables_31 : decode cL_drawsTables 31 = .ok (.iastore, 1) := by decide +kernel
theorem dL_drawsTables_32 : decode cL_drawsTables 32 = .ok (.aastore, 1) := by decide +kernel
theorem dL_drawsTables_33 : decode cL_drawsTables 33 = .ok (.dup, 1) := by decide +kernel
theorem dL_drawsTables_34 : decode cL_drawsTables 34 = .ok (.iconst 2, 1) := by decide +kernel
theorem dL_drawsTables_35 : decode cL_drawsTables 35 = .ok (.iconst 2, 1) := by decide +kernel
theorem dL_drawsTables_36 : decode cL_drawsTables 36 = .ok (.newarray .int, 2) := by decide +kernel
theorem dL_drawsTables_38 : decode cL_drawsTables 38 = .ok (.dup, 1) := by decide +kernel
theorem dL_drawsTables_39 : decode cL_drawsTables 39 = .ok (.iconst 0, 1) := by decide +kernel
theorem dL_drawsTables_40 : decode cL_drawsTables 40 = .ok (.iconst 1, 1) := by decide +kernel
theorem dL_drawsTables_41 : decode cL_drawsTables 41 = .ok (.iastore, 1) := by decide +kernel
theorem dL_drawsTables_42 : decode cL_drawsTables 42 = .ok (.dup, 1) := by decide +kernel
theorem dL_drawsTables_43 : decode cL_drawsTables 43 = .ok (.iconst 1, 1) := by decide +kernel
theorem dL_drawsTables_44 : decode cL_drawsTables 44 = .ok (.iconst 2, 1) := by decide +kernel
theorem dL_drawsTables_45 : decode cL_drawsTables 45 = .ok (.iastore, 1) := by decide +kernel
theorem dL_drawsTables_46 : decode cL_drawsTables 46 = .ok (.aastore, 1) := by decide +kernel
theorem dL_drawsTables_47 : decode cL_drawsTables 47 = .ok (.dup, 1) := by decide +kernel
theorem dL_drawsTables_48 : decode cL_drawsTables 48 = .ok (.iconst 3, 1) := by decide +kernel
theorem dL_drawsTables_49 : decode cL_drawsTables 49 = .ok (.iconst 2, 1) := by decide +kernel
theorem dL_drawsTables_50 : decode cL_drawsTables 50 = .ok (.newarray .int, 2) := by decide +kernel
theorem dL_drawsTables_52 : decode cL_drawsTables 52 = .ok (.dup, 1) := by decide +kernel
theorem dL_drawsTables_53 : decode cL_drawsTables 53 = .ok (.iconst 0, 1) := by decide +kernel
theorem dL_drawsTables_54 : decode cL_drawsTables 54 = .ok (.iconst 2, 1) := by decide +kernel
theorem dL_drawsTables_55 : decode cL_drawsTables 55 = .ok (.iastore, 1) := by decide +kernel
theorem dL_drawsTables_56 : decode cL_drawsTables 56 = .ok (.dup, 1) := by decide +kernel
theorem dL_drawsTables_57 : decode cL_drawsTables 57 = .ok (.iconst 1, 1) := by decide +kernel
theorem dL_drawsTables_58 : decode cL_drawsTables 58 = .ok (.iconst 0, 1) := by decide +kernel
theorem dL_drawsTables_59 : decode cL_drawsTables 59 = .ok (.iastore, 1) := by decide +kernel
theorem dL_drawsTables_60 : decode cL_drawsTables 60 = .ok (.aastore, 1) := by decide +kernel
theorem dL_drawsTables_61 : decode cL_drawsTables 61 = .ok (.dup, 1) := by decide +kernel
theorem dL_drawsTables_62 : decode cL_drawsTables 62 = .ok (.iconst 4, 1) := by decide +kernel
theorem dL_drawsTables_63 : decode cL_drawsTables 63 = .ok (.iconst 2, 1) := by decide +kernel
theorem dL_drawsTables_64 : decode cL_drawsTables 64 = .ok (.newarray .int, 2) := by decide +kernel
theorem dL_drawsTables_66 : decode cL_drawsTables 66 = .ok (.dup, 1) := by decide +kernel
theorem dL_drawsTables_67 : decode cL_drawsTables 67 = .ok (.iconst 0, 1) := by decide +kernel
theorem dL_drawsTables_68 : decode cL_drawsTables 68 = .ok (.iconst 2, 1) := by decide +kernel
theorem dL_drawsTables_69 : decode cL_drawsTables 69 = .ok (.iastore, 1) := by decide +kernel
theorem dL_drawsTables_70 : decode cL_drawsTables 70 = .ok (.dup, 1) := by decide +kernel
theorem dL_drawsTables_71 : decode cL_drawsTables 71 = .ok (.iconst 1, 1) := by decide +kernel
theorem dL_drawsTables_72 : decode cL_drawsTables 72 = .ok (.iconst 3, 1) := by decide +kernel
theorem dL_drawsTables_73 : decode cL_drawsTables 73 = .ok (.iastore, 1) := by decide +kernel
theorem dL_drawsTables_74 : decode cL_drawsTables 74 = .ok (.aastore, 1) := by decide +kernel
theorem dL_drawsTables_75 : decode cL_drawsTables 75 = .ok (.dup, 1) := by decide +kernel
theorem dL_drawsTables_76 : decode cL_drawsTables 76 = .ok (.iconst 5, 1) := by decide +kernel
theorem dL_drawsTables_77 : decode cL_drawsTables 77 = .ok (.iconst 2, 1) := by decide +kernel
theorem dL_drawsTables_78 : decode cL_drawsTables 78 = .ok (.newarray .int, 2) := by decide +kernel
theorem dL_drawsTables_80 : decode cL_drawsTables 80 = .ok (.dup, 1) := by decide +kernel
theorem dL_drawsTables_81 : decode cL_drawsTables 81 = .ok (.iconst 0, 1) := by decide +kernel
theorem dL_drawsTables_82 : decode cL_drawsTables 82 = .ok (.iconst 3, 1) := by decide +kernel
theorem dL_drawsTables_83 : decode cL_drawsTables 83 = .ok (.iastore, 1) := by decide +kernel
theorem dL_drawsTables_84 : decode cL_drawsTables 84 = .ok (.dup, 1) := by decide +kernel
theorem dL_drawsTables_85 : decode cL_drawsTables 85 = .ok (.iconst 1, 1) := by decide +kernel
theorem dL_drawsTables_86 : decode cL_drawsTables 86 = .ok (.iconst 4, 1) := by decide +kernel
theorem dL_drawsTables_87 : decode cL_drawsTables 87 = .ok (.iastore, 1) := by decide +kernel
theorem dL_drawsTables_88 : decode cL_drawsTables 88 = .ok (.aastore, 1) := by decide +kernel
theorem dL_drawsTables_89 : decode cL_drawsTables 89 = .ok (.astore_n 3, 1) := by decide +kernel
theorem dL_drawsTables_90 : decode cL_drawsTables 90 = .ok (.aload_n 3, 1) := by decide +kernel
theorem dL_drawsTables_91 : decode cL_drawsTables 91 = .ok (.arraylength, 1) := by decide +kernel
theorem dL_drawsTables_92 : decode cL_drawsTables 92 = .ok (.istore 4, 2) := by decide +kernel
theorem dL_drawsTables_94 : decode cL_drawsTables 94 = .ok (.iconst 0, 1) := by decide +kernel
theorem dL_drawsTables_95 : decode cL_drawsTables 95 = .ok (.istore 5, 2) := by decide +kernel
theorem dL_drawsTables_97 : decode cL_drawsTables 97 = .ok (.iload 5, 2) := by decide +kernel
theorem dL_drawsTables_99 : decode cL_drawsTables 99 = .ok (.iload 4, 2) := by decide +kernel
theorem dL_drawsTables_101 : decode cL_drawsTables 101 = .ok (.if_icmp .ge 38, 3) := by decide +kernel
theorem dL_drawsTables_104 : decode cL_drawsTables 104 = .ok (.aload_n 3, 1) := by decide +kernel
theorem dL_drawsTables_105 : decode cL_drawsTables 105 = .ok (.iload 5, 2) := by decide +kernel
theorem dL_drawsTables_107 : decode cL_drawsTables 107 = .ok (.aaload, 1) := by decide +kernel
theorem dL_drawsTables_108 : decode cL_drawsTables 108 = .ok (.astore 6, 2) := by decide +kernel
theorem dL_drawsTables_110 : decode cL_drawsTables 110 = .ok (.aload_n 1, 1) := by decide +kernel
theorem dL_drawsTables_111 : decode cL_drawsTables 111 = .ok (.getfield 48, 3) := by decide +kernel
theorem dL_drawsTables_114 : decode cL_drawsTables 114 = .ok (.iconst 0, 1) := by decide +kernel
theorem dL_drawsTables_115 : decode cL_drawsTables 115 = .ok (.aaload, 1) := by decide +kernel
theorem dL_drawsTables_116 : decode cL_drawsTables 116 = .ok (.bipush 64, 2) := by decide +kernel
theorem dL_drawsTables_118 : decode cL_drawsTables 118 = .ok (.aload 6, 2) := by decide +kernel
theorem dL_drawsTables_120 : decode cL_drawsTables 120 = .ok (.iconst 0, 1) := by decide +kernel
theorem dL_drawsTables_121 : decode cL_drawsTables 121 = .ok (.iaload, 1) := by decide +kernel
theorem dL_drawsTables_122 : decode cL_drawsTables 122 = .ok (.imul, 1) := by decide +kernel
theorem dL_drawsTables_123 : decode cL_drawsTables 123 = .ok (.bipush 8, 2) := by decide +kernel
theorem dL_drawsTables_125 : decode cL_drawsTables 125 = .ok (.aload 6, 2) := by decide +kernel
theorem dL_drawsTables_127 : decode cL_drawsTables 127 = .ok (.iconst 1, 1) := by decide +kernel
theorem dL_drawsTables_128 : decode cL_drawsTables 128 = .ok (.iaload, 1) := by decide +kernel
theorem dL_drawsTables_129 : decode cL_drawsTables 129 = .ok (.imul, 1) := by decide +kernel
theorem dL_drawsTables_130 : decode cL_drawsTables 130 = .ok (.iadd, 1) := by decide +kernel
theorem dL_drawsTables_131 : decode cL_drawsTables 131 = .ok (.iconst 1, 1) := by decide +kernel
theorem dL_drawsTables_132 : decode cL_drawsTables 132 = .ok (.bastore, 1) := by decide +kernel
theorem dL_drawsTables_133 : decode cL_drawsTables 133 = .ok (.iinc 5 1, 3) := by decide +kernel
theorem dL_drawsTables_136 : decode cL_drawsTables 136 = .ok (.goto (-39), 3) := by decide +kernel
theorem dL_drawsTables_139 : decode cL_drawsTables 139 = .ok (.aload_n 1, 1) := by decide +kernel
theorem dL_drawsTables_140 : decode cL_drawsTables 140 = .ok (.getfield 48, 3) := by decide +kernel
theorem dL_drawsTables_143 : decode cL_drawsTables 143 = .ok (.iconst 2, 1) := by decide +kernel
theorem dL_drawsTables_144 : decode cL_drawsTables 144 = .ok (.aaload, 1) := by decide +kernel
theorem dL_drawsTables_145 : decode cL_drawsTables 145 = .ok (.sipush 192, 3) := by decide +kernel
theorem dL_drawsTables_148 : decode cL_drawsTables 148 = .ok (.iconst 1, 1) := by decide +kernel
theorem dL_drawsTables_149 : decode cL_drawsTables 149 = .ok (.bastore, 1) := by decide +kernel
theorem dL_drawsTables_150 : decode cL_drawsTables 150 = .ok (.aload_n 2, 1) := by decide +kernel
theorem dL_drawsTables_151 : decode cL_drawsTables 151 = .ok (.iconst 3, 1) := by decide +kernel
theorem dL_drawsTables_152 : decode cL_drawsTables 152 = .ok (.invokevirtual 37, 3) := by decide +kernel
theorem dL_drawsTables_155 : decode cL_drawsTables 155 = .ok (.istore_n 3, 1) := by decide +kernel
theorem dL_drawsTables_156 : decode cL_drawsTables 156 = .ok (.iload_n 3, 1) := by decide +kernel
theorem dL_drawsTables_157 : decode cL_drawsTables 157 = .ok (.ifCond .le 57, 3) := by decide +kernel
theorem dL_drawsTables_160 : decode cL_drawsTables 160 = .ok (.aload_n 1, 1) := by decide +kernel
theorem dL_drawsTables_161 : decode cL_drawsTables 161 = .ok (.getfield 31, 3) := by decide +kernel
theorem dL_drawsTables_164 : decode cL_drawsTables 164 = .ok (.aload_n 1, 1) := by decide +kernel
theorem dL_drawsTables_165 : decode cL_drawsTables 165 = .ok (.getfield 43, 3) := by decide +kernel
theorem dL_drawsTables_168 : decode cL_drawsTables 168 = .ok (.iconst 1, 1) := by decide +kernel
theorem dL_drawsTables_169 : decode cL_drawsTables 169 = .ok (.aload_n 2, 1) := by decide +kernel
theorem dL_drawsTables_170 : decode cL_drawsTables 170 = .ok (.iconst 3, 1) := by decide +kernel
theorem dL_drawsTables_171 : decode cL_drawsTables 171 = .ok (.invokevirtual 37, 3) := by decide +kernel
theorem dL_drawsTables_174 : decode cL_drawsTables 174 = .ok (.iadd, 1) := by decide +kernel
theorem dL_drawsTables_175 : decode cL_drawsTables 175 = .ok (.iastore, 1) := by decide +kernel
theorem dL_drawsTables_176 : decode cL_drawsTables 176 = .ok (.aload_n 0, 1) := by decide +kernel
theorem dL_drawsTables_177 : decode cL_drawsTables 177 = .ok (.aload_n 1, 1) := by decide +kernel
theorem dL_drawsTables_178 : decode cL_drawsTables 178 = .ok (.getfield 31, 3) := by decide +kernel
theorem dL_drawsTables_181 : decode cL_drawsTables 181 = .ok (.aload_n 1, 1) := by decide +kernel
theorem dL_drawsTables_182 : decode cL_drawsTables 182 = .ok (.getfield 43, 3) := by decide +kernel
theorem dL_drawsTables_185 : decode cL_drawsTables 185 = .ok (.iaload, 1) := by decide +kernel
theorem dL_drawsTables_186 : decode cL_drawsTables 186 = .ok (.invokevirtual 52, 3) := by decide +kernel
theorem dL_drawsTables_189 : decode cL_drawsTables 189 = .ok (.aload_n 1, 1) := by decide +kernel
theorem dL_drawsTables_190 : decode cL_drawsTables 190 = .ok (.getfield 43, 3) := by decide +kernel
theorem dL_drawsTables_193 : decode cL_drawsTables 193 = .ok (.if_icmp .eq 5, 3) := by decide +kernel
theorem dL_drawsTables_196 : decode cL_drawsTables 196 = .ok (.iconst 0, 1) := by decide +kernel
theorem dL_drawsTables_197 : decode cL_drawsTables 197 = .ok (.ireturn, 1) := by decide +kernel
theorem dL_drawsTables_198 : decode cL_drawsTables 198 = .ok (.aload_n 1, 1) := by decide +kernel
theorem dL_drawsTables_199 : decode cL_drawsTables 199 = .ok (.dup, 1) := by decide +kernel
theorem dL_drawsTables_200 : decode cL_drawsTables 200 = .ok (.getfield 43, 3) := by decide +kernel
theorem dL_drawsTables_203 : decode cL_drawsTables 203 = .ok (.iconst 1, 1) := by decide +kernel
theorem dL_drawsTables_204 : decode cL_drawsTables 204 = .ok (.iadd, 1) := by decide +kernel
theorem dL_drawsTables_205 : decode cL_drawsTables 205 = .ok (.putfield 43, 3) := by decide +kernel
theorem dL_drawsTables_208 : decode cL_drawsTables 208 = .ok (.iinc 3 (-1), 3) := by decide +kernel
theorem dL_drawsTables_211 : decode cL_drawsTables 211 = .ok (.goto (-55), 3) := by decide +kernel
theorem dL_drawsTables_214 : decode cL_drawsTables 214 = .ok (.iconst 3, 1) := by decide +kernel
theorem dL_drawsTables_215 : decode cL_drawsTables 215 = .ok (.aload_n 2, 1) := by decide +kernel
theorem dL_drawsTables_216 : decode cL_drawsTables 216 = .ok (.iconst 4, 1) := by decide +kernel
theorem dL_drawsTables_217 : decode cL_drawsTables 217 = .ok (.invokevirtual 37, 3) := by decide +kernel
theorem dL_drawsTables_220 : decode cL_drawsTables 220 = .ok (.iadd, 1) := by decide +kernel
theorem dL_drawsTables_221 : decode cL_drawsTables 221 = .ok (.istore_n 3, 1) := by decide +kernel
theorem dL_drawsTables_222 : decode cL_drawsTables 222 = .ok (.iconst 4, 1) := by decide +kernel
theorem dL_drawsTables_223 : decode cL_drawsTables 223 = .ok (.aload_n 2, 1) := by decide +kernel
theorem dL_drawsTables_224 : decode cL_drawsTables 224 = .ok (.bipush 14, 2) := by decide +kernel
theorem dL_drawsTables_226 : decode cL_drawsTables 226 = .ok (.invokevirtual 37, 3) := by decide +kernel
theorem dL_drawsTables_229 : decode cL_drawsTables 229 = .ok (.iadd, 1) := by decide +kernel
theorem dL_drawsTables_230 : decode cL_drawsTables 230 = .ok (.istore 4, 2) := by decide +kernel
theorem dL_drawsTables_232 : decode cL_drawsTables 232 = .ok (.iload 4, 2) := by decide +kernel
theorem dL_drawsTables_234 : decode cL_drawsTables 234 = .ok (.ifCond .le 88, 3) := by decide +kernel
theorem dL_drawsTables_237 : decode cL_drawsTables 237 = .ok (.aload_n 2, 1) := by decide +kernel
theorem dL_drawsTables_238 : decode cL_drawsTables 238 = .ok (.aload_n 1, 1) := by decide +kernel
theorem dL_drawsTables_239 : decode cL_drawsTables 239 = .ok (.getfield 43, 3) := by decide +kernel
theorem dL_drawsTables_242 : decode cL_drawsTables 242 = .ok (.invokevirtual 37, 3) := by decide +kernel
theorem dL_drawsTables_245 : decode cL_drawsTables 245 = .ok (.istore 5, 2) := by decide +kernel
theorem dL_drawsTables_247 : decode cL_drawsTables 247 = .ok (.aload_n 1, 1) := by decide +kernel
theorem dL_drawsTables_248 : decode cL_drawsTables 248 = .ok (.aload_n 2, 1) := by decide +kernel
theorem dL_drawsTables_249 : decode cL_drawsTables 249 = .ok (.iload 5, 2) := by decide +kernel
theorem dL_drawsTables_251 : decode cL_drawsTables 251 = .ok (.iload_n 3, 1) := by decide +kernel
theorem dL_drawsTables_252 : decode cL_drawsTables 252 = .ok (.invokestatic 55, 3) := by decide +kernel
theorem dL_drawsTables_255 : decode cL_drawsTables 255 = .ok (.istore 6, 2) := by decide +kernel
theorem dL_drawsTables_257 : decode cL_drawsTables 257 = .ok (.aload_n 1, 1) := by decide +kernel
theorem dL_drawsTables_258 : decode cL_drawsTables 258 = .ok (.getfield 48, 3) := by decide +kernel
theorem dL_drawsTables_261 : decode cL_drawsTables 261 = .ok (.iload 5, 2) := by decide +kernel
theorem dL_drawsTables_263 : decode cL_drawsTables 263 = .ok (.aaload, 1) := by decide +kernel
theorem dL_drawsTables_264 : decode cL_drawsTables 264 = .ok (.iload 6, 2) := by decide +kernel
theorem dL_drawsTables_266 : decode cL_drawsTables 266 = .ok (.baload, 1) := by decide +kernel
theorem dL_drawsTables_267 : decode cL_drawsTables 267 = .ok (.ifCond .ne 7, 3) := by decide +kernel
theorem dL_drawsTables_270 : decode cL_drawsTables 270 = .ok (.iconst 1, 1) := by decide +kernel
theorem dL_drawsTables_271 : decode cL_drawsTables 271 = .ok (.goto 4, 3) := by decide +kernel
theorem dL_drawsTables_274 : decode cL_drawsTables 274 = .ok (.iconst 0, 1) := by decide +kernel
theorem dL_drawsTables_275 : decode cL_drawsTables 275 = .ok (.istore 7, 2) := by decide +kernel
theorem dL_drawsTables_277 : decode cL_drawsTables 277 = .ok (.aload_n 1, 1) := by decide +kernel
theorem dL_drawsTables_278 : decode cL_drawsTables 278 = .ok (.getfield 48, 3) := by decide +kernel
theorem dL_drawsTables_281 : decode cL_drawsTables 281 = .ok (.iload 5, 2) := by decide +kernel
theorem dL_drawsTables_283 : decode cL_drawsTables 283 = .ok (.aaload, 1) := by decide +kernel
theorem dL_drawsTables_284 : decode cL_drawsTables 284 = .ok (.iload 6, 2) := by decide +kernel
theorem dL_drawsTables_286 : decode cL_drawsTables 286 = .ok (.iconst 1, 1) := by decide +kernel
theorem dL_drawsTables_287 : decode cL_drawsTables 287 = .ok (.bastore, 1) := by decide +kernel
theorem dL_drawsTables_288 : decode cL_drawsTables 288 = .ok (.aload_n 0, 1) := by decide +kernel
theorem dL_drawsTables_289 : decode cL_drawsTables 289 = .ok (.iload 5, 2) := by decide +kernel
theorem dL_drawsTables_291 : decode cL_drawsTables 291 = .ok (.iload 6, 2) := by decide +kernel
theorem dL_drawsTables_293 : decode cL_drawsTables 293 = .ok (.invokestatic 59, 3) := by decide +kernel
theorem dL_drawsTables_296 : decode cL_drawsTables 296 = .ok (.iload 7, 2) := by decide +kernel
theorem dL_drawsTables_298 : decode cL_drawsTables 298 = .ok (.ifCond .eq 12, 3) := by decide +kernel
theorem dL_drawsTables_301 : decode cL_drawsTables 301 = .ok (.aload_n 1, 1) := by decide +kernel
theorem dL_drawsTables_302 : decode cL_drawsTables 302 = .ok (.iload 5, 2) := by decide +kernel
theorem dL_drawsTables_304 : decode cL_drawsTables 304 = .ok (.invokevirtual 62, 3) := by decide +kernel
theorem dL_drawsTables_307 : decode cL_drawsTables 307 = .ok (.goto 4, 3) := by decide +kernel
theorem dL_drawsTables_310 : decode cL_drawsTables 310 = .ok (.iconst (-1), 1) := by decide +kernel
theorem dL_drawsTables_311 : decode cL_drawsTables 311 = .ok (.if_icmp .eq 5, 3) := by decide +kernel
theorem dL_drawsTables_314 : decode cL_drawsTables 314 = .ok (.iconst 0, 1) := by decide +kernel
theorem dL_drawsTables_315 : decode cL_drawsTables 315 = .ok (.ireturn, 1) := by decide +kernel
theorem dL_drawsTables_316 : decode cL_drawsTables 316 = .ok (.iinc 4 (-1), 3) := by decide +kernel
theorem dL_drawsTables_319 : decode cL_drawsTables 319 = .ok (.goto (-87), 3) := by decide +kernel
theorem dL_drawsTables_322 : decode cL_drawsTables 322 = .ok (.aload_n 2, 1) := by decide +kernel
theorem dL_drawsTables_323 : decode cL_drawsTables 323 = .ok (.iconst 4, 1) := by decide +kernel
theorem dL_drawsTables_324 : decode cL_drawsTables 324 = .ok (.invokevirtual 37, 3) := by decide +kernel
theorem dL_drawsTables_327 : decode cL_drawsTables 327 = .ok (.istore 4, 2) := by decide +kernel
theorem dL_drawsTables_329 : decode cL_drawsTables 329 = .ok (.iload 4, 2) := by decide +kernel
theorem dL_drawsTables_331 : decode cL_drawsTables 331 = .ok (.ifCond .le 71, 3) := by decide +kernel
theorem dL_drawsTables_334 : decode cL_drawsTables 334 = .ok (.aload_n 1, 1) := by decide +kernel
theorem dL_drawsTables_335 : decode cL_drawsTables 335 = .ok (.aload_n 2, 1) := by decide +kernel
theorem dL_drawsTables_336 : decode cL_drawsTables 336 = .ok (.iconst 0, 1) := by decide +kernel
theorem dL_drawsTables_337 : decode cL_drawsTables 337 = .ok (.iconst 5, 1) := by decide +kernel
theorem dL_drawsTables_338 : decode cL_drawsTables 338 = .ok (.invokestatic 55, 3) := by decide +kernel
theorem dL_drawsTables_341 : decode cL_drawsTables 341 = .ok (.istore 5, 2) := by decide +kernel
theorem dL_drawsTables_343 : decode cL_drawsTables 343 = .ok (.aload_n 1, 1) := by decide +kernel
theorem dL_drawsTables_344 : decode cL_drawsTables 344 = .ok (.getfield 48, 3) := by decide +kernel
theorem dL_drawsTables_347 : decode cL_drawsTables 347 = .ok (.iconst 0, 1) := by decide +kernel
theorem dL_drawsTables_348 : decode cL_drawsTables 348 = .ok (.aaload, 1) := by decide +kernel
theorem dL_drawsTables_349 : decode cL_drawsTables 349 = .ok (.iload 5, 2) := by decide +kernel
theorem dL_drawsTables_351 : decode cL_drawsTables 351 = .ok (.baload, 1) := by decide +kernel
theorem dL_drawsTables_352 : decode cL_drawsTables 352 = .ok (.ifCond .ne 6, 3) := by decide +kernel
theorem dL_drawsTables_355 : decode cL_drawsTables 355 = .ok (.goto 41, 3) := by decide +kernel
theorem dL_drawsTables_358 : decode cL_drawsTables 358 = .ok (.aload_n 1, 1) := by decide +kernel
theorem dL_drawsTables_359 : decode cL_drawsTables 359 = .ok (.getfield 48, 3) := by decide +kernel
theorem dL_drawsTables_362 : decode cL_drawsTables 362 = .ok (.iconst 0, 1) := by decide +kernel
theorem dL_drawsTables_363 : decode cL_drawsTables 363 = .ok (.aaload, 1) := by decide +kernel
theorem dL_drawsTables_364 : decode cL_drawsTables 364 = .ok (.iload 5, 2) := by decide +kernel
theorem dL_drawsTables_366 : decode cL_drawsTables 366 = .ok (.iconst 0, 1) := by decide +kernel
theorem dL_drawsTables_367 : decode cL_drawsTables 367 = .ok (.bastore, 1) := by decide +kernel
theorem dL_drawsTables_368 : decode cL_drawsTables 368 = .ok (.aload_n 0, 1) := by decide +kernel
theorem dL_drawsTables_369 : decode cL_drawsTables 369 = .ok (.iconst 0, 1) := by decide +kernel
theorem dL_drawsTables_370 : decode cL_drawsTables 370 = .ok (.iload 5, 2) := by decide +kernel
theorem dL_drawsTables_372 : decode cL_drawsTables 372 = .ok (.iconst 0, 1) := by decide +kernel
theorem dL_drawsTables_373 : decode cL_drawsTables 373 = .ok (.invokestatic 7, 3) := by decide +kernel
theorem dL_drawsTables_376 : decode cL_drawsTables 376 = .ok (.iload 5, 2) := by decide +kernel
theorem dL_drawsTables_378 : decode cL_drawsTables 378 = .ok (.iconst 1, 1) := by decide +kernel
theorem dL_drawsTables_379 : decode cL_drawsTables 379 = .ok (.invokestatic 7, 3) := by decide +kernel
theorem dL_drawsTables_382 : decode cL_drawsTables 382 = .ok (.iconst 0, 1) := by decide +kernel
theorem dL_drawsTables_383 : decode cL_drawsTables 383 = .ok (.invokevirtual 65, 3) := by decide +kernel
theorem dL_drawsTables_386 : decode cL_drawsTables 386 = .ok (.aload_n 1, 1) := by decide +kernel
theorem dL_drawsTables_387 : decode cL_drawsTables 387 = .ok (.iconst 0, 1) := by decide +kernel
theorem dL_drawsTables_388 : decode cL_drawsTables 388 = .ok (.invokevirtual 62, 3) := by decide +kernel
theorem dL_drawsTables_391 : decode cL_drawsTables 391 = .ok (.if_icmp .eq 5, 3) := by decide +kernel
theorem dL_drawsTables_394 : decode cL_drawsTables 394 = .ok (.iconst 0, 1) := by decide +kernel
theorem dL_drawsTables_395 : decode cL_drawsTables 395 = .ok (.ireturn, 1) := by decide +kernel
theorem dL_drawsTables_396 : decode cL_drawsTables 396 = .ok (.iinc 4 (-1), 3) := by decide +kernel
theorem dL_drawsTables_399 : decode cL_drawsTables 399 = .ok (.goto (-70), 3) := by decide +kernel
theorem dL_drawsTables_402 : decode cL_drawsTables 402 = .ok (.iconst 1, 1) := by decide +kernel
theorem dL_drawsTables_403 : decode cL_drawsTables 403 = .ok (.ireturn, 1) := by decide +kernel
theorem dL_firstRules_0 : decode cL_firstRules 0 = .ok (.aload_n 0, 1) := by decide +kernel
theorem dL_firstRules_1 : decode cL_firstRules 1 = .ok (.iconst 2, 1) := by decide +kernel
theorem dL_firstRules_2 : decode cL_firstRules 2 = .ok (.putfield 68, 3) := by decide +kernel
theorem dL_firstRules_5 : decode cL_firstRules 5 = .ok (.bipush 10, 2) := by decide +kernel
theorem dL_firstRules_7 : decode cL_firstRules 7 = .ok (.newarray .int, 2) := by decide +kernel
theorem dL_firstRules_9 : decode cL_firstRules 9 = .ok (.dup, 1) := by decide +kernel
theorem dL_firstRules_10 : decode cL_firstRules 10 = .ok (.iconst 0, 1) := by decide +kernel
theorem dL_firstRules_11 : decode cL_firstRules 11 = .ok (.iconst 1, 1) := by decide +kernel
theorem dL_firstRules_12 : decode cL_firstRules 12 = .ok (.iastore, 1) := by decide +kernel
theorem dL_firstRules_13 : decode cL_firstRules 13 = .ok (.dup, 1) := by decide +kernel
theorem dL_firstRules_14 : decode cL_firstRules 14 = .ok (.iconst 1, 1) := by decide +kernel
theorem dL_firstRules_15 : decode cL_firstRules 15 = .ok (.iconst 0, 1) := by decide +kernel
theorem dL_firstRules_16 : decode cL_firstRules 16 = .ok (.iastore, 1) := by decide +kernel
theorem dL_firstRules_17 : decode cL_firstRules 17 = .ok (.dup, 1) := by decide +kernel
theorem dL_firstRules_18 : decode cL_firstRules 18 = .ok (.iconst 2, 1) := by decide +kernel
theorem dL_firstRules_19 : decode cL_firstRules 19 = .ok (.iconst 1, 1) := by decide +kernel
theorem dL_firstRules_20 : decode cL_firstRules 20 = .ok (.iastore, 1) := by decide +kernel
theorem dL_firstRules_21 : decode cL_firstRules 21 = .ok (.dup, 1) := by decide +kernel
theorem dL_firstRules_22 : decode cL_firstRules 22 = .ok (.iconst 3, 1) := by decide +kernel
theorem dL_firstRules_23 : decode cL_firstRules 23 = .ok (.iconst 0, 1) := by decide +kernel
theorem dL_firstRules_24 : decode cL_firstRules 24 = .ok (.iastore, 1) := by decide +kernel
theorem dL_firstRules_25 : decode cL_firstRules 25 = .ok (.dup, 1) := by decide +kernel
theorem dL_firstRules_26 : decode cL_firstRules 26 = .ok (.iconst 4, 1) := by decide +kernel
theorem dL_firstRules_27 : decode cL_firstRules 27 = .ok (.iconst 1, 1) := by decide +kernel
theorem dL_firstRules_28 : decode cL_firstRules 28 = .ok (.iastore, 1) := by decide +kernel
theorem dL_firstRules_29 : decode cL_firstRules 29 = .ok (.dup, 1) := by decide +kernel
theorem dL_firstRules_30 : decode cL_firstRules 30 = .ok (.iconst 5, 1) := by decide +kernel
theorem dL_firstRules_31 : decode cL_firstRules 31 = .ok (.iconst 0, 1) := by decide +kernel
theorem dL_firstRules_32 : decode cL_firstRules 32 = .ok (.iastore, 1) := by decide +kernel
theorem dL_firstRules_33 : decode cL_firstRules 33 = .ok (.dup, 1) := by decide +kernel
theorem dL_firstRules_34 : decode cL_firstRules 34 = .ok (.bipush 6, 2) := by decide +kernel
theorem dL_firstRules_36 : decode cL_firstRules 36 = .ok (.iconst 0, 1) := by decide +kernel
theorem dL_firstRules_37 : decode cL_firstRules 37 = .ok (.iastore, 1) := by decide +kernel
theorem dL_firstRules_38 : decode cL_firstRules 38 = .ok (.dup, 1) := by decide +kernel
theorem dL_firstRules_39 : decode cL_firstRules 39 = .ok (.bipush 7, 2) := by decide +kernel
theorem dL_firstRules_41 : decode cL_firstRules 41 = .ok (.iconst 1, 1) := by decide +kernel
theorem dL_firstRules_42 : decode cL_firstRules 42 = .ok (.iastore, 1) := by decide +kernel
theorem dL_firstRules_43 : decode cL_firstRules 43 = .ok (.dup, 1) := by decide +kernel
theorem dL_firstRules_44 : decode cL_firstRules 44 = .ok (.bipush 8, 2) := by decide +kernel
theorem dL_firstRules_46 : decode cL_firstRules 46 = .ok (.iconst 0, 1) := by decide +kernel
theorem dL_firstRules_47 : decode cL_firstRules 47 = .ok (.iastore, 1) := by decide +kernel
theorem dL_firstRules_48 : decode cL_firstRules 48 = .ok (.dup, 1) := by decide +kernel
theorem dL_firstRules_49 : decode cL_firstRules 49 = .ok (.bipush 9, 2) := by decide +kernel
theorem dL_firstRules_51 : decode cL_firstRules 51 = .ok (.iconst 0, 1) := by decide +kernel
theorem dL_firstRules_52 : decode cL_firstRules 52 = .ok (.iastore, 1) := by decide +kernel
theorem dL_firstRules_53 : decode cL_firstRules 53 = .ok (.astore_n 1, 1) := by decide +kernel
theorem dL_firstRules_54 : decode cL_firstRules 54 = .ok (.bipush 15, 2) := by decide +kernel
theorem dL_firstRules_56 : decode cL_firstRules 56 = .ok (.newarray .int, 2) := by decide +kernel
theorem dL_firstRules_58 : decode cL_firstRules 58 = .ok (.dup, 1) := by decide +kernel
theorem dL_firstRules_59 : decode cL_firstRules 59 = .ok (.iconst 0, 1) := by decide +kernel
theorem dL_firstRules_60 : decode cL_firstRules 60 = .ok (.iconst 1, 1) := by decide +kernel
theorem dL_firstRules_61 : decode cL_firstRules 61 = .ok (.iastore, 1) := by decide +kernel
theorem dL_firstRules_62 : decode cL_firstRules 62 = .ok (.dup, 1) := by decide +kernel
theorem dL_firstRules_63 : decode cL_firstRules 63 = .ok (.iconst 1, 1) := by decide +kernel
theorem dL_firstRules_64 : decode cL_firstRules 64 = .ok (.iconst 0, 1) := by decide +kernel
theorem dL_firstRules_65 : decode cL_firstRules 65 = .ok (.iastore, 1) := by decide +kernel
theorem dL_firstRules_66 : decode cL_firstRules 66 = .ok (.dup, 1) := by decide +kernel
theorem dL_firstRules_67 : decode cL_firstRules 67 = .ok (.iconst 2, 1) := by decide +kernel
theorem dL_firstRules_68 : decode cL_firstRules 68 = .ok (.iconst 2, 1) := by decide +kernel
theorem dL_firstRules_69 : decode cL_firstRules 69 = .ok (.iastore, 1) := by decide +kernel
theorem dL_firstRules_70 : decode cL_firstRules 70 = .ok (.dup, 1) := by decide +kernel
theorem dL_firstRules_71 : decode cL_firstRules 71 = .ok (.iconst 3, 1) := by decide +kernel
theorem dL_firstRules_72 : decode cL_firstRules 72 = .ok (.iconst 0, 1) := by decide +kernel
theorem dL_firstRules_73 : decode cL_firstRules 73 = .ok (.iastore, 1) := by decide +kernel
theorem dL_firstRules_74 : decode cL_firstRules 74 = .ok (.dup, 1) := by decide +kernel
theorem dL_firstRules_75 : decode cL_firstRules 75 = .ok (.iconst 4, 1) := by decide +kernel
theorem dL_firstRules_76 : decode cL_firstRules 76 = .ok (.iconst 2, 1) := by decide +kernel
theorem dL_firstRules_77 : decode cL_firstRules 77 = .ok (.iastore, 1) := by decide +kernel
theorem dL_firstRules_78 : decode cL_firstRules 78 = .ok (.dup, 1) := by decide +kernel
theorem dL_firstRules_79 : decode cL_firstRules 79 = .ok (.iconst 5, 1) := by decide +kernel
theorem dL_firstRules_80 : decode cL_firstRules 80 = .ok (.iconst 1, 1) := by decide +kernel
theorem dL_firstRules_81 : decode cL_firstRules 81 = .ok (.iastore, 1) := by decide +kernel
theorem dL_firstRules_82 : decode cL_firstRules 82 = .ok (.dup, 1) := by decide +kernel
theorem dL_firstRules_83 : decode cL_firstRules 83 = .ok (.bipush 6, 2) := by decide +kernel
theorem dL_firstRules_85 : decode cL_firstRules 85 = .ok (.iconst 0, 1) := by decide +kernel
theorem dL_firstRules_86 : decode cL_firstRules 86 = .ok (.iastore, 1) := by decide +kernel
theorem dL_firstRules_87 : decode cL_firstRules 87 = .ok (.dup, 1) := by decide +kernel
theorem dL_firstRules_88 : decode cL_firstRules 88 = .ok (.bipush 7, 2) := by decide +kernel
theorem dL_firstRules_90 : decode cL_firstRules 90 = .ok (.iconst 1, 1) := by decide +kernel
theorem dL_firstRules_91 : decode cL_firstRules 91 = .ok (.iastore, 1) := by decide +kernel
theorem dL_firstRules_92 : decode cL_firstRules 92 = .ok (.dup, 1) := by decide +kernel
theorem dL_firstRules_93 : decode cL_firstRules 93 = .ok (.bipush 8, 2) := by decide +kernel
theorem dL_firstRules_95 : decode cL_firstRules 95 = .ok (.iconst 0, 1) := by decide +kernel
theorem dL_firstRules_96 : decode cL_firstRules 96 = .ok (.iastore, 1) := by decide +kernel
theorem dL_firstRules_97 : decode cL_firstRules 97 = .ok (.dup, 1) := by decide +kernel
theorem dL_firstRules_98 : decode cL_firstRules 98 = .ok (.bipush 9, 2) := by decide +kernel
theorem dL_firstRules_100 : decode cL_firstRules 100 = .ok (.iconst 0, 1) := by decide +kernel
theorem dL_firstRules_101 : decode cL_firstRules 101 = .ok (.iastore, 1) := by decide +kernel
theorem dL_firstRules_102 : decode cL_firstRules 102 = .ok (.dup, 1) := by decide +kernel
theorem dL_firstRules_103 : decode cL_firstRules 103 = .ok (.bipush 10, 2) := by decide +kernel
theorem dL_firstRules_105 : decode cL_firstRules 105 = .ok (.iconst 0, 1) := by decide +kernel
theorem dL_firstRules_106 : decode cL_firstRules 106 = .ok (.iastore, 1) := by decide +kernel
theorem dL_firstRules_107 : decode cL_firstRules 107 = .ok (.dup, 1) := by decide +kernel
theorem dL_firstRules_108 : decode cL_firstRules 108 = .ok (.bipush 11, 2) := by decide +kernel
theorem dL_firstRules_110 : decode cL_firstRules 110 = .ok (.iconst 1, 1) := by decide +kernel
theorem dL_firstRules_111 : decode cL_firstRules 111 = .ok (.iastore, 1) := by decide +kernel
theorem dL_firstRules_112 : decode cL_firstRules 112 = .ok (.dup, 1) := by decide +kernel
theorem dL_firstRules_113 : decode cL_firstRules 113 = .ok (.bipush 12, 2) := by decide +kernel
theorem dL_firstRules_115 : decode cL_firstRules 115 = .ok (.iconst 2, 1) := by decide +kernel
theorem dL_firstRules_116 : decode cL_firstRules 116 = .ok (.iastore, 1) := by decide +kernel
theorem dL_firstRules_117 : decode cL_firstRules 117 = .ok (.dup, 1) := by decide +kernel
theorem dL_firstRules_118 : decode cL_firstRules 118 = .ok (.bipush 13, 2) := by decide +kernel
theorem dL_firstRules_120 : decode cL_firstRules 120 = .ok (.iconst 0, 1) := by decide +kernel
theorem dL_firstRules_121 : decode cL_firstRules 121 = .ok (.iastore, 1) := by decide +kernel
theorem dL_firstRules_122 : decode cL_firstRules 122 = .ok (.dup, 1) := by decide +kernel
theorem dL_firstRules_123 : decode cL_firstRules 123 = .ok (.bipush 14, 2) := by decide +kernel
theorem dL_firstRules_125 : decode cL_firstRules 125 = .ok (.iconst 0, 1) := by decide +kernel
theorem dL_firstRules_126 : decode cL_firstRules 126 = .ok (.iastore, 1) := by decide +kernel
theorem dL_firstRules_127 : decode cL_firstRules 127 = .ok (.astore_n 2, 1) := by decide +kernel
theorem dL_firstRules_128 : decode cL_firstRules 128 = .ok (.aload_n 1, 1) := by decide +kernel
theorem dL_firstRules_129 : decode cL_firstRules 129 = .ok (.iconst 0, 1) := by decide +kernel
theorem dL_firstRules_130 : decode cL_firstRules 130 = .ok (.aload_n 0, 1) := by decide +kernel
theorem dL_firstRules_131 : decode cL_firstRules 131 = .ok (.getfield 71, 3) := by decide +kernel
theorem dL_firstRules_134 : decode cL_firstRules 134 = .ok (.iconst 0, 1) := by decide +kernel
theorem dL_firstRules_135 : decode cL_firstRules 135 = .ok (.aaload, 1) := by decide +kernel
theorem dL_firstRules_136 : decode cL_firstRules 136 = .ok (.iconst 0, 1) := by decide +kernel
theorem dL_firstRules_137 : decode cL_firstRules 137 = .ok (.bipush 10, 2) := by decide +kernel
theorem dL_firstRules_139 : decode cL_firstRules 139 = .ok (.invokestatic 75, 3) := by decide +kernel
theorem dL_firstRules_142 : decode cL_firstRules 142 = .ok (.aload_n 2, 1) := by decide +kernel
theorem dL_firstRules_143 : decode cL_firstRules 143 = .ok (.iconst 0, 1) := by decide +kernel
theorem dL_firstRules_144 : decode cL_firstRules 144 = .ok (.aload_n 0, 1) := by decide +kernel
theorem dL_firstRules_145 : decode cL_firstRules 145 = .ok (.getfield 71, 3) := by decide +kernel
theorem dL_firstRules_148 : decode cL_firstRules 148 = .ok (.iconst 1, 1) := by decide +kernel
theorem dL_firstRules_149 : decode cL_firstRules 149 = .ok (.aaload, 1) := by decide +kernel
theorem dL_firstRules_150 : decode cL_firstRules 150 = .ok (.iconst 0, 1) := by decide +kernel
theorem dL_firstRules_151 : decode cL_firstRules 151 = .ok (.bipush 15, 2) := by decide +kernel
theorem dL_firstRules_153 : decode cL_firstRules 153 = .ok (.invokestatic 75, 3) := by decide +kernel
theorem dL_firstRules_156 : decode cL_firstRules 156 = .ok (.return_, 1) := by decide +kernel
theorem dL_drawsRules_0 : decode cL_drawsRules 0 = .ok (.aload_n 1, 1) := by decide +kernel
theorem dL_drawsRules_1 : decode cL_drawsRules 1 = .ok (.invokestatic 81, 3) := by decide +kernel
theorem dL_drawsRules_4 : decode cL_drawsRules 4 = .ok (.aload_n 2, 1) := by decide +kernel
theorem dL_drawsRules_5 : decode cL_drawsRules 5 = .ok (.iconst 3, 1) := by decide +kernel
theorem dL_drawsRules_6 : decode cL_drawsRules 6 = .ok (.invokevirtual 37, 3) := by decide +kernel
theorem dL_drawsRules_9 : decode cL_drawsRules 9 = .ok (.ifCond .ne 19, 3) := by decide +kernel
theorem dL_drawsRules_12 : decode cL_drawsRules 12 = .ok (.aload_n 0, 1) := by decide +kernel
theorem dL_drawsRules_13 : decode cL_drawsRules 13 = .ok (.iconst 1, 1) := by decide +kernel
theorem dL_drawsRules_14 : decode cL_drawsRules 14 = .ok (.invokevirtual 85, 3) := by decide +kernel
theorem dL_drawsRules_17 : decode cL_drawsRules 17 = .ok (.iconst 1, 1) := by decide +kernel
theorem dL_drawsRules_18 : decode cL_drawsRules 18 = .ok (.if_icmp .eq 5, 3) := by decide +kernel
theorem dL_drawsRules_21 : decode cL_drawsRules 21 = .ok (.iconst 0, 1) := by decide +kernel
theorem dL_drawsRules_22 : decode cL_drawsRules 22 = .ok (.ireturn, 1) := by decide +kernel
theorem dL_drawsRules_23 : decode cL_drawsRules 23 = .ok (.aload_n 1, 1) := by decide +kernel
theorem dL_drawsRules_24 : decode cL_drawsRules 24 = .ok (.iconst 1, 1) := by decide +kernel
theorem dL_drawsRules_25 : decode cL_drawsRules 25 = .ok (.putfield 68, 3) := by decide +kernel
theorem dL_drawsRules_28 : decode cL_drawsRules 28 = .ok (.aload_n 2, 1) := by decide +kernel
theorem dL_drawsRules_29 : decode cL_drawsRules 29 = .ok (.iconst 4, 1) := by decide +kernel
theorem dL_drawsRules_30 : decode cL_drawsRules 30 = .ok (.invokevirtual 37, 3) := by decide +kernel
theorem dL_drawsRules_33 : decode cL_drawsRules 33 = .ok (.istore_n 3, 1) := by decide +kernel
theorem dL_drawsRules_34 : decode cL_drawsRules 34 = .ok (.iload_n 3, 1) := by decide +kernel
theorem dL_drawsRules_35 : decode cL_drawsRules 35 = .ok (.ifCond .le 204, 3) := by decide +kernel
theorem dL_drawsRules_38 : decode cL_drawsRules 38 = .ok (.aload_n 1, 1) := by decide +kernel
theorem dL_drawsRules_39 : decode cL_drawsRules 39 = .ok (.getfield 68, 3) := by decide +kernel
theorem dL_drawsRules_42 : decode cL_drawsRules 42 = .ok (.iconst 5, 1) := by decide +kernel
theorem dL_drawsRules_43 : decode cL_drawsRules 43 = .ok (.if_icmp .ge 196, 3) := by decide +kernel
theorem dL_drawsRules_46 : decode cL_drawsRules 46 = .ok (.aload_n 1, 1) := by decide +kernel
theorem dL_drawsRules_47 : decode cL_drawsRules 47 = .ok (.getfield 68, 3) := by decide +kernel
theorem dL_drawsRules_50 : decode cL_drawsRules 50 = .ok (.istore 4, 2) := by decide +kernel
theorem dL_drawsRules_52 : decode cL_drawsRules 52 = .ok (.aload_n 1, 1) := by decide +kernel
theorem dL_drawsRules_53 : decode cL_drawsRules 53 = .ok (.getfield 71, 3) := by decide +kernel
theorem dL_drawsRules_56 : decode cL_drawsRules 56 = .ok (.iload 4, 2) := by decide +kernel
theorem dL_drawsRules_58 : decode cL_drawsRules 58 = .ok (.aaload, 1) := by decide +kernel
theorem dL_drawsRules_59 : decode cL_drawsRules 59 = .ok (.astore 5, 2) := by decide +kernel
theorem dL_drawsRules_61 : decode cL_drawsRules 61 = .ok (.aload_n 1, 1) := by decide +kernel
theorem dL_drawsRules_62 : decode cL_drawsRules 62 = .ok (.aload_n 2, 1) := by decide +kernel
theorem dL_drawsRules_63 : decode cL_drawsRules 63 = .ok (.aload 5, 2) := by decide +kernel
theorem dL_drawsRules_65 : decode cL_drawsRules 65 = .ok (.iconst 0, 1) := by decide +kernel
theorem dL_drawsRules_66 : decode cL_drawsRules 66 = .ok (.iconst 3, 1) := by decide +kernel
theorem dL_drawsRules_67 : decode cL_drawsRules 67 = .ok (.invokestatic 88, 3) := by decide +kernel
theorem dL_drawsRules_70 : decode cL_drawsRules 70 = .ok (.aload 5, 2) := by decide +kernel
theorem dL_drawsRules_72 : decode cL_drawsRules 72 = .ok (.iconst 4, 1) := by decide +kernel
theorem dL_drawsRules_73 : decode cL_drawsRules 73 = .ok (.iconst 0, 1) := by decide +kernel
theorem dL_drawsRules_74 : decode cL_drawsRules 74 = .ok (.iastore, 1) := by decide +kernel
theorem dL_drawsRules_75 : decode cL_drawsRules 75 = .ok (.aload_n 0, 1) := by decide +kernel
theorem dL_drawsRules_76 : decode cL_drawsRules 76 = .ok (.aload 5, 2) := by decide +kernel
theorem dL_drawsRules_78 : decode cL_drawsRules 78 = .ok (.iconst 0, 1) := by decide +kernel
theorem dL_drawsRules_79 : decode cL_drawsRules 79 = .ok (.iaload, 1) := by decide +kernel
theorem dL_drawsRules_80 : decode cL_drawsRules 80 = .ok (.aload 5, 2) := by decide +kernel
theorem dL_drawsRules_82 : decode cL_drawsRules 82 = .ok (.iconst 1, 1) := by decide +kernel
theorem dL_drawsRules_83 : decode cL_drawsRules 83 = .ok (.iaload, 1) := by decide +kernel
theorem dL_drawsRules_84 : decode cL_drawsRules 84 = .ok (.aload 5, 2) := by decide +kernel
theorem dL_drawsRules_86 : decode cL_drawsRules 86 = .ok (.iconst 2, 1) := by decide +kernel
theorem dL_drawsRules_87 : decode cL_drawsRules 87 = .ok (.iaload, 1) := by decide +kernel
theorem dL_drawsRules_88 : decode cL_drawsRules 88 = .ok (.aload 5, 2) := by decide +kernel
theorem dL_drawsRules_90 : decode cL_drawsRules 90 = .ok (.iconst 3, 1) := by decide +kernel
theorem dL_drawsRules_91 : decode cL_drawsRules 91 = .ok (.iaload, 1) := by decide +kernel
theorem dL_drawsRules_92 : decode cL_drawsRules 92 = .ok (.invokevirtual 92, 3) := by decide +kernel
theorem dL_drawsRules_95 : decode cL_drawsRules 95 = .ok (.iload 4, 2) := by decide +kernel
theorem dL_drawsRules_97 : decode cL_drawsRules 97 = .ok (.if_icmp .eq 5, 3) := by decide +kernel
theorem dL_drawsRules_100 : decode cL_drawsRules 100 = .ok (.iconst 0, 1) := by decide +kernel
theorem dL_drawsRules_101 : decode cL_drawsRules 101 = .ok (.ireturn, 1) := by decide +kernel
theorem dL_drawsRules_102 : decode cL_drawsRules 102 = .ok (.aload_n 1, 1) := by decide +kernel
theorem dL_drawsRules_103 : decode cL_drawsRules 103 = .ok (.dup, 1) := by decide +kernel
theorem dL_drawsRules_104 : decode cL_drawsRules 104 = .ok (.getfield 68, 3) := by decide +kernel
theorem dL_drawsRules_107 : decode cL_drawsRules 107 = .ok (.iconst 1, 1) := by decide +kernel
theorem dL_drawsRules_108 : decode cL_drawsRules 108 = .ok (.iadd, 1) := by decide +kernel
theorem dL_drawsRules_109 : decode cL_drawsRules 109 = .ok (.putfield 68, 3) := by decide +kernel
theorem dL_drawsRules_112 : decode cL_drawsRules 112 = .ok (.iconst 1, 1) := by decide +kernel
theorem dL_drawsRules_113 : decode cL_drawsRules 113 = .ok (.aload_n 2, 1) := by decide +kernel
theorem dL_drawsRules_114 : decode cL_drawsRules 114 = .ok (.iconst 3, 1) := by decide +kernel
theorem dL_drawsRules_115 : decode cL_drawsRules 115 = .ok (.invokevirtual 37, 3) := by decide +kernel
theorem dL_drawsRules_118 : decode cL_drawsRules 118 = .ok (.iadd, 1) := by decide +kernel
theorem dL_drawsRules_119 : decode cL_drawsRules 119 = .ok (.istore 6, 2) := by decide +kernel
theorem dL_drawsRules_121 : decode cL_drawsRules 121 = .ok (.iload 6, 2) := by decide +kernel
theorem dL_drawsRules_123 : decode cL_drawsRules 123 = .ok (.ifCond .le 110, 3) := by decide +kernel
theorem dL_drawsRules_126 : decode cL_drawsRules 126 = .ok (.iconst 5, 1) := by decide +kernel
theorem dL_drawsRules_127 : decode cL_drawsRules 127 = .ok (.iconst 5, 1) := by decide +kernel
theorem dL_drawsRules_128 : decode cL_drawsRules 128 = .ok (.aload 5, 2) := by decide +kernel
theorem dL_drawsRules_130 : decode cL_drawsRules 130 = .ok (.iconst 4, 1) := by decide +kernel
theorem dL_drawsRules_131 : decode cL_drawsRules 131 = .ok (.iaload, 1) := by decide +kernel
theorem dL_drawsRules_132 : decode cL_drawsRules 132 = .ok (.imul, 1) := by decide +kernel
theorem dL_drawsRules_133 : decode cL_drawsRules 133 = .ok (.iadd, 1) := by decide +kernel
theorem dL_drawsRules_134 : decode cL_drawsRules 134 = .ok (.istore 7, 2) := by decide +kernel
theorem dL_drawsRules_136 : decode cL_drawsRules 136 = .ok (.aload_n 1, 1) := by decide +kernel
theorem dL_drawsRules_137 : decode cL_drawsRules 137 = .ok (.aload_n 2, 1) := by decide +kernel
theorem dL_drawsRules_138 : decode cL_drawsRules 138 = .ok (.aload 5, 2) := by decide +kernel
theorem dL_drawsRules_140 : decode cL_drawsRules 140 = .ok (.iload 7, 2) := by decide +kernel
theorem dL_drawsRules_142 : decode cL_drawsRules 142 = .ok (.iconst 3, 1) := by decide +kernel
theorem dL_drawsRules_143 : decode cL_drawsRules 143 = .ok (.aload_n 2, 1) := by decide +kernel
theorem dL_drawsRules_144 : decode cL_drawsRules 144 = .ok (.iconst 2, 1) := by decide +kernel
theorem dL_drawsRules_145 : decode cL_drawsRules 145 = .ok (.invokevirtual 37, 3) := by decide +kernel
theorem dL_drawsRules_148 : decode cL_drawsRules 148 = .ok (.iadd, 1) := by decide +kernel
theorem dL_drawsRules_149 : decode cL_drawsRules 149 = .ok (.invokestatic 88, 3) := by decide +kernel
theorem dL_drawsRules_152 : decode cL_drawsRules 152 = .ok (.aload 5, 2) := by decide +kernel
theorem dL_drawsRules_154 : decode cL_drawsRules 154 = .ok (.iload 7, 2) := by decide +kernel
theorem dL_drawsRules_156 : decode cL_drawsRules 156 = .ok (.iconst 4, 1) := by decide +kernel
theorem dL_drawsRules_157 : decode cL_drawsRules 157 = .ok (.iadd, 1) := by decide +kernel
theorem dL_drawsRules_158 : decode cL_drawsRules 158 = .ok (.aload_n 2, 1) := by decide +kernel
theorem dL_drawsRules_159 : decode cL_drawsRules 159 = .ok (.iconst 4, 1) := by decide +kernel
theorem dL_drawsRules_160 : decode cL_drawsRules 160 = .ok (.invokevirtual 37, 3) := by decide +kernel
theorem dL_drawsRules_163 : decode cL_drawsRules 163 = .ok (.ifCond .ne 7, 3) := by decide +kernel
theorem dL_drawsRules_166 : decode cL_drawsRules 166 = .ok (.iconst 1, 1) := by decide +kernel
theorem dL_drawsRules_167 : decode cL_drawsRules 167 = .ok (.goto 4, 3) := by decide +kernel
theorem dL_drawsRules_170 : decode cL_drawsRules 170 = .ok (.iconst 0, 1) := by decide +kernel
theorem dL_drawsRules_171 : decode cL_drawsRules 171 = .ok (.iastore, 1) := by decide +kernel
theorem dL_drawsRules_172 : decode cL_drawsRules 172 = .ok (.aload 5, 2) := by decide +kernel
theorem dL_drawsRules_174 : decode cL_drawsRules 174 = .ok (.iconst 4, 1) := by decide +kernel
theorem dL_drawsRules_175 : decode cL_drawsRules 175 = .ok (.dup2, 1) := by decide +kernel
theorem dL_drawsRules_176 : decode cL_drawsRules 176 = .ok (.iaload, 1) := by decide +kernel
theorem dL_drawsRules_177 : decode cL_drawsRules 177 = .ok (.iconst 1, 1) := by decide +kernel
theorem dL_drawsRules_178 : decode cL_drawsRules 178 = .ok (.iadd, 1) := by decide +kernel
theorem dL_drawsRules_179 : decode cL_drawsRules 179 = .ok (.iastore, 1) := by decide +kernel
theorem dL_drawsRules_180 : decode cL_drawsRules 180 = .ok (.aload_n 1, 1) := by decide +kernel
theorem dL_drawsRules_181 : decode cL_drawsRules 181 = .ok (.invokevirtual 95, 3) := by decide +kernel
theorem dL_drawsRules_184 : decode cL_drawsRules 184 = .ok (.istore 8, 2) := by decide +kernel
theorem dL_drawsRules_186 : decode cL_drawsRules 186 = .ok (.iload 8, 2) := by decide +kernel
theorem dL_drawsRules_188 : decode cL_drawsRules 188 = .ok (.ifCond .ne 11, 3) := by decide +kernel
theorem dL_drawsRules_191 : decode cL_drawsRules 191 = .ok (.aload 5, 2) := by decide +kernel
theorem dL_drawsRules_193 : decode cL_drawsRules 193 = .ok (.iconst 4, 1) := by decide +kernel
theorem dL_drawsRules_194 : decode cL_drawsRules 194 = .ok (.dup2, 1) := by decide +kernel
theorem dL_drawsRules_195 : decode cL_drawsRules 195 = .ok (.iaload, 1) := by decide +kernel
theorem dL_drawsRules_196 : decode cL_drawsRules 196 = .ok (.iconst 1, 1) := by decide +kernel
theorem dL_drawsRules_197 : decode cL_drawsRules 197 = .ok (.isub, 1) := by decide +kernel
theorem dL_drawsRules_198 : decode cL_drawsRules 198 = .ok (.iastore, 1) := by decide +kernel
theorem dL_drawsRules_199 : decode cL_drawsRules 199 = .ok (.aload_n 0, 1) := by decide +kernel
theorem dL_drawsRules_200 : decode cL_drawsRules 200 = .ok (.iload 4, 2) := by decide +kernel
theorem dL_drawsRules_202 : decode cL_drawsRules 202 = .ok (.aload 5, 2) := by decide +kernel
theorem dL_drawsRules_204 : decode cL_drawsRules 204 = .ok (.iload 7, 2) := by decide +kernel
theorem dL_drawsRules_206 : decode cL_drawsRules 206 = .ok (.invokestatic 99, 3) := by decide +kernel
theorem dL_drawsRules_209 : decode cL_drawsRules 209 = .ok (.iload 8, 2) := by decide +kernel
theorem dL_drawsRules_211 : decode cL_drawsRules 211 = .ok (.ifCond .eq 10, 3) := by decide +kernel
theorem dL_drawsRules_214 : decode cL_drawsRules 214 = .ok (.aload 5, 2) := by decide +kernel
theorem dL_drawsRules_216 : decode cL_drawsRules 216 = .ok (.iconst 4, 1) := by decide +kernel
theorem dL_drawsRules_217 : decode cL_drawsRules 217 = .ok (.iaload, 1) := by decide +kernel
theorem dL_drawsRules_218 : decode cL_drawsRules 218 = .ok (.goto 4, 3) := by decide +kernel
theorem dL_drawsRules_221 : decode cL_drawsRules 221 = .ok (.iconst (-1), 1) := by decide +kernel
theorem dL_drawsRules_222 : decode cL_drawsRules 222 = .ok (.if_icmp .eq 5, 3) := by decide +kernel
theorem dL_drawsRules_225 : decode cL_drawsRules 225 = .ok (.iconst 0, 1) := by decide +kernel
theorem dL_drawsRules_226 : decode cL_drawsRules 226 = .ok (.ireturn, 1) := by decide +kernel
theorem dL_drawsRules_227 : decode cL_drawsRules 227 = .ok (.iinc 6 (-1), 3) := by decide +kernel
theorem dL_drawsRules_230 : decode cL_drawsRules 230 = .ok (.goto (-109), 3) := by decide +kernel
theorem dL_drawsRules_233 : decode cL_drawsRules 233 = .ok (.iinc 3 (-1), 3) := by decide +kernel
theorem dL_drawsRules_236 : decode cL_drawsRules 236 = .ok (.goto (-202), 3) := by decide +kernel
theorem dL_drawsRules_239 : decode cL_drawsRules 239 = .ok (.iconst 1, 1) := by decide +kernel
theorem dL_drawsRules_240 : decode cL_drawsRules 240 = .ok (.ireturn, 1) := by decide +kernel
theorem dL_areLeast_0 : decode cL_areLeast 0 = .ok (.aload_n 1, 1) := by decide +kernel
theorem dL_areLeast_1 : decode cL_areLeast 1 = .ok (.invokevirtual 102, 3) := by decide +kernel
theorem dL_areLeast_4 : decode cL_areLeast 4 = .ok (.iconst 0, 1) := by decide +kernel
theorem dL_areLeast_5 : decode cL_areLeast 5 = .ok (.istore_n 3, 1) := by decide +kernel
theorem dL_areLeast_6 : decode cL_areLeast 6 = .ok (.iload_n 3, 1) := by decide +kernel
theorem dL_areLeast_7 : decode cL_areLeast 7 = .ok (.aload_n 1, 1) := by decide +kernel
theorem dL_areLeast_8 : decode cL_areLeast 8 = .ok (.getfield 43, 3) := by decide +kernel
theorem dL_areLeast_11 : decode cL_areLeast 11 = .ok (.if_icmp .ge 51, 3) := by decide +kernel
theorem dL_areLeast_14 : decode cL_areLeast 14 = .ok (.aload_n 0, 1) := by decide +kernel
theorem dL_areLeast_15 : decode cL_areLeast 15 = .ok (.iload_n 3, 1) := by decide +kernel
theorem dL_areLeast_16 : decode cL_areLeast 16 = .ok (.invokevirtual 105, 3) := by decide +kernel
theorem dL_areLeast_19 : decode cL_areLeast 19 = .ok (.aload_n 1, 1) := by decide +kernel
theorem dL_areLeast_20 : decode cL_areLeast 20 = .ok (.iload_n 3, 1) := by decide +kernel
theorem dL_areLeast_21 : decode cL_areLeast 21 = .ok (.invokevirtual 108, 3) := by decide +kernel
theorem dL_areLeast_24 : decode cL_areLeast 24 = .ok (.if_icmp .ne 30, 3) := by decide +kernel
theorem dL_areLeast_27 : decode cL_areLeast 27 = .ok (.aload_n 0, 1) := by decide +kernel
theorem dL_areLeast_28 : decode cL_areLeast 28 = .ok (.iload_n 3, 1) := by decide +kernel
theorem dL_areLeast_29 : decode cL_areLeast 29 = .ok (.invokevirtual 109, 3) := by decide +kernel
theorem dL_areLeast_32 : decode cL_areLeast 32 = .ok (.aload_n 1, 1) := by decide +kernel
theorem dL_areLeast_33 : decode cL_areLeast 33 = .ok (.iload_n 3, 1) := by decide +kernel
theorem dL_areLeast_34 : decode cL_areLeast 34 = .ok (.invokevirtual 62, 3) := by decide +kernel
theorem dL_areLeast_37 : decode cL_areLeast 37 = .ok (.if_icmp .ne 17, 3) := by decide +kernel
theorem dL_areLeast_40 : decode cL_areLeast 40 = .ok (.aload_n 0, 1) := by decide +kernel
theorem dL_areLeast_41 : decode cL_areLeast 41 = .ok (.iload_n 3, 1) := by decide +kernel
theorem dL_areLeast_42 : decode cL_areLeast 42 = .ok (.invokevirtual 110, 3) := by decide +kernel
theorem dL_areLeast_45 : decode cL_areLeast 45 = .ok (.aload_n 1, 1) := by decide +kernel
theorem dL_areLeast_46 : decode cL_areLeast 46 = .ok (.getfield 113, 3) := by decide +kernel
theorem dL_areLeast_49 : decode cL_areLeast 49 = .ok (.iload_n 3, 1) := by decide +kernel
theorem dL_areLeast_50 : decode cL_areLeast 50 = .ok (.iaload, 1) := by decide +kernel
theorem dL_areLeast_51 : decode cL_areLeast 51 = .ok (.if_icmp .eq 5, 3) := by decide +kernel
theorem dL_areLeast_54 : decode cL_areLeast 54 = .ok (.iconst 0, 1) := by decide +kernel
theorem dL_areLeast_55 : decode cL_areLeast 55 = .ok (.ireturn, 1) := by decide +kernel
theorem dL_areLeast_56 : decode cL_areLeast 56 = .ok (.iinc 3 1, 3) := by decide +kernel
theorem dL_areLeast_59 : decode cL_areLeast 59 = .ok (.goto (-53), 3) := by decide +kernel
theorem dL_areLeast_62 : decode cL_areLeast 62 = .ok (.iconst 0, 1) := by decide +kernel
theorem dL_areLeast_63 : decode cL_areLeast 63 = .ok (.istore_n 3, 1) := by decide +kernel
theorem dL_areLeast_64 : decode cL_areLeast 64 = .ok (.iload_n 3, 1) := by decide +kernel
theorem dL_areLeast_65 : decode cL_areLeast 65 = .ok (.bipush 10, 2) := by decide +kernel
theorem dL_areLeast_67 : decode cL_areLeast 67 = .ok (.if_icmp .ge 131, 3) := by decide +kernel
theorem dL_areLeast_70 : decode cL_areLeast 70 = .ok (.aload_n 2, 1) := by decide +kernel
theorem dL_areLeast_71 : decode cL_areLeast 71 = .ok (.aload_n 1, 1) := by decide +kernel
theorem dL_areLeast_72 : decode cL_areLeast 72 = .ok (.getfield 43, 3) := by decide +kernel
theorem dL_areLeast_75 : decode cL_areLeast 75 = .ok (.invokevirtual 37, 3) := by decide +kernel
theorem dL_areLeast_78 : decode cL_areLeast 78 = .ok (.istore 4, 2) := by decide +kernel
theorem dL_areLeast_80 : decode cL_areLeast 80 = .ok (.aload_n 1, 1) := by decide +kernel
theorem dL_areLeast_81 : decode cL_areLeast 81 = .ok (.aload_n 2, 1) := by decide +kernel
theorem dL_areLeast_82 : decode cL_areLeast 82 = .ok (.iload 4, 2) := by decide +kernel
theorem dL_areLeast_84 : decode cL_areLeast 84 = .ok (.bipush 6, 2) := by decide +kernel
theorem dL_areLeast_86 : decode cL_areLeast 86 = .ok (.invokestatic 55, 3) := by decide +kernel
theorem dL_areLeast_89 : decode cL_areLeast 89 = .ok (.istore 5, 2) := by decide +kernel
theorem dL_areLeast_91 : decode cL_areLeast 91 = .ok (.aload_n 0, 1) := by decide +kernel
theorem dL_areLeast_92 : decode cL_areLeast 92 = .ok (.iload 4, 2) := by decide +kernel
theorem dL_areLeast_94 : decode cL_areLeast 94 = .ok (.iload 5, 2) := by decide +kernel
theorem dL_areLeast_96 : decode cL_areLeast 96 = .ok (.iconst 0, 1) := by decide +kernel
theorem dL_areLeast_97 : decode cL_areLeast 97 = .ok (.invokestatic 7, 3) := by decide +kernel
theorem dL_areLeast_100 : decode cL_areLeast 100 = .ok (.iload 5, 2) := by decide +kernel
theorem dL_areLeast_102 : decode cL_areLeast 102 = .ok (.iconst 1, 1) := by decide +kernel
theorem dL_areLeast_103 : decode cL_areLeast 103 = .ok (.invokestatic 7, 3) := by decide +kernel
theorem dL_areLeast_106 : decode cL_areLeast 106 = .ok (.iload 5, 2) := by decide +kernel
theorem dL_areLeast_108 : decode cL_areLeast 108 = .ok (.iconst 2, 1) := by decide +kernel
theorem dL_areLeast_109 : decode cL_areLeast 109 = .ok (.invokestatic 7, 3) := by decide +kernel
theorem dL_areLeast_112 : decode cL_areLeast 112 = .ok (.invokevirtual 116, 3) := by decide +kernel
theorem dL_areLeast_115 : decode cL_areLeast 115 = .ok (.istore 6, 2) := by decide +kernel
theorem dL_areLeast_117 : decode cL_areLeast 117 = .ok (.iload 6, 2) := by decide +kernel
theorem dL_areLeast_119 : decode cL_areLeast 119 = .ok (.aload_n 1, 1) := by decide +kernel
theorem dL_areLeast_120 : decode cL_areLeast 120 = .ok (.iload 4, 2) := by decide +kernel
theorem dL_areLeast_122 : decode cL_areLeast 122 = .ok (.iload 5, 2) := by decide +kernel
theorem dL_areLeast_124 : decode cL_areLeast 124 = .ok (.invokevirtual 119, 3) := by decide +kernel
theorem dL_areLeast_127 : decode cL_areLeast 127 = .ok (.if_icmp .ne 63, 3) := by decide +kernel
theorem dL_areLeast_130 : decode cL_areLeast 130 = .ok (.iload 6, 2) := by decide +kernel
theorem dL_areLeast_132 : decode cL_areLeast 132 = .ok (.ifCond .le 7, 3) := by decide +kernel
theorem dL_areLeast_135 : decode cL_areLeast 135 = .ok (.iconst 1, 1) := by decide +kernel
theorem dL_areLeast_136 : decode cL_areLeast 136 = .ok (.goto 4, 3) := by decide +kernel
theorem dL_areLeast_139 : decode cL_areLeast 139 = .ok (.iconst 0, 1) := by decide +kernel
theorem dL_areLeast_140 : decode cL_areLeast 140 = .ok (.aload_n 1, 1) := by decide +kernel
theorem dL_areLeast_141 : decode cL_areLeast 141 = .ok (.getfield 121, 3) := by decide +kernel
theorem dL_areLeast_144 : decode cL_areLeast 144 = .ok (.iload 4, 2) := by decide +kernel
theorem dL_areLeast_146 : decode cL_areLeast 146 = .ok (.aaload, 1) := by decide +kernel
theorem dL_areLeast_147 : decode cL_areLeast 147 = .ok (.iload 5, 2) := by decide +kernel
theorem dL_areLeast_149 : decode cL_areLeast 149 = .ok (.baload, 1) := by decide +kernel
theorem dL_areLeast_150 : decode cL_areLeast 150 = .ok (.if_icmp .ne 40, 3) := by decide +kernel
theorem dL_areLeast_153 : decode cL_areLeast 153 = .ok (.aload_n 0, 1) := by decide +kernel
theorem dL_areLeast_154 : decode cL_areLeast 154 = .ok (.iload 4, 2) := by decide +kernel
theorem dL_areLeast_156 : decode cL_areLeast 156 = .ok (.iload 5, 2) := by decide +kernel
theorem dL_areLeast_158 : decode cL_areLeast 158 = .ok (.iconst 0, 1) := by decide +kernel
theorem dL_areLeast_159 : decode cL_areLeast 159 = .ok (.invokestatic 7, 3) := by decide +kernel
theorem dL_areLeast_162 : decode cL_areLeast 162 = .ok (.iload 5, 2) := by decide +kernel
theorem dL_areLeast_164 : decode cL_areLeast 164 = .ok (.iconst 1, 1) := by decide +kernel
theorem dL_areLeast_165 : decode cL_areLeast 165 = .ok (.invokestatic 7, 3) := by decide +kernel
theorem dL_areLeast_168 : decode cL_areLeast 168 = .ok (.iload 5, 2) := by decide +kernel
theorem dL_areLeast_170 : decode cL_areLeast 170 = .ok (.iconst 2, 1) := by decide +kernel
theorem dL_areLeast_171 : decode cL_areLeast 171 = .ok (.invokestatic 7, 3) := by decide +kernel
theorem dL_areLeast_174 : decode cL_areLeast 174 = .ok (.invokevirtual 124, 3) := by decide +kernel
theorem dL_areLeast_177 : decode cL_areLeast 177 = .ok (.aload_n 1, 1) := by decide +kernel
theorem dL_areLeast_178 : decode cL_areLeast 178 = .ok (.getfield 48, 3) := by decide +kernel
theorem dL_areLeast_181 : decode cL_areLeast 181 = .ok (.iload 4, 2) := by decide +kernel
theorem dL_areLeast_183 : decode cL_areLeast 183 = .ok (.aaload, 1) := by decide +kernel
theorem dL_areLeast_184 : decode cL_areLeast 184 = .ok (.iload 5, 2) := by decide +kernel
theorem dL_areLeast_186 : decode cL_areLeast 186 = .ok (.baload, 1) := by decide +kernel
theorem dL_areLeast_187 : decode cL_areLeast 187 = .ok (.if_icmp .eq 5, 3) := by decide +kernel
theorem dL_areLeast_190 : decode cL_areLeast 190 = .ok (.iconst 0, 1) := by decide +kernel
theorem dL_areLeast_191 : decode cL_areLeast 191 = .ok (.ireturn, 1) := by decide +kernel
theorem dL_areLeast_192 : decode cL_areLeast 192 = .ok (.iinc 3 1, 3) := by decide +kernel
theorem dL_areLeast_195 : decode cL_areLeast 195 = .ok (.goto (-131), 3) := by decide +kernel
theorem dL_areLeast_198 : decode cL_areLeast 198 = .ok (.aload_n 2, 1) := by decide +kernel
theorem dL_areLeast_199 : decode cL_areLeast 199 = .ok (.aload_n 1, 1) := by decide +kernel
theorem dL_areLeast_200 : decode cL_areLeast 200 = .ok (.getfield 43, 3) := by decide +kernel
theorem dL_areLeast_203 : decode cL_areLeast 203 = .ok (.invokevirtual 37, 3) := by decide +kernel
theorem dL_areLeast_206 : decode cL_areLeast 206 = .ok (.istore_n 3, 1) := by decide +kernel
theorem dL_areLeast_207 : decode cL_areLeast 207 = .ok (.iconst 0, 1) := by decide +kernel
theorem dL_areLeast_208 : decode cL_areLeast 208 = .ok (.istore 4, 2) := by decide +kernel
theorem dL_areLeast_210 : decode cL_areLeast 210 = .ok (.iconst 0, 1) := by decide +kernel
theorem dL_areLeast_211 : decode cL_areLeast 211 = .ok (.istore 5, 2) := by decide +kernel
theorem dL_areLeast_213 : decode cL_areLeast 213 = .ok (.iload 5, 2) := by decide +kernel
theorem dL_areLeast_215 : decode cL_areLeast 215 = .ok (.sipush 512, 3) := by decide +kernel
theorem dL_areLeast_218 : decode cL_areLeast 218 = .ok (.if_icmp .ge 75, 3) := by decide +kernel
theorem dL_areLeast_221 : decode cL_areLeast 221 = .ok (.iload 4, 2) := by decide +kernel
theorem dL_areLeast_223 : decode cL_areLeast 223 = .ok (.bipush 20, 2) := by decide +kernel
theorem dL_areLeast_225 : decode cL_areLeast 225 = .ok (.if_icmp .ge 68, 3) := by decide +kernel
theorem dL_areLeast_228 : decode cL_areLeast 228 = .ok (.aload_n 1, 1) := by decide +kernel
theorem dL_areLeast_229 : decode cL_areLeast 229 = .ok (.getfield 121, 3) := by decide +kernel
theorem dL_areLeast_232 : decode cL_areLeast 232 = .ok (.iload_n 3, 1) := by decide +kernel
theorem dL_areLeast_233 : decode cL_areLeast 233 = .ok (.aaload, 1) := by decide +kernel
theorem dL_areLeast_234 : decode cL_areLeast 234 = .ok (.iload 5, 2) := by decide +kernel
theorem dL_areLeast_236 : decode cL_areLeast 236 = .ok (.baload, 1) := by decide +kernel
theorem dL_areLeast_237 : decode cL_areLeast 237 = .ok (.ifCond .ne 6, 3) := by decide +kernel
theorem dL_areLeast_240 : decode cL_areLeast 240 = .ok (.goto 47, 3) := by decide +kernel
theorem dL_areLeast_243 : decode cL_areLeast 243 = .ok (.iconst 0, 1) := by decide +kernel
theorem dL_areLeast_244 : decode cL_areLeast 244 = .ok (.istore 6, 2) := by decide +kernel
theorem dL_areLeast_246 : decode cL_areLeast 246 = .ok (.iload 6, 2) := by decide +kernel
theorem dL_areLeast_248 : decode cL_areLeast 248 = .ok (.aload_n 1, 1) := by decide +kernel
theorem dL_areLeast_249 : decode cL_areLeast 249 = .ok (.getfield 31, 3) := by decide +kernel
theorem dL_areLeast_252 : decode cL_areLeast 252 = .ok (.iload_n 3, 1) := by decide +kernel
theorem dL_areLeast_253 : decode cL_areLeast 253 = .ok (.iaload, 1) := by decide +kernel
theorem dL_areLeast_254 : decode cL_areLeast 254 = .ok (.if_icmp .ge 30, 3) := by decide +kernel
theorem dL_areLeast_257 : decode cL_areLeast 257 = .ok (.aload_n 0, 1) := by decide +kernel
theorem dL_areLeast_258 : decode cL_areLeast 258 = .ok (.iload_n 3, 1) := by decide +kernel
theorem dL_areLeast_259 : decode cL_areLeast 259 = .ok (.iload 4, 2) := by decide +kernel
theorem dL_areLeast_261 : decode cL_areLeast 261 = .ok (.iload 6, 2) := by decide +kernel
theorem dL_areLeast_263 : decode cL_areLeast 263 = .ok (.invokevirtual 128, 3) := by decide +kernel
theorem dL_areLeast_266 : decode cL_areLeast 266 = .ok (.iload 5, 2) := by decide +kernel
theorem dL_areLeast_268 : decode cL_areLeast 268 = .ok (.iload 6, 2) := by decide +kernel
theorem dL_areLeast_270 : decode cL_areLeast 270 = .ok (.invokestatic 7, 3) := by decide +kernel
theorem dL_areLeast_273 : decode cL_areLeast 273 = .ok (.if_icmp .eq 5, 3) := by decide +kernel
theorem dL_areLeast_276 : decode cL_areLeast 276 = .ok (.iconst 0, 1) := by decide +kernel
theorem dL_areLeast_277 : decode cL_areLeast 277 = .ok (.ireturn, 1) := by decide +kernel
theorem dL_areLeast_278 : decode cL_areLeast 278 = .ok (.iinc 6 1, 3) := by decide +kernel
theorem dL_areLeast_281 : decode cL_areLeast 281 = .ok (.goto (-35), 3) := by decide +kernel
theorem dL_areLeast_284 : decode cL_areLeast 284 = .ok (.iinc 4 1, 3) := by decide +kernel
theorem dL_areLeast_287 : decode cL_areLeast 287 = .ok (.iinc 5 1, 3) := by decide +kernel
theorem dL_areLeast_290 : decode cL_areLeast 290 = .ok (.goto (-77), 3) := by decide +kernel
theorem dL_areLeast_293 : decode cL_areLeast 293 = .ok (.iconst 1, 1) := by decide +kernel
theorem dL_areLeast_294 : decode cL_areLeast 294 = .ok (.ireturn, 1) := by decide +kernel
theorem dL_toldBackward_0 : decode cL_toldBackward 0 = .ok (.new 14, 3) := by decide +kernel
theorem dL_toldBackward_3 : decode cL_toldBackward 3 = .ok (.dup, 1) := by decide +kernel
theorem dL_toldBackward_4 : decode cL_toldBackward 4 = .ok (.invokespecial 132, 3) := by decide +kernel
theorem dL_toldBackward_7 : decode cL_toldBackward 7 = .ok (.astore_n 1, 1) := by decide +kernel
theorem dL_toldBackward_8 : decode cL_toldBackward 8 = .ok (.aload_n 1, 1) := by decide +kernel
theorem dL_toldBackward_9 : decode cL_toldBackward 9 = .ok (.iconst 1, 1) := by decide +kernel
theorem dL_toldBackward_10 : decode cL_toldBackward 10 = .ok (.invokevirtual 85, 3) := by decide +kernel
theorem dL_toldBackward_13 : decode cL_toldBackward 13 = .ok (.aload_n 1, 1) := by decide +kernel
theorem dL_toldBackward_14 : decode cL_toldBackward 14 = .ok (.iconst 0, 1) := by decide +kernel
theorem dL_toldBackward_15 : decode cL_toldBackward 15 = .ok (.invokevirtual 85, 3) := by decide +kernel
theorem dL_toldBackward_18 : decode cL_toldBackward 18 = .ok (.iadd, 1) := by decide +kernel
theorem dL_toldBackward_19 : decode cL_toldBackward 19 = .ok (.istore_n 2, 1) := by decide +kernel
theorem dL_toldBackward_20 : decode cL_toldBackward 20 = .ok (.iconst 0, 1) := by decide +kernel
theorem dL_toldBackward_21 : decode cL_toldBackward 21 = .ok (.istore_n 3, 1) := by decide +kernel
theorem dL_toldBackward_22 : decode cL_toldBackward 22 = .ok (.iload_n 3, 1) := by decide +kernel
theorem dL_toldBackward_23 : decode cL_toldBackward 23 = .ok (.iconst 3, 1) := by decide +kernel
theorem dL_toldBackward_24 : decode cL_toldBackward 24 = .ok (.if_icmp .ge 52, 3) := by decide +kernel
theorem dL_toldBackward_27 : decode cL_toldBackward 27 = .ok (.aload_n 1, 1) := by decide +kernel
theorem dL_toldBackward_28 : decode cL_toldBackward 28 = .ok (.iload_n 3, 1) := by decide +kernel
theorem dL_toldBackward_29 : decode cL_toldBackward 29 = .ok (.invokevirtual 109, 3) := by decide +kernel
theorem dL_toldBackward_32 : decode cL_toldBackward 32 = .ok (.ifCond .le 38, 3) := by decide +kernel
theorem dL_toldBackward_35 : decode cL_toldBackward 35 = .ok (.iload_n 2, 1) := by decide +kernel
theorem dL_toldBackward_36 : decode cL_toldBackward 36 = .ok (.aload_n 1, 1) := by decide +kernel
theorem dL_toldBackward_37 : decode cL_toldBackward 37 = .ok (.iload_n 3, 1) := by decide +kernel
theorem dL_toldBackward_38 : decode cL_toldBackward 38 = .ok (.aload_n 1, 1) := by decide +kernel
theorem dL_toldBackward_39 : decode cL_toldBackward 39 = .ok (.iload_n 3, 1) := by decide +kernel
theorem dL_toldBackward_40 : decode cL_toldBackward 40 = .ok (.iconst 0, 1) := by decide +kernel
theorem dL_toldBackward_41 : decode cL_toldBackward 41 = .ok (.iconst 0, 1) := by decide +kernel
theorem dL_toldBackward_42 : decode cL_toldBackward 42 = .ok (.invokevirtual 128, 3) := by decide +kernel
theorem dL_toldBackward_45 : decode cL_toldBackward 45 = .ok (.iload_n 3, 1) := by decide +kernel
theorem dL_toldBackward_46 : decode cL_toldBackward 46 = .ok (.iconst 2, 1) := by decide +kernel
theorem dL_toldBackward_47 : decode cL_toldBackward 47 = .ok (.if_icmp .ge 13, 3) := by decide +kernel
theorem dL_toldBackward_50 : decode cL_toldBackward 50 = .ok (.aload_n 1, 1) := by decide +kernel
theorem dL_toldBackward_51 : decode cL_toldBackward 51 = .ok (.iload_n 3, 1) := by decide +kernel
theorem dL_toldBackward_52 : decode cL_toldBackward 52 = .ok (.iconst 0, 1) := by decide +kernel
theorem dL_toldBackward_53 : decode cL_toldBackward 53 = .ok (.iconst 1, 1) := by decide +kernel
theorem dL_toldBackward_54 : decode cL_toldBackward 54 = .ok (.invokevirtual 128, 3) := by decide +kernel
theorem dL_toldBackward_57 : decode cL_toldBackward 57 = .ok (.goto 4, 3) := by decide +kernel
theorem dL_toldBackward_60 : decode cL_toldBackward 60 = .ok (.iconst 0, 1) := by decide +kernel
theorem dL_toldBackward_61 : decode cL_toldBackward 61 = .ok (.iconst 0, 1) := by decide +kernel
theorem dL_toldBackward_62 : decode cL_toldBackward 62 = .ok (.invokevirtual 65, 3) := by decide +kernel
theorem dL_toldBackward_65 : decode cL_toldBackward 65 = .ok (.iadd, 1) := by decide +kernel
theorem dL_toldBackward_66 : decode cL_toldBackward 66 = .ok (.istore_n 2, 1) := by decide +kernel
theorem dL_toldBackward_67 : decode cL_toldBackward 67 = .ok (.goto (-40), 3) := by decide +kernel
theorem dL_toldBackward_70 : decode cL_toldBackward 70 = .ok (.iinc 3 1, 3) := by decide +kernel
theorem dL_toldBackward_73 : decode cL_toldBackward 73 = .ok (.goto (-51), 3) := by decide +kernel
theorem dL_toldBackward_76 : decode cL_toldBackward 76 = .ok (.iconst 3, 1) := by decide +kernel
theorem dL_toldBackward_77 : decode cL_toldBackward 77 = .ok (.istore_n 3, 1) := by decide +kernel
theorem dL_toldBackward_78 : decode cL_toldBackward 78 = .ok (.iload_n 3, 1) := by decide +kernel
theorem dL_toldBackward_79 : decode cL_toldBackward 79 = .ok (.aload_n 0, 1) := by decide +kernel
theorem dL_toldBackward_80 : decode cL_toldBackward 80 = .ok (.getfield 43, 3) := by decide +kernel
theorem dL_toldBackward_83 : decode cL_toldBackward 83 = .ok (.if_icmp .ge 22, 3) := by decide +kernel
theorem dL_toldBackward_86 : decode cL_toldBackward 86 = .ok (.iload_n 2, 1) := by decide +kernel
theorem dL_toldBackward_87 : decode cL_toldBackward 87 = .ok (.aload_n 1, 1) := by decide +kernel
theorem dL_toldBackward_88 : decode cL_toldBackward 88 = .ok (.aload_n 0, 1) := by decide +kernel
theorem dL_toldBackward_89 : decode cL_toldBackward 89 = .ok (.getfield 31, 3) := by decide +kernel
theorem dL_toldBackward_92 : decode cL_toldBackward 92 = .ok (.iload_n 3, 1) := by decide +kernel
theorem dL_toldBackward_93 : decode cL_toldBackward 93 = .ok (.iaload, 1) := by decide +kernel
theorem dL_toldBackward_94 : decode cL_toldBackward 94 = .ok (.invokevirtual 52, 3) := by decide +kernel
theorem dL_toldBackward_97 : decode cL_toldBackward 97 = .ok (.iadd, 1) := by decide +kernel
theorem dL_toldBackward_98 : decode cL_toldBackward 98 = .ok (.istore_n 2, 1) := by decide +kernel
theorem dL_toldBackward_99 : decode cL_toldBackward 99 = .ok (.iinc 3 1, 3) := by decide +kernel
theorem dL_toldBackward_102 : decode cL_toldBackward 102 = .ok (.goto (-24), 3) := by decide +kernel
theorem dL_toldBackward_105 : decode cL_toldBackward 105 = .ok (.aload_n 0, 1) := by decide +kernel
theorem dL_toldBackward_106 : decode cL_toldBackward 106 = .ok (.getfield 68, 3) := by decide +kernel
theorem dL_toldBackward_109 : decode cL_toldBackward 109 = .ok (.iconst 1, 1) := by decide +kernel
theorem dL_toldBackward_110 : decode cL_toldBackward 110 = .ok (.isub, 1) := by decide +kernel
theorem dL_toldBackward_111 : decode cL_toldBackward 111 = .ok (.istore_n 3, 1) := by decide +kernel
theorem dL_toldBackward_112 : decode cL_toldBackward 112 = .ok (.iload_n 3, 1) := by decide +kernel
theorem dL_toldBackward_113 : decode cL_toldBackward 113 = .ok (.ifCond .lt 75, 3) := by decide +kernel
theorem dL_toldBackward_116 : decode cL_toldBackward 116 = .ok (.aload_n 0, 1) := by decide +kernel
theorem dL_toldBackward_117 : decode cL_toldBackward 117 = .ok (.getfield 71, 3) := by decide +kernel
theorem dL_toldBackward_120 : decode cL_toldBackward 120 = .ok (.iload_n 3, 1) := by decide +kernel
theorem dL_toldBackward_121 : decode cL_toldBackward 121 = .ok (.aaload, 1) := by decide +kernel
theorem dL_toldBackward_122 : decode cL_toldBackward 122 = .ok (.astore 4, 2) := by decide +kernel
theorem dL_toldBackward_124 : decode cL_toldBackward 124 = .ok (.aload_n 1, 1) := by decide +kernel
theorem dL_toldBackward_125 : decode cL_toldBackward 125 = .ok (.aload 4, 2) := by decide +kernel
theorem dL_toldBackward_127 : decode cL_toldBackward 127 = .ok (.iconst 0, 1) := by decide +kernel
theorem dL_toldBackward_128 : decode cL_toldBackward 128 = .ok (.iaload, 1) := by decide +kernel
theorem dL_toldBackward_129 : decode cL_toldBackward 129 = .ok (.aload 4, 2) := by decide +kernel
theorem dL_toldBackward_131 : decode cL_toldBackward 131 = .ok (.iconst 1, 1) := by decide +kernel
theorem dL_toldBackward_132 : decode cL_toldBackward 132 = .ok (.iaload, 1) := by decide +kernel
theorem dL_toldBackward_133 : decode cL_toldBackward 133 = .ok (.aload 4, 2) := by decide +kernel
theorem dL_toldBackward_135 : decode cL_toldBackward 135 = .ok (.iconst 2, 1) := by decide +kernel
theorem dL_toldBackward_136 : decode cL_toldBackward 136 = .ok (.iaload, 1) := by decide +kernel
theorem dL_toldBackward_137 : decode cL_toldBackward 137 = .ok (.aload 4, 2) := by decide +kernel
theorem dL_toldBackward_139 : decode cL_toldBackward 139 = .ok (.iconst 3, 1) := by decide +kernel
theorem dL_toldBackward_140 : decode cL_toldBackward 140 = .ok (.iaload, 1) := by decide +kernel
theorem dL_toldBackward_141 : decode cL_toldBackward 141 = .ok (.invokevirtual 92, 3) := by decide +kernel
theorem dL_toldBackward_144 : decode cL_toldBackward 144 = .ok (.istore 5, 2) := by decide +kernel
theorem dL_toldBackward_146 : decode cL_toldBackward 146 = .ok (.aload 4, 2) := by decide +kernel
theorem dL_toldBackward_148 : decode cL_toldBackward 148 = .ok (.iconst 4, 1) := by decide +kernel
theorem dL_toldBackward_149 : decode cL_toldBackward 149 = .ok (.iaload, 1) := by decide +kernel
theorem dL_toldBackward_150 : decode cL_toldBackward 150 = .ok (.iconst 1, 1) := by decide +kernel
theorem dL_toldBackward_151 : decode cL_toldBackward 151 = .ok (.isub, 1) := by decide +kernel
theorem dL_toldBackward_152 : decode cL_toldBackward 152 = .ok (.istore 6, 2) := by decide +kernel
theorem dL_toldBackward_154 : decode cL_toldBackward 154 = .ok (.iload 6, 2) := by decide +kernel
theorem dL_toldBackward_156 : decode cL_toldBackward 156 = .ok (.ifCond .lt 26, 3) := by decide +kernel
theorem dL_toldBackward_159 : decode cL_toldBackward 159 = .ok (.iload_n 2, 1) := by decide +kernel
theorem dL_toldBackward_160 : decode cL_toldBackward 160 = .ok (.aload_n 1, 1) := by decide +kernel
theorem dL_toldBackward_161 : decode cL_toldBackward 161 = .ok (.iload 5, 2) := by decide +kernel
theorem dL_toldBackward_163 : decode cL_toldBackward 163 = .ok (.aload 4, 2) := by decide +kernel
theorem dL_toldBackward_165 : decode cL_toldBackward 165 = .ok (.iconst 5, 1) := by decide +kernel
theorem dL_toldBackward_166 : decode cL_toldBackward 166 = .ok (.iconst 5, 1) := by decide +kernel
theorem dL_toldBackward_167 : decode cL_toldBackward 167 = .ok (.iload 6, 2) := by decide +kernel
theorem dL_toldBackward_169 : decode cL_toldBackward 169 = .ok (.imul, 1) := by decide +kernel
theorem dL_toldBackward_170 : decode cL_toldBackward 170 = .ok (.iadd, 1) := by decide +kernel
theorem dL_toldBackward_171 : decode cL_toldBackward 171 = .ok (.invokestatic 99, 3) := by decide +kernel
theorem dL_toldBackward_174 : decode cL_toldBackward 174 = .ok (.iadd, 1) := by decide +kernel
theorem dL_toldBackward_175 : decode cL_toldBackward 175 = .ok (.istore_n 2, 1) := by decide +kernel
theorem dL_toldBackward_176 : decode cL_toldBackward 176 = .ok (.iinc 6 (-1), 3) := by decide +kernel
theorem dL_toldBackward_179 : decode cL_toldBackward 179 = .ok (.goto (-25), 3) := by decide +kernel
theorem dL_toldBackward_182 : decode cL_toldBackward 182 = .ok (.iinc 3 (-1), 3) := by decide +kernel
theorem dL_toldBackward_185 : decode cL_toldBackward 185 = .ok (.goto (-73), 3) := by decide +kernel
theorem dL_toldBackward_188 : decode cL_toldBackward 188 = .ok (.aload_n 0, 1) := by decide +kernel
theorem dL_toldBackward_189 : decode cL_toldBackward 189 = .ok (.getfield 43, 3) := by decide +kernel
theorem dL_toldBackward_192 : decode cL_toldBackward 192 = .ok (.iconst 1, 1) := by decide +kernel
theorem dL_toldBackward_193 : decode cL_toldBackward 193 = .ok (.isub, 1) := by decide +kernel
theorem dL_toldBackward_194 : decode cL_toldBackward 194 = .ok (.istore_n 3, 1) := by decide +kernel
theorem dL_toldBackward_195 : decode cL_toldBackward 195 = .ok (.iload_n 3, 1) := by decide +kernel
theorem dL_toldBackward_196 : decode cL_toldBackward 196 = .ok (.ifCond .lt 47, 3) := by decide +kernel
theorem dL_toldBackward_199 : decode cL_toldBackward 199 = .ok (.sipush 511, 3) := by decide +kernel
theorem dL_toldBackward_202 : decode cL_toldBackward 202 = .ok (.istore 4, 2) := by decide +kernel
theorem dL_toldBackward_204 : decode cL_toldBackward 204 = .ok (.iload 4, 2) := by decide +kernel
theorem dL_toldBackward_206 : decode cL_toldBackward 206 = .ok (.ifCond .lt 31, 3) := by decide +kernel
theorem dL_toldBackward_209 : decode cL_toldBackward 209 = .ok (.aload_n 0, 1) := by decide +kernel
theorem dL_toldBackward_210 : decode cL_toldBackward 210 = .ok (.getfield 48, 3) := by decide +kernel
theorem dL_toldBackward_213 : decode cL_toldBackward 213 = .ok (.iload_n 3, 1) := by decide +kernel
theorem dL_toldBackward_214 : decode cL_toldBackward 214 = .ok (.aaload, 1) := by decide +kernel
theorem dL_toldBackward_215 : decode cL_toldBackward 215 = .ok (.iload 4, 2) := by decide +kernel
theorem dL_toldBackward_217 : decode cL_toldBackward 217 = .ok (.baload, 1) := by decide +kernel
theorem dL_toldBackward_218 : decode cL_toldBackward 218 = .ok (.ifCond .eq 13, 3) := by decide +kernel
theorem dL_toldBackward_221 : decode cL_toldBackward 221 = .ok (.iload_n 2, 1) := by decide +kernel
theorem dL_toldBackward_222 : decode cL_toldBackward 222 = .ok (.aload_n 1, 1) := by decide +kernel
theorem dL_toldBackward_223 : decode cL_toldBackward 223 = .ok (.iload_n 3, 1) := by decide +kernel
theorem dL_toldBackward_224 : decode cL_toldBackward 224 = .ok (.iload 4, 2) := by decide +kernel
theorem dL_toldBackward_226 : decode cL_toldBackward 226 = .ok (.invokestatic 59, 3) := by decide +kernel
theorem dL_toldBackward_229 : decode cL_toldBackward 229 = .ok (.iadd, 1) := by decide +kernel
theorem dL_toldBackward_230 : decode cL_toldBackward 230 = .ok (.istore_n 2, 1) := by decide +kernel
theorem dL_toldBackward_231 : decode cL_toldBackward 231 = .ok (.iinc 4 (-1), 3) := by decide +kernel
theorem dL_toldBackward_234 : decode cL_toldBackward 234 = .ok (.goto (-30), 3) := by decide +kernel
theorem dL_toldBackward_237 : decode cL_toldBackward 237 = .ok (.iinc 3 (-1), 3) := by decide +kernel
theorem dL_toldBackward_240 : decode cL_toldBackward 240 = .ok (.goto (-45), 3) := by decide +kernel
theorem dL_toldBackward_243 : decode cL_toldBackward 243 = .ok (.aload_n 1, 1) := by decide +kernel
theorem dL_toldBackward_244 : decode cL_toldBackward 244 = .ok (.areturn, 1) := by decide +kernel
theorem dL_leavesNothing_0 : decode cL_leavesNothing 0 = .ok (.aload_n 2, 1) := by decide +kernel
theorem dL_leavesNothing_1 : decode cL_leavesNothing 1 = .ok (.aload_n 1, 1) := by decide +kernel
theorem dL_leavesNothing_2 : decode cL_leavesNothing 2 = .ok (.getfield 43, 3) := by decide +kernel
theorem dL_leavesNothing_5 : decode cL_leavesNothing 5 = .ok (.invokevirtual 37, 3) := by decide +kernel
theorem dL_leavesNothing_8 : decode cL_leavesNothing 8 = .ok (.istore_n 3, 1) := by decide +kernel
theorem dL_leavesNothing_9 : decode cL_leavesNothing 9 = .ok (.aload_n 1, 1) := by decide +kernel
theorem dL_leavesNothing_10 : decode cL_leavesNothing 10 = .ok (.aload_n 2, 1) := by decide +kernel
theorem dL_leavesNothing_11 : decode cL_leavesNothing 11 = .ok (.iload_n 3, 1) := by decide +kernel
theorem dL_leavesNothing_12 : decode cL_leavesNothing 12 = .ok (.bipush 8, 2) := by decide +kernel
