theorem dX9_init_0 : decode cX9_init 0 = .ok (.aload_n 0, 1) := by decide +kernel
theorem dX9_init_1 : decode cX9_init 1 = .ok (.invokespecial 3, 3) := by decide +kernel
theorem dX9_init_4 : decode cX9_init 4 = .ok (.aload_n 0, 1) := by decide +kernel
theorem dX9_init_5 : decode cX9_init 5 = .ok (.new 9, 3) := by decide +kernel
theorem dX9_init_8 : decode cX9_init 8 = .ok (.dup, 1) := by decide +kernel
theorem dX9_init_9 : decode cX9_init 9 = .ok (.iconst 5, 1) := by decide +kernel
theorem dX9_init_10 : decode cX9_init 10 = .ok (.invokespecial 11, 3) := by decide +kernel
theorem dX9_init_13 : decode cX9_init 13 = .ok (.putfield 14, 3) := by decide +kernel
theorem dX9_init_16 : decode cX9_init 16 = .ok (.aload_n 0, 1) := by decide +kernel
theorem dX9_init_17 : decode cX9_init 17 = .ok (.new 20, 3) := by decide +kernel
theorem dX9_init_20 : decode cX9_init 20 = .ok (.dup, 1) := by decide +kernel
theorem dX9_init_21 : decode cX9_init 21 = .ok (.invokespecial 22, 3) := by decide +kernel
theorem dX9_init_24 : decode cX9_init 24 = .ok (.putfield 23, 3) := by decide +kernel
theorem dX9_init_27 : decode cX9_init 27 = .ok (.aload_n 0, 1) := by decide +kernel
theorem dX9_init_28 : decode cX9_init 28 = .ok (.new 9, 3) := by decide +kernel
theorem dX9_init_31 : decode cX9_init 31 = .ok (.dup, 1) := by decide +kernel
theorem dX9_init_32 : decode cX9_init 32 = .ok (.iconst 4, 1) := by decide +kernel
theorem dX9_init_33 : decode cX9_init 33 = .ok (.invokespecial 11, 3) := by decide +kernel
theorem dX9_init_36 : decode cX9_init 36 = .ok (.putfield 27, 3) := by decide +kernel
theorem dX9_init_39 : decode cX9_init 39 = .ok (.aload_n 0, 1) := by decide +kernel
theorem dX9_init_40 : decode cX9_init 40 = .ok (.new 9, 3) := by decide +kernel
theorem dX9_init_43 : decode cX9_init 43 = .ok (.dup, 1) := by decide +kernel
theorem dX9_init_44 : decode cX9_init 44 = .ok (.iconst 5, 1) := by decide +kernel
theorem dX9_init_45 : decode cX9_init 45 = .ok (.invokespecial 11, 3) := by decide +kernel
theorem dX9_init_48 : decode cX9_init 48 = .ok (.putfield 30, 3) := by decide +kernel
theorem dX9_init_51 : decode cX9_init 51 = .ok (.aload_n 0, 1) := by decide +kernel
theorem dX9_init_52 : decode cX9_init 52 = .ok (.iconst 4, 1) := by decide +kernel
theorem dX9_init_53 : decode cX9_init 53 = .ok (.anewarray 33, 3) := by decide +kernel
theorem dX9_init_56 : decode cX9_init 56 = .ok (.putfield 35, 3) := by decide +kernel
theorem dX9_init_59 : decode cX9_init 59 = .ok (.aload_n 0, 1) := by decide +kernel
theorem dX9_init_60 : decode cX9_init 60 = .ok (.iconst 5, 1) := by decide +kernel
theorem dX9_init_61 : decode cX9_init 61 = .ok (.anewarray 33, 3) := by decide +kernel
theorem dX9_init_64 : decode cX9_init 64 = .ok (.putfield 39, 3) := by decide +kernel
theorem dX9_init_67 : decode cX9_init 67 = .ok (.aload_n 0, 1) := by decide +kernel
theorem dX9_init_68 : decode cX9_init 68 = .ok (.new 33, 3) := by decide +kernel
theorem dX9_init_71 : decode cX9_init 71 = .ok (.dup, 1) := by decide +kernel
theorem dX9_init_72 : decode cX9_init 72 = .ok (.invokespecial 42, 3) := by decide +kernel
theorem dX9_init_75 : decode cX9_init 75 = .ok (.putfield 43, 3) := by decide +kernel
theorem dX9_init_78 : decode cX9_init 78 = .ok (.iconst 0, 1) := by decide +kernel
theorem dX9_init_79 : decode cX9_init 79 = .ok (.istore_n 1, 1) := by decide +kernel
theorem dX9_init_80 : decode cX9_init 80 = .ok (.iload_n 1, 1) := by decide +kernel
theorem dX9_init_81 : decode cX9_init 81 = .ok (.aload_n 0, 1) := by decide +kernel
theorem dX9_init_82 : decode cX9_init 82 = .ok (.getfield 35, 3) := by decide +kernel
theorem dX9_init_85 : decode cX9_init 85 = .ok (.arraylength, 1) := by decide +kernel
theorem dX9_init_86 : decode cX9_init 86 = .ok (.if_icmp .ge 22, 3) := by decide +kernel
theorem dX9_init_89 : decode cX9_init 89 = .ok (.aload_n 0, 1) := by decide +kernel
theorem dX9_init_90 : decode cX9_init 90 = .ok (.getfield 35, 3) := by decide +kernel
theorem dX9_init_93 : decode cX9_init 93 = .ok (.iload_n 1, 1) := by decide +kernel
theorem dX9_init_94 : decode cX9_init 94 = .ok (.new 33, 3) := by decide +kernel
theorem dX9_init_97 : decode cX9_init 97 = .ok (.dup, 1) := by decide +kernel
theorem dX9_init_98 : decode cX9_init 98 = .ok (.invokespecial 42, 3) := by decide +kernel
theorem dX9_init_101 : decode cX9_init 101 = .ok (.aastore, 1) := by decide +kernel
theorem dX9_init_102 : decode cX9_init 102 = .ok (.iinc 1 1, 3) := by decide +kernel
theorem dX9_init_105 : decode cX9_init 105 = .ok (.goto (-25), 3) := by decide +kernel
theorem dX9_init_108 : decode cX9_init 108 = .ok (.iconst 0, 1) := by decide +kernel
theorem dX9_init_109 : decode cX9_init 109 = .ok (.istore_n 1, 1) := by decide +kernel
theorem dX9_init_110 : decode cX9_init 110 = .ok (.iload_n 1, 1) := by decide +kernel
theorem dX9_init_111 : decode cX9_init 111 = .ok (.aload_n 0, 1) := by decide +kernel
theorem dX9_init_112 : decode cX9_init 112 = .ok (.getfield 39, 3) := by decide +kernel
theorem dX9_init_115 : decode cX9_init 115 = .ok (.arraylength, 1) := by decide +kernel
theorem dX9_init_116 : decode cX9_init 116 = .ok (.if_icmp .ge 22, 3) := by decide +kernel
theorem dX9_init_119 : decode cX9_init 119 = .ok (.aload_n 0, 1) := by decide +kernel
theorem dX9_init_120 : decode cX9_init 120 = .ok (.getfield 39, 3) := by decide +kernel
theorem dX9_init_123 : decode cX9_init 123 = .ok (.iload_n 1, 1) := by decide +kernel
theorem dX9_init_124 : decode cX9_init 124 = .ok (.new 33, 3) := by decide +kernel
theorem dX9_init_127 : decode cX9_init 127 = .ok (.dup, 1) := by decide +kernel
theorem dX9_init_128 : decode cX9_init 128 = .ok (.invokespecial 42, 3) := by decide +kernel
theorem dX9_init_131 : decode cX9_init 131 = .ok (.aastore, 1) := by decide +kernel
theorem dX9_init_132 : decode cX9_init 132 = .ok (.iinc 1 1, 3) := by decide +kernel
theorem dX9_init_135 : decode cX9_init 135 = .ok (.goto (-25), 3) := by decide +kernel
theorem dX9_init_138 : decode cX9_init 138 = .ok (.aload_n 0, 1) := by decide +kernel
theorem dX9_init_139 : decode cX9_init 139 = .ok (.getfield 27, 3) := by decide +kernel
theorem dX9_init_142 : decode cX9_init 142 = .ok (.bipush 123, 2) := by decide +kernel
theorem dX9_init_144 : decode cX9_init 144 = .ok (.invokevirtual 47, 3) := by decide +kernel
theorem dX9_init_147 : decode cX9_init 147 = .ok (.return_, 1) := by decide +kernel
theorem dX9_query_0 : decode cX9_query 0 = .ok (.iload_n 1, 1) := by decide +kernel
theorem dX9_query_1 : decode cX9_query 1 = .ok (.ifCond .lt 21, 3) := by decide +kernel
theorem dX9_query_4 : decode cX9_query 4 = .ok (.iload_n 1, 1) := by decide +kernel
theorem dX9_query_5 : decode cX9_query 5 = .ok (.aload_n 0, 1) := by decide +kernel
theorem dX9_query_6 : decode cX9_query 6 = .ok (.getfield 35, 3) := by decide +kernel
theorem dX9_query_9 : decode cX9_query 9 = .ok (.arraylength, 1) := by decide +kernel
theorem dX9_query_10 : decode cX9_query 10 = .ok (.if_icmp .ge 12, 3) := by decide +kernel
theorem dX9_query_13 : decode cX9_query 13 = .ok (.aload_n 0, 1) := by decide +kernel
theorem dX9_query_14 : decode cX9_query 14 = .ok (.getfield 35, 3) := by decide +kernel
theorem dX9_query_17 : decode cX9_query 17 = .ok (.iload_n 1, 1) := by decide +kernel
theorem dX9_query_18 : decode cX9_query 18 = .ok (.aaload, 1) := by decide +kernel
theorem dX9_query_19 : decode cX9_query 19 = .ok (.goto 4, 3) := by decide +kernel
theorem dX9_query_22 : decode cX9_query 22 = .ok (.aconst_null, 1) := by decide +kernel
theorem dX9_query_23 : decode cX9_query 23 = .ok (.astore_n 2, 1) := by decide +kernel
theorem dX9_query_24 : decode cX9_query 24 = .ok (.aload_n 2, 1) := by decide +kernel
theorem dX9_query_25 : decode cX9_query 25 = .ok (.ifnonnull 10, 3) := by decide +kernel
theorem dX9_query_28 : decode cX9_query 28 = .ok (.aload_n 0, 1) := by decide +kernel
theorem dX9_query_29 : decode cX9_query 29 = .ok (.getfield 43, 3) := by decide +kernel
theorem dX9_query_32 : decode cX9_query 32 = .ok (.goto 4, 3) := by decide +kernel
theorem dX9_query_35 : decode cX9_query 35 = .ok (.aload_n 2, 1) := by decide +kernel
theorem dX9_query_36 : decode cX9_query 36 = .ok (.areturn, 1) := by decide +kernel
theorem dX9_body_0 : decode cX9_body 0 = .ok (.iload_n 1, 1) := by decide +kernel
theorem dX9_body_1 : decode cX9_body 1 = .ok (.ifCond .lt 21, 3) := by decide +kernel
theorem dX9_body_4 : decode cX9_body 4 = .ok (.iload_n 1, 1) := by decide +kernel
theorem dX9_body_5 : decode cX9_body 5 = .ok (.aload_n 0, 1) := by decide +kernel
theorem dX9_body_6 : decode cX9_body 6 = .ok (.getfield 39, 3) := by decide +kernel
theorem dX9_body_9 : decode cX9_body 9 = .ok (.arraylength, 1) := by decide +kernel
theorem dX9_body_10 : decode cX9_body 10 = .ok (.if_icmp .ge 12, 3) := by decide +kernel
theorem dX9_body_13 : decode cX9_body 13 = .ok (.aload_n 0, 1) := by decide +kernel
theorem dX9_body_14 : decode cX9_body 14 = .ok (.getfield 39, 3) := by decide +kernel
theorem dX9_body_17 : decode cX9_body 17 = .ok (.iload_n 1, 1) := by decide +kernel
theorem dX9_body_18 : decode cX9_body 18 = .ok (.aaload, 1) := by decide +kernel
theorem dX9_body_19 : decode cX9_body 19 = .ok (.goto 4, 3) := by decide +kernel
theorem dX9_body_22 : decode cX9_body 22 = .ok (.aconst_null, 1) := by decide +kernel
theorem dX9_body_23 : decode cX9_body 23 = .ok (.astore_n 2, 1) := by decide +kernel
theorem dX9_body_24 : decode cX9_body 24 = .ok (.aload_n 2, 1) := by decide +kernel
theorem dX9_body_25 : decode cX9_body 25 = .ok (.ifnonnull 10, 3) := by decide +kernel
theorem dX9_body_28 : decode cX9_body 28 = .ok (.aload_n 0, 1) := by decide +kernel
theorem dX9_body_29 : decode cX9_body 29 = .ok (.getfield 43, 3) := by decide +kernel
theorem dX9_body_32 : decode cX9_body 32 = .ok (.goto 4, 3) := by decide +kernel
theorem dX9_body_35 : decode cX9_body 35 = .ok (.aload_n 2, 1) := by decide +kernel
theorem dX9_body_36 : decode cX9_body 36 = .ok (.areturn, 1) := by decide +kernel
theorem dX9_openTable_0 : decode cX9_openTable 0 = .ok (.aload_n 0, 1) := by decide +kernel
theorem dX9_openTable_1 : decode cX9_openTable 1 = .ok (.getfield 14, 3) := by decide +kernel
theorem dX9_openTable_4 : decode cX9_openTable 4 = .ok (.aload_n 0, 1) := by decide +kernel
theorem dX9_openTable_5 : decode cX9_openTable 5 = .ok (.getfield 50, 3) := by decide +kernel
theorem dX9_openTable_8 : decode cX9_openTable 8 = .ok (.iload_n 1, 1) := by decide +kernel
theorem dX9_openTable_9 : decode cX9_openTable 9 = .ok (.invokevirtual 54, 3) := by decide +kernel
theorem dX9_openTable_12 : decode cX9_openTable 12 = .ok (.aload_n 0, 1) := by decide +kernel
theorem dX9_openTable_13 : decode cX9_openTable 13 = .ok (.dup, 1) := by decide +kernel
theorem dX9_openTable_14 : decode cX9_openTable 14 = .ok (.getfield 50, 3) := by decide +kernel
theorem dX9_openTable_17 : decode cX9_openTable 17 = .ok (.iconst 1, 1) := by decide +kernel
theorem dX9_openTable_18 : decode cX9_openTable 18 = .ok (.iadd, 1) := by decide +kernel
theorem dX9_openTable_19 : decode cX9_openTable 19 = .ok (.putfield 50, 3) := by decide +kernel
theorem dX9_openTable_22 : decode cX9_openTable 22 = .ok (.return_, 1) := by decide +kernel
theorem dX9_openRule_0 : decode cX9_openRule 0 = .ok (.aload_n 0, 1) := by decide +kernel
theorem dX9_openRule_1 : decode cX9_openRule 1 = .ok (.getfield 30, 3) := by decide +kernel
theorem dX9_openRule_4 : decode cX9_openRule 4 = .ok (.aload_n 0, 1) := by decide +kernel
theorem dX9_openRule_5 : decode cX9_openRule 5 = .ok (.getfield 58, 3) := by decide +kernel
theorem dX9_openRule_8 : decode cX9_openRule 8 = .ok (.iload_n 1, 1) := by decide +kernel
theorem dX9_openRule_9 : decode cX9_openRule 9 = .ok (.invokevirtual 54, 3) := by decide +kernel
theorem dX9_openRule_12 : decode cX9_openRule 12 = .ok (.aload_n 0, 1) := by decide +kernel
theorem dX9_openRule_13 : decode cX9_openRule 13 = .ok (.aload_n 0, 1) := by decide +kernel
theorem dX9_openRule_14 : decode cX9_openRule 14 = .ok (.getfield 58, 3) := by decide +kernel
theorem dX9_openRule_17 : decode cX9_openRule 17 = .ok (.invokevirtual 61, 3) := by decide +kernel
theorem dX9_openRule_20 : decode cX9_openRule 20 = .ok (.invokevirtual 65, 3) := by decide +kernel
theorem dX9_openRule_23 : decode cX9_openRule 23 = .ok (.aload_n 0, 1) := by decide +kernel
theorem dX9_openRule_24 : decode cX9_openRule 24 = .ok (.dup, 1) := by decide +kernel
theorem dX9_openRule_25 : decode cX9_openRule 25 = .ok (.getfield 58, 3) := by decide +kernel
theorem dX9_openRule_28 : decode cX9_openRule 28 = .ok (.iconst 1, 1) := by decide +kernel
theorem dX9_openRule_29 : decode cX9_openRule 29 = .ok (.iadd, 1) := by decide +kernel
theorem dX9_openRule_30 : decode cX9_openRule 30 = .ok (.putfield 58, 3) := by decide +kernel
theorem dX9_openRule_33 : decode cX9_openRule 33 = .ok (.return_, 1) := by decide +kernel
theorem dX9_closeRule_0 : decode cX9_closeRule 0 = .ok (.iload_n 1, 1) := by decide +kernel
theorem dX9_closeRule_1 : decode cX9_closeRule 1 = .ok (.istore_n 2, 1) := by decide +kernel
theorem dX9_closeRule_2 : decode cX9_closeRule 2 = .ok (.iload_n 2, 1) := by decide +kernel
theorem dX9_closeRule_3 : decode cX9_closeRule 3 = .ok (.iconst 1, 1) := by decide +kernel
theorem dX9_closeRule_4 : decode cX9_closeRule 4 = .ok (.iadd, 1) := by decide +kernel
theorem dX9_closeRule_5 : decode cX9_closeRule 5 = .ok (.aload_n 0, 1) := by decide +kernel
theorem dX9_closeRule_6 : decode cX9_closeRule 6 = .ok (.getfield 58, 3) := by decide +kernel
theorem dX9_closeRule_9 : decode cX9_closeRule 9 = .ok (.if_icmp .ge 42, 3) := by decide +kernel
theorem dX9_closeRule_12 : decode cX9_closeRule 12 = .ok (.aload_n 0, 1) := by decide +kernel
theorem dX9_closeRule_13 : decode cX9_closeRule 13 = .ok (.getfield 30, 3) := by decide +kernel
theorem dX9_closeRule_16 : decode cX9_closeRule 16 = .ok (.iload_n 2, 1) := by decide +kernel
theorem dX9_closeRule_17 : decode cX9_closeRule 17 = .ok (.aload_n 0, 1) := by decide +kernel
theorem dX9_closeRule_18 : decode cX9_closeRule 18 = .ok (.getfield 30, 3) := by decide +kernel
theorem dX9_closeRule_21 : decode cX9_closeRule 21 = .ok (.iload_n 2, 1) := by decide +kernel
theorem dX9_closeRule_22 : decode cX9_closeRule 22 = .ok (.iconst 1, 1) := by decide +kernel
theorem dX9_closeRule_23 : decode cX9_closeRule 23 = .ok (.iadd, 1) := by decide +kernel
theorem dX9_closeRule_24 : decode cX9_closeRule 24 = .ok (.invokevirtual 68, 3) := by decide +kernel
theorem dX9_closeRule_27 : decode cX9_closeRule 27 = .ok (.invokevirtual 54, 3) := by decide +kernel
theorem dX9_closeRule_30 : decode cX9_closeRule 30 = .ok (.aload_n 0, 1) := by decide +kernel
theorem dX9_closeRule_31 : decode cX9_closeRule 31 = .ok (.iload_n 2, 1) := by decide +kernel
theorem dX9_closeRule_32 : decode cX9_closeRule 32 = .ok (.invokevirtual 61, 3) := by decide +kernel
theorem dX9_closeRule_35 : decode cX9_closeRule 35 = .ok (.aload_n 0, 1) := by decide +kernel
theorem dX9_closeRule_36 : decode cX9_closeRule 36 = .ok (.iload_n 2, 1) := by decide +kernel
theorem dX9_closeRule_37 : decode cX9_closeRule 37 = .ok (.iconst 1, 1) := by decide +kernel
theorem dX9_closeRule_38 : decode cX9_closeRule 38 = .ok (.iadd, 1) := by decide +kernel
theorem dX9_closeRule_39 : decode cX9_closeRule 39 = .ok (.invokevirtual 61, 3) := by decide +kernel
theorem dX9_closeRule_42 : decode cX9_closeRule 42 = .ok (.invokevirtual 72, 3) := by decide +kernel
theorem dX9_closeRule_45 : decode cX9_closeRule 45 = .ok (.iinc 2 1, 3) := by decide +kernel
theorem dX9_closeRule_48 : decode cX9_closeRule 48 = .ok (.goto (-46), 3) := by decide +kernel
theorem dX9_closeRule_51 : decode cX9_closeRule 51 = .ok (.aload_n 0, 1) := by decide +kernel
theorem dX9_closeRule_52 : decode cX9_closeRule 52 = .ok (.dup, 1) := by decide +kernel
theorem dX9_closeRule_53 : decode cX9_closeRule 53 = .ok (.getfield 58, 3) := by decide +kernel
theorem dX9_closeRule_56 : decode cX9_closeRule 56 = .ok (.iconst 1, 1) := by decide +kernel
theorem dX9_closeRule_57 : decode cX9_closeRule 57 = .ok (.isub, 1) := by decide +kernel
theorem dX9_closeRule_58 : decode cX9_closeRule 58 = .ok (.putfield 58, 3) := by decide +kernel
theorem dX9_closeRule_61 : decode cX9_closeRule 61 = .ok (.return_, 1) := by decide +kernel
theorem dX9_rests_0 : decode cX9_rests 0 = .ok (.aload_n 0, 1) := by decide +kernel
theorem dX9_rests_1 : decode cX9_rests 1 = .ok (.iload_n 1, 1) := by decide +kernel
theorem dX9_rests_2 : decode cX9_rests 2 = .ok (.invokevirtual 61, 3) := by decide +kernel
theorem dX9_rests_5 : decode cX9_rests 5 = .ok (.iconst 0, 1) := by decide +kernel
theorem dX9_rests_6 : decode cX9_rests 6 = .ok (.invokevirtual 76, 3) := by decide +kernel
theorem dX9_rests_9 : decode cX9_rests 9 = .ok (.istore_n 2, 1) := by decide +kernel
theorem dX9_rests_10 : decode cX9_rests 10 = .ok (.aload_n 0, 1) := by decide +kernel
theorem dX9_rests_11 : decode cX9_rests 11 = .ok (.getfield 30, 3) := by decide +kernel
theorem dX9_rests_14 : decode cX9_rests 14 = .ok (.iload_n 1, 1) := by decide +kernel
theorem dX9_rests_15 : decode cX9_rests 15 = .ok (.invokevirtual 68, 3) := by decide +kernel
theorem dX9_rests_18 : decode cX9_rests 18 = .ok (.invokestatic 80, 3) := by decide +kernel
theorem dX9_rests_21 : decode cX9_rests 21 = .ok (.aload_n 0, 1) := by decide +kernel
theorem dX9_rests_22 : decode cX9_rests 22 = .ok (.iload_n 1, 1) := by decide +kernel
theorem dX9_rests_23 : decode cX9_rests 23 = .ok (.invokevirtual 61, 3) := by decide +kernel
theorem dX9_rests_26 : decode cX9_rests 26 = .ok (.iconst 1, 1) := by decide +kernel
theorem dX9_rests_27 : decode cX9_rests 27 = .ok (.invokevirtual 76, 3) := by decide +kernel
theorem dX9_rests_30 : decode cX9_rests 30 = .ok (.ior, 1) := by decide +kernel
theorem dX9_rests_31 : decode cX9_rests 31 = .ok (.istore_n 3, 1) := by decide +kernel
theorem dX9_rests_32 : decode cX9_rests 32 = .ok (.iload_n 3, 1) := by decide +kernel
theorem dX9_rests_33 : decode cX9_rests 33 = .ok (.iload_n 2, 1) := by decide +kernel
theorem dX9_rests_34 : decode cX9_rests 34 = .ok (.iconst (-1), 1) := by decide +kernel
theorem dX9_rests_35 : decode cX9_rests 35 = .ok (.ixor, 1) := by decide +kernel
theorem dX9_rests_36 : decode cX9_rests 36 = .ok (.iand, 1) := by decide +kernel
theorem dX9_rests_37 : decode cX9_rests 37 = .ok (.ifCond .eq 7, 3) := by decide +kernel
theorem dX9_rests_40 : decode cX9_rests 40 = .ok (.iconst 1, 1) := by decide +kernel
theorem dX9_rests_41 : decode cX9_rests 41 = .ok (.goto 4, 3) := by decide +kernel
theorem dX9_rests_44 : decode cX9_rests 44 = .ok (.iconst 0, 1) := by decide +kernel
theorem dX9_rests_45 : decode cX9_rests 45 = .ok (.ireturn, 1) := by decide +kernel
theorem dX9_copyFrom_0 : decode cX9_copyFrom 0 = .ok (.aload_n 0, 1) := by decide +kernel
theorem dX9_copyFrom_1 : decode cX9_copyFrom 1 = .ok (.getfield 14, 3) := by decide +kernel
theorem dX9_copyFrom_4 : decode cX9_copyFrom 4 = .ok (.aload_n 1, 1) := by decide +kernel
theorem dX9_copyFrom_5 : decode cX9_copyFrom 5 = .ok (.getfield 14, 3) := by decide +kernel
theorem dX9_copyFrom_8 : decode cX9_copyFrom 8 = .ok (.invokevirtual 84, 3) := by decide +kernel
theorem dX9_copyFrom_11 : decode cX9_copyFrom 11 = .ok (.aload_n 0, 1) := by decide +kernel
theorem dX9_copyFrom_12 : decode cX9_copyFrom 12 = .ok (.getfield 23, 3) := by decide +kernel
theorem dX9_copyFrom_15 : decode cX9_copyFrom 15 = .ok (.aload_n 1, 1) := by decide +kernel
theorem dX9_copyFrom_16 : decode cX9_copyFrom 16 = .ok (.getfield 23, 3) := by decide +kernel
theorem dX9_copyFrom_19 : decode cX9_copyFrom 19 = .ok (.invokevirtual 87, 3) := by decide +kernel
theorem dX9_copyFrom_22 : decode cX9_copyFrom 22 = .ok (.aload_n 0, 1) := by decide +kernel
theorem dX9_copyFrom_23 : decode cX9_copyFrom 23 = .ok (.getfield 27, 3) := by decide +kernel
theorem dX9_copyFrom_26 : decode cX9_copyFrom 26 = .ok (.aload_n 1, 1) := by decide +kernel
theorem dX9_copyFrom_27 : decode cX9_copyFrom 27 = .ok (.getfield 27, 3) := by decide +kernel
theorem dX9_copyFrom_30 : decode cX9_copyFrom 30 = .ok (.invokevirtual 84, 3) := by decide +kernel
theorem dX9_copyFrom_33 : decode cX9_copyFrom 33 = .ok (.aload_n 0, 1) := by decide +kernel
theorem dX9_copyFrom_34 : decode cX9_copyFrom 34 = .ok (.getfield 30, 3) := by decide +kernel
theorem dX9_copyFrom_37 : decode cX9_copyFrom 37 = .ok (.aload_n 1, 1) := by decide +kernel
theorem dX9_copyFrom_38 : decode cX9_copyFrom 38 = .ok (.getfield 30, 3) := by decide +kernel
theorem dX9_copyFrom_41 : decode cX9_copyFrom 41 = .ok (.invokevirtual 84, 3) := by decide +kernel
theorem dX9_copyFrom_44 : decode cX9_copyFrom 44 = .ok (.iconst 0, 1) := by decide +kernel
theorem dX9_copyFrom_45 : decode cX9_copyFrom 45 = .ok (.istore_n 2, 1) := by decide +kernel
theorem dX9_copyFrom_46 : decode cX9_copyFrom 46 = .ok (.iload_n 2, 1) := by decide +kernel
theorem dX9_copyFrom_47 : decode cX9_copyFrom 47 = .ok (.iconst 4, 1) := by decide +kernel
theorem dX9_copyFrom_48 : decode cX9_copyFrom 48 = .ok (.if_icmp .ge 22, 3) := by decide +kernel
theorem dX9_copyFrom_51 : decode cX9_copyFrom 51 = .ok (.aload_n 0, 1) := by decide +kernel
theorem dX9_copyFrom_52 : decode cX9_copyFrom 52 = .ok (.iload_n 2, 1) := by decide +kernel
theorem dX9_copyFrom_53 : decode cX9_copyFrom 53 = .ok (.invokevirtual 90, 3) := by decide +kernel
theorem dX9_copyFrom_56 : decode cX9_copyFrom 56 = .ok (.aload_n 1, 1) := by decide +kernel
theorem dX9_copyFrom_57 : decode cX9_copyFrom 57 = .ok (.iload_n 2, 1) := by decide +kernel
theorem dX9_copyFrom_58 : decode cX9_copyFrom 58 = .ok (.invokevirtual 90, 3) := by decide +kernel
theorem dX9_copyFrom_61 : decode cX9_copyFrom 61 = .ok (.invokevirtual 72, 3) := by decide +kernel
theorem dX9_copyFrom_64 : decode cX9_copyFrom 64 = .ok (.iinc 2 1, 3) := by decide +kernel
theorem dX9_copyFrom_67 : decode cX9_copyFrom 67 = .ok (.goto (-21), 3) := by decide +kernel
theorem dX9_copyFrom_70 : decode cX9_copyFrom 70 = .ok (.iconst 0, 1) := by decide +kernel
theorem dX9_copyFrom_71 : decode cX9_copyFrom 71 = .ok (.istore_n 2, 1) := by decide +kernel
theorem dX9_copyFrom_72 : decode cX9_copyFrom 72 = .ok (.iload_n 2, 1) := by decide +kernel
theorem dX9_copyFrom_73 : decode cX9_copyFrom 73 = .ok (.iconst 5, 1) := by decide +kernel
theorem dX9_copyFrom_74 : decode cX9_copyFrom 74 = .ok (.if_icmp .ge 22, 3) := by decide +kernel
theorem dX9_copyFrom_77 : decode cX9_copyFrom 77 = .ok (.aload_n 0, 1) := by decide +kernel
theorem dX9_copyFrom_78 : decode cX9_copyFrom 78 = .ok (.iload_n 2, 1) := by decide +kernel
theorem dX9_copyFrom_79 : decode cX9_copyFrom 79 = .ok (.invokevirtual 61, 3) := by decide +kernel
theorem dX9_copyFrom_82 : decode cX9_copyFrom 82 = .ok (.aload_n 1, 1) := by decide +kernel
theorem dX9_copyFrom_83 : decode cX9_copyFrom 83 = .ok (.iload_n 2, 1) := by decide +kernel
theorem dX9_copyFrom_84 : decode cX9_copyFrom 84 = .ok (.invokevirtual 61, 3) := by decide +kernel
theorem dX9_copyFrom_87 : decode cX9_copyFrom 87 = .ok (.invokevirtual 72, 3) := by decide +kernel
theorem dX9_copyFrom_90 : decode cX9_copyFrom 90 = .ok (.iinc 2 1, 3) := by decide +kernel
theorem dX9_copyFrom_93 : decode cX9_copyFrom 93 = .ok (.goto (-21), 3) := by decide +kernel
theorem dX9_copyFrom_96 : decode cX9_copyFrom 96 = .ok (.aload_n 0, 1) := by decide +kernel
theorem dX9_copyFrom_97 : decode cX9_copyFrom 97 = .ok (.aload_n 1, 1) := by decide +kernel
theorem dX9_copyFrom_98 : decode cX9_copyFrom 98 = .ok (.getfield 50, 3) := by decide +kernel
theorem dX9_copyFrom_101 : decode cX9_copyFrom 101 = .ok (.putfield 50, 3) := by decide +kernel
theorem dX9_copyFrom_104 : decode cX9_copyFrom 104 = .ok (.aload_n 0, 1) := by decide +kernel
theorem dX9_copyFrom_105 : decode cX9_copyFrom 105 = .ok (.aload_n 1, 1) := by decide +kernel
theorem dX9_copyFrom_106 : decode cX9_copyFrom 106 = .ok (.getfield 58, 3) := by decide +kernel
theorem dX9_copyFrom_109 : decode cX9_copyFrom 109 = .ok (.putfield 58, 3) := by decide +kernel
theorem dX9_copyFrom_112 : decode cX9_copyFrom 112 = .ok (.return_, 1) := by decide +kernel
