theorem dX7_copyFrom_8 : decode cX7_copyFrom 8 = .ok (.if_icmp .ge 30, 3) := by decide +kernel
theorem dX7_copyFrom_11 : decode cX7_copyFrom 11 = .ok (.iload_n 2, 1) := by decide +kernel
theorem dX7_copyFrom_12 : decode cX7_copyFrom 12 = .ok (.aload_n 1, 1) := by decide +kernel
theorem dX7_copyFrom_13 : decode cX7_copyFrom 13 = .ok (.getfield 9, 3) := by decide +kernel
theorem dX7_copyFrom_16 : decode cX7_copyFrom 16 = .ok (.arraylength, 1) := by decide +kernel
theorem dX7_copyFrom_17 : decode cX7_copyFrom 17 = .ok (.if_icmp .ge 21, 3) := by decide +kernel
theorem dX7_copyFrom_20 : decode cX7_copyFrom 20 = .ok (.aload_n 0, 1) := by decide +kernel
theorem dX7_copyFrom_21 : decode cX7_copyFrom 21 = .ok (.getfield 9, 3) := by decide +kernel
theorem dX7_copyFrom_24 : decode cX7_copyFrom 24 = .ok (.iload_n 2, 1) := by decide +kernel
theorem dX7_copyFrom_25 : decode cX7_copyFrom 25 = .ok (.aload_n 1, 1) := by decide +kernel
theorem dX7_copyFrom_26 : decode cX7_copyFrom 26 = .ok (.getfield 9, 3) := by decide +kernel
theorem dX7_copyFrom_29 : decode cX7_copyFrom 29 = .ok (.iload_n 2, 1) := by decide +kernel
theorem dX7_copyFrom_30 : decode cX7_copyFrom 30 = .ok (.laload, 1) := by decide +kernel
theorem dX7_copyFrom_31 : decode cX7_copyFrom 31 = .ok (.lastore, 1) := by decide +kernel
theorem dX7_copyFrom_32 : decode cX7_copyFrom 32 = .ok (.iinc 2 1, 3) := by decide +kernel
theorem dX7_copyFrom_35 : decode cX7_copyFrom 35 = .ok (.goto (-33), 3) := by decide +kernel
theorem dX7_copyFrom_38 : decode cX7_copyFrom 38 = .ok (.return_, 1) := by decide +kernel
theorem dX7_take_0 : decode cX7_take 0 = .ok (.iconst 0, 1) := by decide +kernel
theorem dX7_take_1 : decode cX7_take 1 = .ok (.istore_n 2, 1) := by decide +kernel
theorem dX7_take_2 : decode cX7_take 2 = .ok (.iconst 0, 1) := by decide +kernel
theorem dX7_take_3 : decode cX7_take 3 = .ok (.istore_n 3, 1) := by decide +kernel
theorem dX7_take_4 : decode cX7_take 4 = .ok (.iload_n 3, 1) := by decide +kernel
theorem dX7_take_5 : decode cX7_take 5 = .ok (.aload_n 0, 1) := by decide +kernel
theorem dX7_take_6 : decode cX7_take 6 = .ok (.getfield 9, 3) := by decide +kernel
theorem dX7_take_9 : decode cX7_take 9 = .ok (.arraylength, 1) := by decide +kernel
theorem dX7_take_10 : decode cX7_take 10 = .ok (.if_icmp .ge 61, 3) := by decide +kernel
theorem dX7_take_13 : decode cX7_take 13 = .ok (.iload_n 3, 1) := by decide +kernel
theorem dX7_take_14 : decode cX7_take 14 = .ok (.aload_n 1, 1) := by decide +kernel
theorem dX7_take_15 : decode cX7_take 15 = .ok (.getfield 9, 3) := by decide +kernel
theorem dX7_take_18 : decode cX7_take 18 = .ok (.arraylength, 1) := by decide +kernel
theorem dX7_take_19 : decode cX7_take 19 = .ok (.if_icmp .ge 52, 3) := by decide +kernel
theorem dX7_take_22 : decode cX7_take 22 = .ok (.aload_n 0, 1) := by decide +kernel
theorem dX7_take_23 : decode cX7_take 23 = .ok (.getfield 9, 3) := by decide +kernel
theorem dX7_take_26 : decode cX7_take 26 = .ok (.iload_n 3, 1) := by decide +kernel
theorem dX7_take_27 : decode cX7_take 27 = .ok (.laload, 1) := by decide +kernel
theorem dX7_take_28 : decode cX7_take 28 = .ok (.aload_n 1, 1) := by decide +kernel
theorem dX7_take_29 : decode cX7_take 29 = .ok (.getfield 9, 3) := by decide +kernel
theorem dX7_take_32 : decode cX7_take 32 = .ok (.iload_n 3, 1) := by decide +kernel
theorem dX7_take_33 : decode cX7_take 33 = .ok (.laload, 1) := by decide +kernel
theorem dX7_take_34 : decode cX7_take 34 = .ok (.lor, 1) := by decide +kernel
theorem dX7_take_35 : decode cX7_take 35 = .ok (.lstore 4, 2) := by decide +kernel
theorem dX7_take_37 : decode cX7_take 37 = .ok (.iload_n 2, 1) := by decide +kernel
theorem dX7_take_38 : decode cX7_take 38 = .ok (.lload 4, 2) := by decide +kernel
theorem dX7_take_40 : decode cX7_take 40 = .ok (.aload_n 0, 1) := by decide +kernel
theorem dX7_take_41 : decode cX7_take 41 = .ok (.getfield 9, 3) := by decide +kernel
theorem dX7_take_44 : decode cX7_take 44 = .ok (.iload_n 3, 1) := by decide +kernel
theorem dX7_take_45 : decode cX7_take 45 = .ok (.laload, 1) := by decide +kernel
theorem dX7_take_46 : decode cX7_take 46 = .ok (.lcmp, 1) := by decide +kernel
theorem dX7_take_47 : decode cX7_take 47 = .ok (.ifCond .eq 7, 3) := by decide +kernel
theorem dX7_take_50 : decode cX7_take 50 = .ok (.iconst 1, 1) := by decide +kernel
theorem dX7_take_51 : decode cX7_take 51 = .ok (.goto 4, 3) := by decide +kernel
theorem dX7_take_54 : decode cX7_take 54 = .ok (.iconst 0, 1) := by decide +kernel
theorem dX7_take_55 : decode cX7_take 55 = .ok (.ior, 1) := by decide +kernel
theorem dX7_take_56 : decode cX7_take 56 = .ok (.istore_n 2, 1) := by decide +kernel
theorem dX7_take_57 : decode cX7_take 57 = .ok (.aload_n 0, 1) := by decide +kernel
theorem dX7_take_58 : decode cX7_take 58 = .ok (.getfield 9, 3) := by decide +kernel
theorem dX7_take_61 : decode cX7_take 61 = .ok (.iload_n 3, 1) := by decide +kernel
theorem dX7_take_62 : decode cX7_take 62 = .ok (.lload 4, 2) := by decide +kernel
theorem dX7_take_64 : decode cX7_take 64 = .ok (.lastore, 1) := by decide +kernel
theorem dX7_take_65 : decode cX7_take 65 = .ok (.iinc 3 1, 3) := by decide +kernel
theorem dX7_take_68 : decode cX7_take 68 = .ok (.goto (-64), 3) := by decide +kernel
theorem dX7_take_71 : decode cX7_take 71 = .ok (.iload_n 2, 1) := by decide +kernel
theorem dX7_take_72 : decode cX7_take 72 = .ok (.ireturn, 1) := by decide +kernel
theorem dX7_keepOnly_0 : decode cX7_keepOnly 0 = .ok (.iconst 0, 1) := by decide +kernel
theorem dX7_keepOnly_1 : decode cX7_keepOnly 1 = .ok (.istore_n 3, 1) := by decide +kernel
theorem dX7_keepOnly_2 : decode cX7_keepOnly 2 = .ok (.iload_n 3, 1) := by decide +kernel
theorem dX7_keepOnly_3 : decode cX7_keepOnly 3 = .ok (.bipush 8, 2) := by decide +kernel
theorem dX7_keepOnly_5 : decode cX7_keepOnly 5 = .ok (.if_icmp .ge 48, 3) := by decide +kernel
theorem dX7_keepOnly_8 : decode cX7_keepOnly 8 = .ok (.iload_n 1, 1) := by decide +kernel
theorem dX7_keepOnly_9 : decode cX7_keepOnly 9 = .ok (.bipush 8, 2) := by decide +kernel
theorem dX7_keepOnly_11 : decode cX7_keepOnly 11 = .ok (.imul, 1) := by decide +kernel
theorem dX7_keepOnly_12 : decode cX7_keepOnly 12 = .ok (.iload_n 3, 1) := by decide +kernel
theorem dX7_keepOnly_13 : decode cX7_keepOnly 13 = .ok (.iadd, 1) := by decide +kernel
theorem dX7_keepOnly_14 : decode cX7_keepOnly 14 = .ok (.istore 4, 2) := by decide +kernel
theorem dX7_keepOnly_16 : decode cX7_keepOnly 16 = .ok (.iload 4, 2) := by decide +kernel
theorem dX7_keepOnly_18 : decode cX7_keepOnly 18 = .ok (.ifCond .lt 29, 3) := by decide +kernel
theorem dX7_keepOnly_21 : decode cX7_keepOnly 21 = .ok (.iload 4, 2) := by decide +kernel
theorem dX7_keepOnly_23 : decode cX7_keepOnly 23 = .ok (.aload_n 0, 1) := by decide +kernel
theorem dX7_keepOnly_24 : decode cX7_keepOnly 24 = .ok (.getfield 9, 3) := by decide +kernel
theorem dX7_keepOnly_27 : decode cX7_keepOnly 27 = .ok (.arraylength, 1) := by decide +kernel
theorem dX7_keepOnly_28 : decode cX7_keepOnly 28 = .ok (.if_icmp .ge 19, 3) := by decide +kernel
theorem dX7_keepOnly_31 : decode cX7_keepOnly 31 = .ok (.aload_n 0, 1) := by decide +kernel
theorem dX7_keepOnly_32 : decode cX7_keepOnly 32 = .ok (.getfield 9, 3) := by decide +kernel
theorem dX7_keepOnly_35 : decode cX7_keepOnly 35 = .ok (.iload 4, 2) := by decide +kernel
theorem dX7_keepOnly_37 : decode cX7_keepOnly 37 = .ok (.dup2, 1) := by decide +kernel
theorem dX7_keepOnly_38 : decode cX7_keepOnly 38 = .ok (.laload, 1) := by decide +kernel
theorem dX7_keepOnly_39 : decode cX7_keepOnly 39 = .ok (.aload_n 2, 1) := by decide +kernel
theorem dX7_keepOnly_40 : decode cX7_keepOnly 40 = .ok (.iload_n 1, 1) := by decide +kernel
theorem dX7_keepOnly_41 : decode cX7_keepOnly 41 = .ok (.iload_n 3, 1) := by decide +kernel
theorem dX7_keepOnly_42 : decode cX7_keepOnly 42 = .ok (.invokevirtual 23, 3) := by decide +kernel
theorem dX7_keepOnly_45 : decode cX7_keepOnly 45 = .ok (.land, 1) := by decide +kernel
theorem dX7_keepOnly_46 : decode cX7_keepOnly 46 = .ok (.lastore, 1) := by decide +kernel
theorem dX7_keepOnly_47 : decode cX7_keepOnly 47 = .ok (.iinc 3 1, 3) := by decide +kernel
theorem dX7_keepOnly_50 : decode cX7_keepOnly 50 = .ok (.goto (-48), 3) := by decide +kernel
theorem dX7_keepOnly_53 : decode cX7_keepOnly 53 = .ok (.return_, 1) := by decide +kernel
theorem dX7_size_0 : decode cX7_size 0 = .ok (.iconst 0, 1) := by decide +kernel
theorem dX7_size_1 : decode cX7_size 1 = .ok (.istore_n 2, 1) := by decide +kernel
theorem dX7_size_2 : decode cX7_size 2 = .ok (.iconst 0, 1) := by decide +kernel
theorem dX7_size_3 : decode cX7_size 3 = .ok (.istore_n 3, 1) := by decide +kernel
theorem dX7_size_4 : decode cX7_size 4 = .ok (.iload_n 3, 1) := by decide +kernel
theorem dX7_size_5 : decode cX7_size 5 = .ok (.bipush 8, 2) := by decide +kernel
theorem dX7_size_7 : decode cX7_size 7 = .ok (.if_icmp .ge 21, 3) := by decide +kernel
theorem dX7_size_10 : decode cX7_size 10 = .ok (.iload_n 2, 1) := by decide +kernel
theorem dX7_size_11 : decode cX7_size 11 = .ok (.aload_n 0, 1) := by decide +kernel
theorem dX7_size_12 : decode cX7_size 12 = .ok (.iload_n 1, 1) := by decide +kernel
theorem dX7_size_13 : decode cX7_size 13 = .ok (.iload_n 3, 1) := by decide +kernel
theorem dX7_size_14 : decode cX7_size 14 = .ok (.invokevirtual 23, 3) := by decide +kernel
theorem dX7_size_17 : decode cX7_size 17 = .ok (.invokestatic 27, 3) := by decide +kernel
theorem dX7_size_20 : decode cX7_size 20 = .ok (.iadd, 1) := by decide +kernel
theorem dX7_size_21 : decode cX7_size 21 = .ok (.istore_n 2, 1) := by decide +kernel
theorem dX7_size_22 : decode cX7_size 22 = .ok (.iinc 3 1, 3) := by decide +kernel
theorem dX7_size_25 : decode cX7_size 25 = .ok (.goto (-21), 3) := by decide +kernel
theorem dX7_size_28 : decode cX7_size 28 = .ok (.iload_n 2, 1) := by decide +kernel
theorem dX7_size_29 : decode cX7_size 29 = .ok (.ireturn, 1) := by decide +kernel
theorem dX7_numbered_0 : decode cX7_numbered 0 = .ok (.iload_n 2, 1) := by decide +kernel
theorem dX7_numbered_1 : decode cX7_numbered 1 = .ok (.istore_n 3, 1) := by decide +kernel
theorem dX7_numbered_2 : decode cX7_numbered 2 = .ok (.iconst 0, 1) := by decide +kernel
theorem dX7_numbered_3 : decode cX7_numbered 3 = .ok (.istore 4, 2) := by decide +kernel
theorem dX7_numbered_5 : decode cX7_numbered 5 = .ok (.iload 4, 2) := by decide +kernel
theorem dX7_numbered_7 : decode cX7_numbered 7 = .ok (.sipush 512, 3) := by decide +kernel
theorem dX7_numbered_10 : decode cX7_numbered 10 = .ok (.if_icmp .ge 29, 3) := by decide +kernel
theorem dX7_numbered_13 : decode cX7_numbered 13 = .ok (.aload_n 0, 1) := by decide +kernel
theorem dX7_numbered_14 : decode cX7_numbered 14 = .ok (.iload_n 1, 1) := by decide +kernel
theorem dX7_numbered_15 : decode cX7_numbered 15 = .ok (.iload 4, 2) := by decide +kernel
theorem dX7_numbered_17 : decode cX7_numbered 17 = .ok (.invokevirtual 33, 3) := by decide +kernel
theorem dX7_numbered_20 : decode cX7_numbered 20 = .ok (.ifCond .eq 13, 3) := by decide +kernel
theorem dX7_numbered_23 : decode cX7_numbered 23 = .ok (.iload_n 3, 1) := by decide +kernel
theorem dX7_numbered_24 : decode cX7_numbered 24 = .ok (.ifCond .ne 6, 3) := by decide +kernel
theorem dX7_numbered_27 : decode cX7_numbered 27 = .ok (.iload 4, 2) := by decide +kernel
theorem dX7_numbered_29 : decode cX7_numbered 29 = .ok (.ireturn, 1) := by decide +kernel
theorem dX7_numbered_30 : decode cX7_numbered 30 = .ok (.iinc 3 (-1), 3) := by decide +kernel
theorem dX7_numbered_33 : decode cX7_numbered 33 = .ok (.iinc 4 1, 3) := by decide +kernel
theorem dX7_numbered_36 : decode cX7_numbered 36 = .ok (.goto (-31), 3) := by decide +kernel
theorem dX7_numbered_39 : decode cX7_numbered 39 = .ok (.iconst 0, 1) := by decide +kernel
theorem dX7_numbered_40 : decode cX7_numbered 40 = .ok (.ireturn, 1) := by decide +kernel
theorem dX8_init_0 : decode cX8_init 0 = .ok (.aload_n 0, 1) := by decide +kernel
theorem dX8_init_1 : decode cX8_init 1 = .ok (.invokespecial 3, 3) := by decide +kernel
theorem dX8_init_4 : decode cX8_init 4 = .ok (.aload_n 0, 1) := by decide +kernel
theorem dX8_init_5 : decode cX8_init 5 = .ok (.new 9, 3) := by decide +kernel
theorem dX8_init_8 : decode cX8_init 8 = .ok (.dup, 1) := by decide +kernel
theorem dX8_init_9 : decode cX8_init 9 = .ok (.invokespecial 11, 3) := by decide +kernel
theorem dX8_init_12 : decode cX8_init 12 = .ok (.putfield 12, 3) := by decide +kernel
theorem dX8_init_15 : decode cX8_init 15 = .ok (.aload_n 0, 1) := by decide +kernel
theorem dX8_init_16 : decode cX8_init 16 = .ok (.new 18, 3) := by decide +kernel
theorem dX8_init_19 : decode cX8_init 19 = .ok (.dup, 1) := by decide +kernel
theorem dX8_init_20 : decode cX8_init 20 = .ok (.iconst 4, 1) := by decide +kernel
theorem dX8_init_21 : decode cX8_init 21 = .ok (.invokespecial 20, 3) := by decide +kernel
theorem dX8_init_24 : decode cX8_init 24 = .ok (.putfield 23, 3) := by decide +kernel
theorem dX8_init_27 : decode cX8_init 27 = .ok (.aload_n 0, 1) := by decide +kernel
theorem dX8_init_28 : decode cX8_init 28 = .ok (.new 18, 3) := by decide +kernel
theorem dX8_init_31 : decode cX8_init 31 = .ok (.dup, 1) := by decide +kernel
theorem dX8_init_32 : decode cX8_init 32 = .ok (.iconst 4, 1) := by decide +kernel
theorem dX8_init_33 : decode cX8_init 33 = .ok (.invokespecial 20, 3) := by decide +kernel
theorem dX8_init_36 : decode cX8_init 36 = .ok (.putfield 27, 3) := by decide +kernel
theorem dX8_init_39 : decode cX8_init 39 = .ok (.aload_n 0, 1) := by decide +kernel
theorem dX8_init_40 : decode cX8_init 40 = .ok (.new 18, 3) := by decide +kernel
theorem dX8_init_43 : decode cX8_init 43 = .ok (.dup, 1) := by decide +kernel
theorem dX8_init_44 : decode cX8_init 44 = .ok (.iconst 4, 1) := by decide +kernel
theorem dX8_init_45 : decode cX8_init 45 = .ok (.invokespecial 20, 3) := by decide +kernel
theorem dX8_init_48 : decode cX8_init 48 = .ok (.putfield 30, 3) := by decide +kernel
theorem dX8_init_51 : decode cX8_init 51 = .ok (.aload_n 0, 1) := by decide +kernel
theorem dX8_init_52 : decode cX8_init 52 = .ok (.new 18, 3) := by decide +kernel
theorem dX8_init_55 : decode cX8_init 55 = .ok (.dup, 1) := by decide +kernel
theorem dX8_init_56 : decode cX8_init 56 = .ok (.iconst 4, 1) := by decide +kernel
theorem dX8_init_57 : decode cX8_init 57 = .ok (.invokespecial 20, 3) := by decide +kernel
theorem dX8_init_60 : decode cX8_init 60 = .ok (.putfield 33, 3) := by decide +kernel
theorem dX8_init_63 : decode cX8_init 63 = .ok (.aload_n 0, 1) := by decide +kernel
theorem dX8_init_64 : decode cX8_init 64 = .ok (.new 18, 3) := by decide +kernel
theorem dX8_init_67 : decode cX8_init 67 = .ok (.dup, 1) := by decide +kernel
theorem dX8_init_68 : decode cX8_init 68 = .ok (.iconst 4, 1) := by decide +kernel
theorem dX8_init_69 : decode cX8_init 69 = .ok (.invokespecial 20, 3) := by decide +kernel
theorem dX8_init_72 : decode cX8_init 72 = .ok (.putfield 36, 3) := by decide +kernel
theorem dX8_init_75 : decode cX8_init 75 = .ok (.aload_n 0, 1) := by decide +kernel
theorem dX8_init_76 : decode cX8_init 76 = .ok (.new 18, 3) := by decide +kernel
theorem dX8_init_79 : decode cX8_init 79 = .ok (.dup, 1) := by decide +kernel
theorem dX8_init_80 : decode cX8_init 80 = .ok (.iconst 4, 1) := by decide +kernel
theorem dX8_init_81 : decode cX8_init 81 = .ok (.invokespecial 20, 3) := by decide +kernel
theorem dX8_init_84 : decode cX8_init 84 = .ok (.putfield 39, 3) := by decide +kernel
theorem dX8_init_87 : decode cX8_init 87 = .ok (.return_, 1) := by decide +kernel
theorem dX8_start_0 : decode cX8_start 0 = .ok (.aload_n 0, 1) := by decide +kernel
theorem dX8_start_1 : decode cX8_start 1 = .ok (.getfield 12, 3) := by decide +kernel
theorem dX8_start_4 : decode cX8_start 4 = .ok (.invokevirtual 42, 3) := by decide +kernel
theorem dX8_start_7 : decode cX8_start 7 = .ok (.iconst 0, 1) := by decide +kernel
theorem dX8_start_8 : decode cX8_start 8 = .ok (.istore_n 3, 1) := by decide +kernel
theorem dX8_start_9 : decode cX8_start 9 = .ok (.iload_n 3, 1) := by decide +kernel
theorem dX8_start_10 : decode cX8_start 10 = .ok (.aload_n 1, 1) := by decide +kernel
theorem dX8_start_11 : decode cX8_start 11 = .ok (.getfield 45, 3) := by decide +kernel
theorem dX8_start_14 : decode cX8_start 14 = .ok (.if_icmp .ge 32, 3) := by decide +kernel
theorem dX8_start_17 : decode cX8_start 17 = .ok (.aload_n 1, 1) := by decide +kernel
theorem dX8_start_18 : decode cX8_start 18 = .ok (.iload_n 3, 1) := by decide +kernel
theorem dX8_start_19 : decode cX8_start 19 = .ok (.invokevirtual 49, 3) := by decide +kernel
theorem dX8_start_22 : decode cX8_start 22 = .ok (.invokestatic 53, 3) := by decide +kernel
theorem dX8_start_25 : decode cX8_start 25 = .ok (.ifCond .ne 15, 3) := by decide +kernel
theorem dX8_start_28 : decode cX8_start 28 = .ok (.aload_n 0, 1) := by decide +kernel
theorem dX8_start_29 : decode cX8_start 29 = .ok (.getfield 12, 3) := by decide +kernel
theorem dX8_start_32 : decode cX8_start 32 = .ok (.aload_n 1, 1) := by decide +kernel
theorem dX8_start_33 : decode cX8_start 33 = .ok (.iload_n 3, 1) := by decide +kernel
theorem dX8_start_34 : decode cX8_start 34 = .ok (.invokevirtual 49, 3) := by decide +kernel
theorem dX8_start_37 : decode cX8_start 37 = .ok (.invokevirtual 59, 3) := by decide +kernel
theorem dX8_start_40 : decode cX8_start 40 = .ok (.iinc 3 1, 3) := by decide +kernel
theorem dX8_start_43 : decode cX8_start 43 = .ok (.goto (-34), 3) := by decide +kernel
theorem dX8_start_46 : decode cX8_start 46 = .ok (.aload_n 0, 1) := by decide +kernel
theorem dX8_start_47 : decode cX8_start 47 = .ok (.getfield 12, 3) := by decide +kernel
theorem dX8_start_50 : decode cX8_start 50 = .ok (.iconst 0, 1) := by decide +kernel
theorem dX8_start_51 : decode cX8_start 51 = .ok (.invokevirtual 62, 3) := by decide +kernel
theorem dX8_start_54 : decode cX8_start 54 = .ok (.istore_n 3, 1) := by decide +kernel
theorem dX8_start_55 : decode cX8_start 55 = .ok (.aload_n 0, 1) := by decide +kernel
theorem dX8_start_56 : decode cX8_start 56 = .ok (.iconst 0, 1) := by decide +kernel
theorem dX8_start_57 : decode cX8_start 57 = .ok (.putfield 66, 3) := by decide +kernel
theorem dX8_start_60 : decode cX8_start 60 = .ok (.iconst 0, 1) := by decide +kernel
theorem dX8_start_61 : decode cX8_start 61 = .ok (.istore 4, 2) := by decide +kernel
theorem dX8_start_63 : decode cX8_start 63 = .ok (.iload 4, 2) := by decide +kernel
theorem dX8_start_65 : decode cX8_start 65 = .ok (.iconst 4, 1) := by decide +kernel
theorem dX8_start_66 : decode cX8_start 66 = .ok (.if_icmp .ge 69, 3) := by decide +kernel
theorem dX8_start_69 : decode cX8_start 69 = .ok (.iload_n 2, 1) := by decide +kernel
theorem dX8_start_70 : decode cX8_start 70 = .ok (.iload 4, 2) := by decide +kernel
theorem dX8_start_72 : decode cX8_start 72 = .ok (.invokestatic 69, 3) := by decide +kernel
theorem dX8_start_75 : decode cX8_start 75 = .ok (.istore 5, 2) := by decide +kernel
theorem dX8_start_77 : decode cX8_start 77 = .ok (.iload_n 3, 1) := by decide +kernel
theorem dX8_start_78 : decode cX8_start 78 = .ok (.iconst 1, 1) := by decide +kernel
theorem dX8_start_79 : decode cX8_start 79 = .ok (.iload 5, 2) := by decide +kernel
theorem dX8_start_81 : decode cX8_start 81 = .ok (.ishl, 1) := by decide +kernel
theorem dX8_start_82 : decode cX8_start 82 = .ok (.iand, 1) := by decide +kernel
theorem dX8_start_83 : decode cX8_start 83 = .ok (.ifCond .eq 46, 3) := by decide +kernel
theorem dX8_start_86 : decode cX8_start 86 = .ok (.aload_n 0, 1) := by decide +kernel
theorem dX8_start_87 : decode cX8_start 87 = .ok (.getfield 23, 3) := by decide +kernel
theorem dX8_start_90 : decode cX8_start 90 = .ok (.aload_n 0, 1) := by decide +kernel
theorem dX8_start_91 : decode cX8_start 91 = .ok (.getfield 66, 3) := by decide +kernel
theorem dX8_start_94 : decode cX8_start 94 = .ok (.iload 5, 2) := by decide +kernel
theorem dX8_start_96 : decode cX8_start 96 = .ok (.invokevirtual 73, 3) := by decide +kernel
theorem dX8_start_99 : decode cX8_start 99 = .ok (.aload_n 0, 1) := by decide +kernel
theorem dX8_start_100 : decode cX8_start 100 = .ok (.getfield 27, 3) := by decide +kernel
theorem dX8_start_103 : decode cX8_start 103 = .ok (.aload_n 0, 1) := by decide +kernel
theorem dX8_start_104 : decode cX8_start 104 = .ok (.getfield 66, 3) := by decide +kernel
theorem dX8_start_107 : decode cX8_start 107 = .ok (.aload_n 0, 1) := by decide +kernel
theorem dX8_start_108 : decode cX8_start 108 = .ok (.getfield 12, 3) := by decide +kernel
theorem dX8_start_111 : decode cX8_start 111 = .ok (.iload 5, 2) := by decide +kernel
theorem dX8_start_113 : decode cX8_start 113 = .ok (.invokevirtual 77, 3) := by decide +kernel
theorem dX8_start_116 : decode cX8_start 116 = .ok (.invokevirtual 73, 3) := by decide +kernel
theorem dX8_start_119 : decode cX8_start 119 = .ok (.aload_n 0, 1) := by decide +kernel
theorem dX8_start_120 : decode cX8_start 120 = .ok (.dup, 1) := by decide +kernel
theorem dX8_start_121 : decode cX8_start 121 = .ok (.getfield 66, 3) := by decide +kernel
theorem dX8_start_124 : decode cX8_start 124 = .ok (.iconst 1, 1) := by decide +kernel
theorem dX8_start_125 : decode cX8_start 125 = .ok (.iadd, 1) := by decide +kernel
theorem dX8_start_126 : decode cX8_start 126 = .ok (.putfield 66, 3) := by decide +kernel
theorem dX8_start_129 : decode cX8_start 129 = .ok (.iinc 4 1, 3) := by decide +kernel
theorem dX8_start_132 : decode cX8_start 132 = .ok (.goto (-69), 3) := by decide +kernel
theorem dX8_start_135 : decode cX8_start 135 = .ok (.aload_n 0, 1) := by decide +kernel
theorem dX8_start_136 : decode cX8_start 136 = .ok (.iconst 0, 1) := by decide +kernel
theorem dX8_start_137 : decode cX8_start 137 = .ok (.putfield 80, 3) := by decide +kernel
theorem dX8_start_140 : decode cX8_start 140 = .ok (.aload_n 0, 1) := by decide +kernel
theorem dX8_start_141 : decode cX8_start 141 = .ok (.iconst 0, 1) := by decide +kernel
theorem dX8_start_142 : decode cX8_start 142 = .ok (.putfield 83, 3) := by decide +kernel
theorem dX8_start_145 : decode cX8_start 145 = .ok (.aload_n 0, 1) := by decide +kernel
theorem dX8_start_146 : decode cX8_start 146 = .ok (.iconst 0, 1) := by decide +kernel
theorem dX8_start_147 : decode cX8_start 147 = .ok (.putfield 86, 3) := by decide +kernel
theorem dX8_start_150 : decode cX8_start 150 = .ok (.aload_n 0, 1) := by decide +kernel
theorem dX8_start_151 : decode cX8_start 151 = .ok (.iconst (-1), 1) := by decide +kernel
theorem dX8_start_152 : decode cX8_start 152 = .ok (.putfield 89, 3) := by decide +kernel
theorem dX8_start_155 : decode cX8_start 155 = .ok (.aload_n 0, 1) := by decide +kernel
theorem dX8_start_156 : decode cX8_start 156 = .ok (.getfield 66, 3) := by decide +kernel
theorem dX8_start_159 : decode cX8_start 159 = .ok (.ifCond .le 7, 3) := by decide +kernel
theorem dX8_start_162 : decode cX8_start 162 = .ok (.aload_n 0, 1) := by decide +kernel
theorem dX8_start_163 : decode cX8_start 163 = .ok (.invokevirtual 92, 3) := by decide +kernel
theorem dX8_start_166 : decode cX8_start 166 = .ok (.return_, 1) := by decide +kernel
theorem dX8_advance_0 : decode cX8_advance 0 = .ok (.iconst 0, 1) := by decide +kernel
theorem dX8_advance_1 : decode cX8_advance 1 = .ok (.istore_n 2, 1) := by decide +kernel
theorem dX8_advance_2 : decode cX8_advance 2 = .ok (.aload_n 0, 1) := by decide +kernel
theorem dX8_advance_3 : decode cX8_advance 3 = .ok (.getfield 89, 3) := by decide +kernel
theorem dX8_advance_6 : decode cX8_advance 6 = .ok (.ifCond .lt 88, 3) := by decide +kernel
theorem dX8_advance_9 : decode cX8_advance 9 = .ok (.iload_n 2, 1) := by decide +kernel
theorem dX8_advance_10 : decode cX8_advance 10 = .ok (.ldc 95, 2) := by decide +kernel
theorem dX8_advance_12 : decode cX8_advance 12 = .ok (.if_icmp .ge 82, 3) := by decide +kernel
theorem dX8_advance_15 : decode cX8_advance 15 = .ok (.aload_n 0, 1) := by decide +kernel
theorem dX8_advance_16 : decode cX8_advance 16 = .ok (.aload_n 1, 1) := by decide +kernel
theorem dX8_advance_17 : decode cX8_advance 17 = .ok (.invokevirtual 96, 3) := by decide +kernel
theorem dX8_advance_20 : decode cX8_advance 20 = .ok (.istore_n 3, 1) := by decide +kernel
theorem dX8_advance_21 : decode cX8_advance 21 = .ok (.iload_n 3, 1) := by decide +kernel
theorem dX8_advance_22 : decode cX8_advance 22 = .ok (.iconst (-1), 1) := by decide +kernel
theorem dX8_advance_23 : decode cX8_advance 23 = .ok (.if_icmp .ne 16, 3) := by decide +kernel
theorem dX8_advance_26 : decode cX8_advance 26 = .ok (.aload_n 0, 1) := by decide +kernel
theorem dX8_advance_27 : decode cX8_advance 27 = .ok (.dup, 1) := by decide +kernel
theorem dX8_advance_28 : decode cX8_advance 28 = .ok (.getfield 89, 3) := by decide +kernel
theorem dX8_advance_31 : decode cX8_advance 31 = .ok (.iconst 1, 1) := by decide +kernel
theorem dX8_advance_32 : decode cX8_advance 32 = .ok (.isub, 1) := by decide +kernel
theorem dX8_advance_33 : decode cX8_advance 33 = .ok (.putfield 89, 3) := by decide +kernel
theorem dX8_advance_36 : decode cX8_advance 36 = .ok (.goto 52, 3) := by decide +kernel
theorem dX8_advance_39 : decode cX8_advance 39 = .ok (.aload_n 0, 1) := by decide +kernel
theorem dX8_advance_40 : decode cX8_advance 40 = .ok (.getfield 33, 3) := by decide +kernel
theorem dX8_advance_43 : decode cX8_advance 43 = .ok (.aload_n 0, 1) := by decide +kernel
theorem dX8_advance_44 : decode cX8_advance 44 = .ok (.getfield 89, 3) := by decide +kernel
theorem dX8_advance_47 : decode cX8_advance 47 = .ok (.invokevirtual 100, 3) := by decide +kernel
theorem dX8_advance_50 : decode cX8_advance 50 = .ok (.aload_n 0, 1) := by decide +kernel
theorem dX8_advance_51 : decode cX8_advance 51 = .ok (.getfield 27, 3) := by decide +kernel
theorem dX8_advance_54 : decode cX8_advance 54 = .ok (.aload_n 0, 1) := by decide +kernel
theorem dX8_advance_55 : decode cX8_advance 55 = .ok (.getfield 89, 3) := by decide +kernel
theorem dX8_advance_58 : decode cX8_advance 58 = .ok (.invokevirtual 100, 3) := by decide +kernel
theorem dX8_advance_61 : decode cX8_advance 61 = .ok (.if_icmp .lt 27, 3) := by decide +kernel
theorem dX8_advance_64 : decode cX8_advance 64 = .ok (.aload_n 0, 1) := by decide +kernel
theorem dX8_advance_65 : decode cX8_advance 65 = .ok (.iload_n 3, 1) := by decide +kernel
theorem dX8_advance_66 : decode cX8_advance 66 = .ok (.invokevirtual 101, 3) := by decide +kernel
theorem dX8_advance_69 : decode cX8_advance 69 = .ok (.aload_n 0, 1) := by decide +kernel
theorem dX8_advance_70 : decode cX8_advance 70 = .ok (.getfield 89, 3) := by decide +kernel
theorem dX8_advance_73 : decode cX8_advance 73 = .ok (.iconst 1, 1) := by decide +kernel
theorem dX8_advance_74 : decode cX8_advance 74 = .ok (.iadd, 1) := by decide +kernel
theorem dX8_advance_75 : decode cX8_advance 75 = .ok (.aload_n 0, 1) := by decide +kernel
theorem dX8_advance_76 : decode cX8_advance 76 = .ok (.getfield 66, 3) := by decide +kernel
theorem dX8_advance_79 : decode cX8_advance 79 = .ok (.if_icmp .lt 5, 3) := by decide +kernel
theorem dX8_advance_82 : decode cX8_advance 82 = .ok (.iconst 1, 1) := by decide +kernel
theorem dX8_advance_83 : decode cX8_advance 83 = .ok (.ireturn, 1) := by decide +kernel
theorem dX8_advance_84 : decode cX8_advance 84 = .ok (.aload_n 0, 1) := by decide +kernel
theorem dX8_advance_85 : decode cX8_advance 85 = .ok (.invokevirtual 92, 3) := by decide +kernel
theorem dX8_advance_88 : decode cX8_advance 88 = .ok (.iinc 2 1, 3) := by decide +kernel
theorem dX8_advance_91 : decode cX8_advance 91 = .ok (.goto (-89), 3) := by decide +kernel
theorem dX8_advance_94 : decode cX8_advance 94 = .ok (.iconst 0, 1) := by decide +kernel
theorem dX8_advance_95 : decode cX8_advance 95 = .ok (.ireturn, 1) := by decide +kernel
theorem dX8_beginVariable_0 : decode cX8_beginVariable 0 = .ok (.aload_n 0, 1) := by decide +kernel
theorem dX8_beginVariable_1 : decode cX8_beginVariable 1 = .ok (.dup, 1) := by decide +kernel
theorem dX8_beginVariable_2 : decode cX8_beginVariable 2 = .ok (.getfield 89, 3) := by decide +kernel
theorem dX8_beginVariable_5 : decode cX8_beginVariable 5 = .ok (.iconst 1, 1) := by decide +kernel
theorem dX8_beginVariable_6 : decode cX8_beginVariable 6 = .ok (.iadd, 1) := by decide +kernel
theorem dX8_beginVariable_7 : decode cX8_beginVariable 7 = .ok (.putfield 89, 3) := by decide +kernel
theorem dX8_beginVariable_10 : decode cX8_beginVariable 10 = .ok (.aload_n 0, 1) := by decide +kernel
theorem dX8_beginVariable_11 : decode cX8_beginVariable 11 = .ok (.getfield 30, 3) := by decide +kernel
theorem dX8_beginVariable_14 : decode cX8_beginVariable 14 = .ok (.aload_n 0, 1) := by decide +kernel
theorem dX8_beginVariable_15 : decode cX8_beginVariable 15 = .ok (.getfield 89, 3) := by decide +kernel
theorem dX8_beginVariable_18 : decode cX8_beginVariable 18 = .ok (.iconst 0, 1) := by decide +kernel
theorem dX8_beginVariable_19 : decode cX8_beginVariable 19 = .ok (.invokevirtual 73, 3) := by decide +kernel
theorem dX8_beginVariable_22 : decode cX8_beginVariable 22 = .ok (.aload_n 0, 1) := by decide +kernel
theorem dX8_beginVariable_23 : decode cX8_beginVariable 23 = .ok (.getfield 33, 3) := by decide +kernel
theorem dX8_beginVariable_26 : decode cX8_beginVariable 26 = .ok (.aload_n 0, 1) := by decide +kernel
theorem dX8_beginVariable_27 : decode cX8_beginVariable 27 = .ok (.getfield 89, 3) := by decide +kernel
theorem dX8_beginVariable_30 : decode cX8_beginVariable 30 = .ok (.iconst 0, 1) := by decide +kernel
theorem dX8_beginVariable_31 : decode cX8_beginVariable 31 = .ok (.invokevirtual 73, 3) := by decide +kernel
theorem dX8_beginVariable_34 : decode cX8_beginVariable 34 = .ok (.aload_n 0, 1) := by decide +kernel
theorem dX8_beginVariable_35 : decode cX8_beginVariable 35 = .ok (.getfield 36, 3) := by decide +kernel
theorem dX8_beginVariable_38 : decode cX8_beginVariable 38 = .ok (.aload_n 0, 1) := by decide +kernel
theorem dX8_beginVariable_39 : decode cX8_beginVariable 39 = .ok (.getfield 89, 3) := by decide +kernel
theorem dX8_beginVariable_42 : decode cX8_beginVariable 42 = .ok (.iconst (-1), 1) := by decide +kernel
theorem dX8_beginVariable_43 : decode cX8_beginVariable 43 = .ok (.invokevirtual 73, 3) := by decide +kernel
theorem dX8_beginVariable_46 : decode cX8_beginVariable 46 = .ok (.aload_n 0, 1) := by decide +kernel
theorem dX8_beginVariable_47 : decode cX8_beginVariable 47 = .ok (.getfield 39, 3) := by decide +kernel
theorem dX8_beginVariable_50 : decode cX8_beginVariable 50 = .ok (.aload_n 0, 1) := by decide +kernel
theorem dX8_beginVariable_51 : decode cX8_beginVariable 51 = .ok (.getfield 89, 3) := by decide +kernel
theorem dX8_beginVariable_54 : decode cX8_beginVariable 54 = .ok (.aload_n 0, 1) := by decide +kernel
theorem dX8_beginVariable_55 : decode cX8_beginVariable 55 = .ok (.getfield 86, 3) := by decide +kernel
theorem dX8_beginVariable_58 : decode cX8_beginVariable 58 = .ok (.invokevirtual 73, 3) := by decide +kernel
theorem dX8_beginVariable_61 : decode cX8_beginVariable 61 = .ok (.return_, 1) := by decide +kernel
theorem dX8_ask_0 : decode cX8_ask 0 = .ok (.aload_n 0, 1) := by decide +kernel
theorem dX8_ask_1 : decode cX8_ask 1 = .ok (.getfield 23, 3) := by decide +kernel
theorem dX8_ask_4 : decode cX8_ask 4 = .ok (.aload_n 0, 1) := by decide +kernel
theorem dX8_ask_5 : decode cX8_ask 5 = .ok (.getfield 89, 3) := by decide +kernel
theorem dX8_ask_8 : decode cX8_ask 8 = .ok (.invokevirtual 100, 3) := by decide +kernel
theorem dX8_ask_11 : decode cX8_ask 11 = .ok (.istore_n 2, 1) := by decide +kernel
theorem dX8_ask_12 : decode cX8_ask 12 = .ok (.aload_n 0, 1) := by decide +kernel
theorem dX8_ask_13 : decode cX8_ask 13 = .ok (.getfield 12, 3) := by decide +kernel
theorem dX8_ask_16 : decode cX8_ask 16 = .ok (.iload_n 2, 1) := by decide +kernel
theorem dX8_ask_17 : decode cX8_ask 17 = .ok (.aload_n 0, 1) := by decide +kernel
theorem dX8_ask_18 : decode cX8_ask 18 = .ok (.getfield 36, 3) := by decide +kernel
theorem dX8_ask_21 : decode cX8_ask 21 = .ok (.aload_n 0, 1) := by decide +kernel
theorem dX8_ask_22 : decode cX8_ask 22 = .ok (.getfield 89, 3) := by decide +kernel
theorem dX8_ask_25 : decode cX8_ask 25 = .ok (.invokevirtual 100, 3) := by decide +kernel
theorem dX8_ask_28 : decode cX8_ask 28 = .ok (.invokevirtual 104, 3) := by decide +kernel
theorem dX8_ask_31 : decode cX8_ask 31 = .ok (.istore_n 3, 1) := by decide +kernel
theorem dX8_ask_32 : decode cX8_ask 32 = .ok (.aload_n 0, 1) := by decide +kernel
theorem dX8_ask_33 : decode cX8_ask 33 = .ok (.getfield 30, 3) := by decide +kernel
theorem dX8_ask_36 : decode cX8_ask 36 = .ok (.aload_n 0, 1) := by decide +kernel
theorem dX8_ask_37 : decode cX8_ask 37 = .ok (.getfield 89, 3) := by decide +kernel
theorem dX8_ask_40 : decode cX8_ask 40 = .ok (.invokevirtual 100, 3) := by decide +kernel
theorem dX8_ask_43 : decode cX8_ask 43 = .ok (.istore 4, 2) := by decide +kernel
theorem dX8_ask_45 : decode cX8_ask 45 = .ok (.aload_n 0, 1) := by decide +kernel
theorem dX8_ask_46 : decode cX8_ask 46 = .ok (.aload_n 0, 1) := by decide +kernel
theorem dX8_ask_47 : decode cX8_ask 47 = .ok (.getfield 83, 3) := by decide +kernel
theorem dX8_ask_50 : decode cX8_ask 50 = .ok (.iload_n 2, 1) := by decide +kernel
theorem dX8_ask_51 : decode cX8_ask 51 = .ok (.invokestatic 107, 3) := by decide +kernel
theorem dX8_ask_54 : decode cX8_ask 54 = .ok (.putfield 83, 3) := by decide +kernel
theorem dX8_ask_57 : decode cX8_ask 57 = .ok (.aload_n 0, 1) := by decide +kernel
theorem dX8_ask_58 : decode cX8_ask 58 = .ok (.aload_n 0, 1) := by decide +kernel
theorem dX8_ask_59 : decode cX8_ask 59 = .ok (.getfield 12, 3) := by decide +kernel
theorem dX8_ask_62 : decode cX8_ask 62 = .ok (.iload_n 3, 1) := by decide +kernel
theorem dX8_ask_63 : decode cX8_ask 63 = .ok (.invokevirtual 49, 3) := by decide +kernel
theorem dX8_ask_66 : decode cX8_ask 66 = .ok (.iload_n 2, 1) := by decide +kernel
theorem dX8_ask_67 : decode cX8_ask 67 = .ok (.iload 4, 2) := by decide +kernel
theorem dX8_ask_69 : decode cX8_ask 69 = .ok (.aload_n 1, 1) := by decide +kernel
theorem dX8_ask_70 : decode cX8_ask 70 = .ok (.invokevirtual 110, 3) := by decide +kernel
theorem dX8_ask_73 : decode cX8_ask 73 = .ok (.istore 5, 2) := by decide +kernel
theorem dX8_ask_75 : decode cX8_ask 75 = .ok (.aload_n 0, 1) := by decide +kernel
theorem dX8_ask_76 : decode cX8_ask 76 = .ok (.dup, 1) := by decide +kernel
theorem dX8_ask_77 : decode cX8_ask 77 = .ok (.getfield 80, 3) := by decide +kernel
theorem dX8_ask_80 : decode cX8_ask 80 = .ok (.iconst 1, 1) := by decide +kernel
theorem dX8_ask_81 : decode cX8_ask 81 = .ok (.iadd, 1) := by decide +kernel
theorem dX8_ask_82 : decode cX8_ask 82 = .ok (.putfield 80, 3) := by decide +kernel
theorem dX8_ask_85 : decode cX8_ask 85 = .ok (.iload 5, 2) := by decide +kernel
theorem dX8_ask_87 : decode cX8_ask 87 = .ok (.iconst (-1), 1) := by decide +kernel
theorem dX8_ask_88 : decode cX8_ask 88 = .ok (.if_icmp .eq 63, 3) := by decide +kernel
theorem dX8_ask_91 : decode cX8_ask 91 = .ok (.aload_n 0, 1) := by decide +kernel
theorem dX8_ask_92 : decode cX8_ask 92 = .ok (.getfield 36, 3) := by decide +kernel
theorem dX8_ask_95 : decode cX8_ask 95 = .ok (.aload_n 0, 1) := by decide +kernel
theorem dX8_ask_96 : decode cX8_ask 96 = .ok (.getfield 89, 3) := by decide +kernel
theorem dX8_ask_99 : decode cX8_ask 99 = .ok (.iload_n 3, 1) := by decide +kernel
theorem dX8_ask_100 : decode cX8_ask 100 = .ok (.invokevirtual 73, 3) := by decide +kernel
theorem dX8_ask_103 : decode cX8_ask 103 = .ok (.aload_n 0, 1) := by decide +kernel
theorem dX8_ask_104 : decode cX8_ask 104 = .ok (.getfield 30, 3) := by decide +kernel
theorem dX8_ask_107 : decode cX8_ask 107 = .ok (.aload_n 0, 1) := by decide +kernel
theorem dX8_ask_108 : decode cX8_ask 108 = .ok (.getfield 89, 3) := by decide +kernel
theorem dX8_ask_111 : decode cX8_ask 111 = .ok (.iload 5, 2) := by decide +kernel
theorem dX8_ask_113 : decode cX8_ask 113 = .ok (.invokevirtual 73, 3) := by decide +kernel
theorem dX8_ask_116 : decode cX8_ask 116 = .ok (.aload_n 0, 1) := by decide +kernel
theorem dX8_ask_117 : decode cX8_ask 117 = .ok (.getfield 33, 3) := by decide +kernel
theorem dX8_ask_120 : decode cX8_ask 120 = .ok (.aload_n 0, 1) := by decide +kernel
theorem dX8_ask_121 : decode cX8_ask 121 = .ok (.getfield 89, 3) := by decide +kernel
theorem dX8_ask_124 : decode cX8_ask 124 = .ok (.iload 5, 2) := by decide +kernel
theorem dX8_ask_126 : decode cX8_ask 126 = .ok (.iload 4, 2) := by decide +kernel
theorem dX8_ask_128 : decode cX8_ask 128 = .ok (.if_icmp .le 7, 3) := by decide +kernel
theorem dX8_ask_131 : decode cX8_ask 131 = .ok (.iconst 1, 1) := by decide +kernel
theorem dX8_ask_132 : decode cX8_ask 132 = .ok (.goto 16, 3) := by decide +kernel
theorem dX8_ask_135 : decode cX8_ask 135 = .ok (.aload_n 0, 1) := by decide +kernel
theorem dX8_ask_136 : decode cX8_ask 136 = .ok (.getfield 33, 3) := by decide +kernel
theorem dX8_ask_139 : decode cX8_ask 139 = .ok (.aload_n 0, 1) := by decide +kernel
theorem dX8_ask_140 : decode cX8_ask 140 = .ok (.getfield 89, 3) := by decide +kernel
theorem dX8_ask_143 : decode cX8_ask 143 = .ok (.invokevirtual 100, 3) := by decide +kernel
theorem dX8_ask_146 : decode cX8_ask 146 = .ok (.iconst 1, 1) := by decide +kernel
theorem dX8_ask_147 : decode cX8_ask 147 = .ok (.iadd, 1) := by decide +kernel
theorem dX8_ask_148 : decode cX8_ask 148 = .ok (.invokevirtual 73, 3) := by decide +kernel
theorem dX8_ask_151 : decode cX8_ask 151 = .ok (.iload 5, 2) := by decide +kernel
theorem dX8_ask_153 : decode cX8_ask 153 = .ok (.ireturn, 1) := by decide +kernel
theorem dX8_choose_0 : decode cX8_choose 0 = .ok (.aload_n 0, 1) := by decide +kernel
theorem dX8_choose_1 : decode cX8_choose 1 = .ok (.aload_n 0, 1) := by decide +kernel
theorem dX8_choose_2 : decode cX8_choose 2 = .ok (.getfield 83, 3) := by decide +kernel
theorem dX8_choose_5 : decode cX8_choose 5 = .ok (.aload_n 0, 1) := by decide +kernel
theorem dX8_choose_6 : decode cX8_choose 6 = .ok (.getfield 23, 3) := by decide +kernel
theorem dX8_choose_9 : decode cX8_choose 9 = .ok (.aload_n 0, 1) := by decide +kernel
theorem dX8_choose_10 : decode cX8_choose 10 = .ok (.getfield 89, 3) := by decide +kernel
theorem dX8_choose_13 : decode cX8_choose 13 = .ok (.invokevirtual 100, 3) := by decide +kernel
theorem dX8_choose_16 : decode cX8_choose 16 = .ok (.iload_n 1, 1) := by decide +kernel
theorem dX8_choose_17 : decode cX8_choose 17 = .ok (.invokestatic 114, 3) := by decide +kernel
theorem dX8_choose_20 : decode cX8_choose 20 = .ok (.putfield 83, 3) := by decide +kernel
theorem dX8_choose_23 : decode cX8_choose 23 = .ok (.aload_n 0, 1) := by decide +kernel
theorem dX8_choose_24 : decode cX8_choose 24 = .ok (.aload_n 0, 1) := by decide +kernel
theorem dX8_choose_25 : decode cX8_choose 25 = .ok (.getfield 39, 3) := by decide +kernel
theorem dX8_choose_28 : decode cX8_choose 28 = .ok (.aload_n 0, 1) := by decide +kernel
theorem dX8_choose_29 : decode cX8_choose 29 = .ok (.getfield 89, 3) := by decide +kernel
theorem dX8_choose_32 : decode cX8_choose 32 = .ok (.invokevirtual 100, 3) := by decide +kernel
theorem dX8_choose_35 : decode cX8_choose 35 = .ok (.iconst 3, 1) := by decide +kernel
theorem dX8_choose_36 : decode cX8_choose 36 = .ok (.ishl, 1) := by decide +kernel
theorem dX8_choose_37 : decode cX8_choose 37 = .ok (.iload_n 1, 1) := by decide +kernel
theorem dX8_choose_38 : decode cX8_choose 38 = .ok (.ior, 1) := by decide +kernel
theorem dX8_choose_39 : decode cX8_choose 39 = .ok (.putfield 86, 3) := by decide +kernel
theorem dX8_choose_42 : decode cX8_choose 42 = .ok (.aload_n 0, 1) := by decide +kernel
theorem dX8_choose_43 : decode cX8_choose 43 = .ok (.getfield 30, 3) := by decide +kernel
theorem dX8_choose_46 : decode cX8_choose 46 = .ok (.aload_n 0, 1) := by decide +kernel
theorem dX8_choose_47 : decode cX8_choose 47 = .ok (.getfield 89, 3) := by decide +kernel
theorem dX8_choose_50 : decode cX8_choose 50 = .ok (.iload_n 1, 1) := by decide +kernel
theorem dX8_choose_51 : decode cX8_choose 51 = .ok (.iconst 1, 1) := by decide +kernel
theorem dX8_choose_52 : decode cX8_choose 52 = .ok (.iadd, 1) := by decide +kernel
theorem dX8_choose_53 : decode cX8_choose 53 = .ok (.invokevirtual 73, 3) := by decide +kernel
theorem dX8_choose_56 : decode cX8_choose 56 = .ok (.aload_n 0, 1) := by decide +kernel
theorem dX8_choose_57 : decode cX8_choose 57 = .ok (.getfield 33, 3) := by decide +kernel
theorem dX8_choose_60 : decode cX8_choose 60 = .ok (.aload_n 0, 1) := by decide +kernel
theorem dX8_choose_61 : decode cX8_choose 61 = .ok (.getfield 89, 3) := by decide +kernel
theorem dX8_choose_64 : decode cX8_choose 64 = .ok (.iconst 0, 1) := by decide +kernel
theorem dX8_choose_65 : decode cX8_choose 65 = .ok (.invokevirtual 73, 3) := by decide +kernel
theorem dX8_choose_68 : decode cX8_choose 68 = .ok (.return_, 1) := by decide +kernel
theorem dX8_least_0 : decode cX8_least 0 = .ok (.iload_n 1, 1) := by decide +kernel
theorem dX8_least_1 : decode cX8_least 1 = .ok (.iconst 0, 1) := by decide +kernel
theorem dX8_least_2 : decode cX8_least 2 = .ok (.invokestatic 118, 3) := by decide +kernel
theorem dX8_least_5 : decode cX8_least 5 = .ok (.istore 5, 2) := by decide +kernel
theorem dX8_least_7 : decode cX8_least 7 = .ok (.iload_n 1, 1) := by decide +kernel
theorem dX8_least_8 : decode cX8_least 8 = .ok (.iconst 1, 1) := by decide +kernel
theorem dX8_least_9 : decode cX8_least 9 = .ok (.invokestatic 118, 3) := by decide +kernel
theorem dX8_least_12 : decode cX8_least 12 = .ok (.istore 6, 2) := by decide +kernel
theorem dX8_least_14 : decode cX8_least 14 = .ok (.iload_n 1, 1) := by decide +kernel
theorem dX8_least_15 : decode cX8_least 15 = .ok (.iconst 2, 1) := by decide +kernel
theorem dX8_least_16 : decode cX8_least 16 = .ok (.invokestatic 118, 3) := by decide +kernel
theorem dX8_least_19 : decode cX8_least 19 = .ok (.istore 7, 2) := by decide +kernel
theorem dX8_least_21 : decode cX8_least 21 = .ok (.aload_n 0, 1) := by decide +kernel
theorem dX8_least_22 : decode cX8_least 22 = .ok (.iload 6, 2) := by decide +kernel
theorem dX8_least_24 : decode cX8_least 24 = .ok (.ldc2_w 121, 3) := by decide +kernel
theorem dX8_least_27 : decode cX8_least 27 = .ok (.bipush 8, 2) := by decide +kernel
theorem dX8_least_29 : decode cX8_least 29 = .ok (.invokevirtual 123, 3) := by decide +kernel
theorem dX8_least_32 : decode cX8_least 32 = .ok (.aload_n 0, 1) := by decide +kernel
theorem dX8_least_33 : decode cX8_least 33 = .ok (.iload 7, 2) := by decide +kernel
theorem dX8_least_35 : decode cX8_least 35 = .ok (.ldc2_w 127, 3) := by decide +kernel
theorem dX8_least_38 : decode cX8_least 38 = .ok (.iconst 1, 1) := by decide +kernel
theorem dX8_least_39 : decode cX8_least 39 = .ok (.invokevirtual 123, 3) := by decide +kernel
theorem dX8_least_42 : decode cX8_least 42 = .ok (.land, 1) := by decide +kernel
theorem dX8_least_43 : decode cX8_least 43 = .ok (.lstore 8, 2) := by decide +kernel
theorem dX8_least_45 : decode cX8_least 45 = .ok (.lload 8, 2) := by decide +kernel
theorem dX8_least_47 : decode cX8_least 47 = .ok (.iload 6, 2) := by decide +kernel
theorem dX8_least_49 : decode cX8_least 49 = .ok (.iconst (-1), 1) := by decide +kernel
theorem dX8_least_50 : decode cX8_least 50 = .ok (.if_icmp .eq 16, 3) := by decide +kernel
theorem dX8_least_53 : decode cX8_least 53 = .ok (.iload 6, 2) := by decide +kernel
theorem dX8_least_55 : decode cX8_least 55 = .ok (.iload 7, 2) := by decide +kernel
theorem dX8_least_57 : decode cX8_least 57 = .ok (.if_icmp .ne 9, 3) := by decide +kernel
theorem dX8_least_60 : decode cX8_least 60 = .ok (.ldc2_w 129, 3) := by decide +kernel
theorem dX8_least_63 : decode cX8_least 63 = .ok (.goto 6, 3) := by decide +kernel
theorem dX8_least_66 : decode cX8_least 66 = .ok (.ldc2_w 131, 3) := by decide +kernel
theorem dX8_least_69 : decode cX8_least 69 = .ok (.land, 1) := by decide +kernel
theorem dX8_least_70 : decode cX8_least 70 = .ok (.lstore 8, 2) := by decide +kernel
theorem dX8_least_72 : decode cX8_least 72 = .ok (.lconst 0, 1) := by decide +kernel
theorem dX8_least_73 : decode cX8_least 73 = .ok (.lstore 10, 2) := by decide +kernel
theorem dX8_least_75 : decode cX8_least 75 = .ok (.iload 5, 2) := by decide +kernel
theorem dX8_least_77 : decode cX8_least 77 = .ok (.aload_n 0, 1) := by decide +kernel
theorem dX8_least_78 : decode cX8_least 78 = .ok (.getfield 83, 3) := by decide +kernel
theorem dX8_least_81 : decode cX8_least 81 = .ok (.invokestatic 133, 3) := by decide +kernel
theorem dX8_least_84 : decode cX8_least 84 = .ok (.istore 12, 2) := by decide +kernel
theorem dX8_least_86 : decode cX8_least 86 = .ok (.iload 12, 2) := by decide +kernel
theorem dX8_least_88 : decode cX8_least 88 = .ok (.ifCond .eq 15, 3) := by decide +kernel
theorem dX8_least_91 : decode cX8_least 91 = .ok (.iload 5, 2) := by decide +kernel
theorem dX8_least_93 : decode cX8_least 93 = .ok (.aload_n 0, 1) := by decide +kernel
theorem dX8_least_94 : decode cX8_least 94 = .ok (.getfield 83, 3) := by decide +kernel
theorem dX8_least_97 : decode cX8_least 97 = .ok (.invokestatic 137, 3) := by decide +kernel
theorem dX8_least_100 : decode cX8_least 100 = .ok (.goto 14, 3) := by decide +kernel
theorem dX8_least_103 : decode cX8_least 103 = .ok (.iload 5, 2) := by decide +kernel
theorem dX8_least_105 : decode cX8_least 105 = .ok (.iload_n 2, 1) := by decide +kernel
theorem dX8_least_106 : decode cX8_least 106 = .ok (.if_icmp .ne 7, 3) := by decide +kernel
theorem dX8_least_109 : decode cX8_least 109 = .ok (.iload_n 3, 1) := by decide +kernel
theorem dX8_least_110 : decode cX8_least 110 = .ok (.goto 4, 3) := by decide +kernel
theorem dX8_least_113 : decode cX8_least 113 = .ok (.iconst 0, 1) := by decide +kernel
theorem dX8_least_114 : decode cX8_least 114 = .ok (.istore 13, 2) := by decide +kernel
theorem dX8_least_116 : decode cX8_least 116 = .ok (.iload 12, 2) := by decide +kernel
theorem dX8_least_118 : decode cX8_least 118 = .ok (.ifCond .eq 10, 3) := by decide +kernel
theorem dX8_least_121 : decode cX8_least 121 = .ok (.iload 13, 2) := by decide +kernel
theorem dX8_least_123 : decode cX8_least 123 = .ok (.iconst 1, 1) := by decide +kernel
theorem dX8_least_124 : decode cX8_least 124 = .ok (.iadd, 1) := by decide +kernel
theorem dX8_least_125 : decode cX8_least 125 = .ok (.goto 5, 3) := by decide +kernel
theorem dX8_least_128 : decode cX8_least 128 = .ok (.bipush 8, 2) := by decide +kernel
theorem dX8_least_130 : decode cX8_least 130 = .ok (.istore 14, 2) := by decide +kernel
theorem dX8_least_132 : decode cX8_least 132 = .ok (.iload 13, 2) := by decide +kernel
theorem dX8_least_134 : decode cX8_least 134 = .ok (.istore 15, 2) := by decide +kernel
theorem dX8_least_136 : decode cX8_least 136 = .ok (.iload 15, 2) := by decide +kernel
theorem dX8_least_138 : decode cX8_least 138 = .ok (.iload 14, 2) := by decide +kernel
theorem dX8_least_140 : decode cX8_least 140 = .ok (.if_icmp .ge 99, 3) := by decide +kernel
theorem dX8_least_143 : decode cX8_least 143 = .ok (.aload 4, 2) := by decide +kernel
theorem dX8_least_145 : decode cX8_least 145 = .ok (.iload_n 1, 1) := by decide +kernel
theorem dX8_least_146 : decode cX8_least 146 = .ok (.invokestatic 140, 3) := by decide +kernel
theorem dX8_least_149 : decode cX8_least 149 = .ok (.iload 15, 2) := by decide +kernel
theorem dX8_least_151 : decode cX8_least 151 = .ok (.invokevirtual 143, 3) := by decide +kernel
theorem dX8_least_154 : decode cX8_least 154 = .ok (.lload 8, 2) := by decide +kernel
theorem dX8_least_156 : decode cX8_least 156 = .ok (.land, 1) := by decide +kernel
theorem dX8_least_157 : decode cX8_least 157 = .ok (.lstore 16, 2) := by decide +kernel
theorem dX8_least_159 : decode cX8_least 159 = .ok (.lload 16, 2) := by decide +kernel
theorem dX8_least_161 : decode cX8_least 161 = .ok (.iload 6, 2) := by decide +kernel
theorem dX8_least_163 : decode cX8_least 163 = .ok (.iload 5, 2) := by decide +kernel
theorem dX8_least_165 : decode cX8_least 165 = .ok (.if_icmp .ne 15, 3) := by decide +kernel
theorem dX8_least_168 : decode cX8_least 168 = .ok (.ldc2_w 121, 3) := by decide +kernel
theorem dX8_least_171 : decode cX8_least 171 = .ok (.bipush 8, 2) := by decide +kernel
theorem dX8_least_173 : decode cX8_least 173 = .ok (.iload 15, 2) := by decide +kernel
theorem dX8_least_175 : decode cX8_least 175 = .ok (.imul, 1) := by decide +kernel
theorem dX8_least_176 : decode cX8_least 176 = .ok (.lshl, 1) := by decide +kernel
theorem dX8_least_177 : decode cX8_least 177 = .ok (.goto 6, 3) := by decide +kernel
theorem dX8_least_180 : decode cX8_least 180 = .ok (.ldc2_w 131, 3) := by decide +kernel
theorem dX8_least_183 : decode cX8_least 183 = .ok (.land, 1) := by decide +kernel
theorem dX8_least_184 : decode cX8_least 184 = .ok (.lstore 16, 2) := by decide +kernel
theorem dX8_least_186 : decode cX8_least 186 = .ok (.lload 16, 2) := by decide +kernel
theorem dX8_least_188 : decode cX8_least 188 = .ok (.iload 7, 2) := by decide +kernel
theorem dX8_least_190 : decode cX8_least 190 = .ok (.iload 5, 2) := by decide +kernel
theorem dX8_least_192 : decode cX8_least 192 = .ok (.if_icmp .ne 12, 3) := by decide +kernel
theorem dX8_least_195 : decode cX8_least 195 = .ok (.ldc2_w 127, 3) := by decide +kernel
theorem dX8_least_198 : decode cX8_least 198 = .ok (.iload 15, 2) := by decide +kernel
theorem dX8_least_200 : decode cX8_least 200 = .ok (.lshl, 1) := by decide +kernel
theorem dX8_least_201 : decode cX8_least 201 = .ok (.goto 6, 3) := by decide +kernel
theorem dX8_least_204 : decode cX8_least 204 = .ok (.ldc2_w 131, 3) := by decide +kernel
theorem dX8_least_207 : decode cX8_least 207 = .ok (.land, 1) := by decide +kernel
theorem dX8_least_208 : decode cX8_least 208 = .ok (.lstore 16, 2) := by decide +kernel
theorem dX8_least_210 : decode cX8_least 210 = .ok (.iload 5, 2) := by decide +kernel
theorem dX8_least_212 : decode cX8_least 212 = .ok (.iload_n 2, 1) := by decide +kernel
theorem dX8_least_213 : decode cX8_least 213 = .ok (.if_icmp .ne 13, 3) := by decide +kernel
theorem dX8_least_216 : decode cX8_least 216 = .ok (.lload 16, 2) := by decide +kernel
theorem dX8_least_218 : decode cX8_least 218 = .ok (.lconst 0, 1) := by decide +kernel
theorem dX8_least_219 : decode cX8_least 219 = .ok (.lcmp, 1) := by decide +kernel
theorem dX8_least_220 : decode cX8_least 220 = .ok (.ifCond .eq 6, 3) := by decide +kernel
theorem dX8_least_223 : decode cX8_least 223 = .ok (.iload 15, 2) := by decide +kernel
theorem dX8_least_225 : decode cX8_least 225 = .ok (.ireturn, 1) := by decide +kernel
theorem dX8_least_226 : decode cX8_least 226 = .ok (.lload 10, 2) := by decide +kernel
theorem dX8_least_228 : decode cX8_least 228 = .ok (.lload 16, 2) := by decide +kernel
theorem dX8_least_230 : decode cX8_least 230 = .ok (.lor, 1) := by decide +kernel
theorem dX8_least_231 : decode cX8_least 231 = .ok (.lstore 10, 2) := by decide +kernel
theorem dX8_least_233 : decode cX8_least 233 = .ok (.iinc 15 1, 3) := by decide +kernel
theorem dX8_least_236 : decode cX8_least 236 = .ok (.goto (-100), 3) := by decide +kernel
theorem dX8_least_239 : decode cX8_least 239 = .ok (.iload 5, 2) := by decide +kernel
theorem dX8_least_241 : decode cX8_least 241 = .ok (.iload_n 2, 1) := by decide +kernel
theorem dX8_least_242 : decode cX8_least 242 = .ok (.if_icmp .ne 7, 3) := by decide +kernel
theorem dX8_least_245 : decode cX8_least 245 = .ok (.iconst (-1), 1) := by decide +kernel
theorem dX8_least_246 : decode cX8_least 246 = .ok (.goto 21, 3) := by decide +kernel
theorem dX8_least_249 : decode cX8_least 249 = .ok (.aload_n 0, 1) := by decide +kernel
theorem dX8_least_250 : decode cX8_least 250 = .ok (.lload 10, 2) := by decide +kernel
theorem dX8_least_252 : decode cX8_least 252 = .ok (.iload_n 3, 1) := by decide +kernel
theorem dX8_least_253 : decode cX8_least 253 = .ok (.iload 6, 2) := by decide +kernel
theorem dX8_least_255 : decode cX8_least 255 = .ok (.iload_n 2, 1) := by decide +kernel
theorem dX8_least_256 : decode cX8_least 256 = .ok (.if_icmp .ne 7, 3) := by decide +kernel
theorem dX8_least_259 : decode cX8_least 259 = .ok (.iconst 1, 1) := by decide +kernel
theorem dX8_least_260 : decode cX8_least 260 = .ok (.goto 4, 3) := by decide +kernel
theorem dX8_least_263 : decode cX8_least 263 = .ok (.iconst 0, 1) := by decide +kernel
theorem dX8_least_264 : decode cX8_least 264 = .ok (.invokevirtual 149, 3) := by decide +kernel
theorem dX8_least_267 : decode cX8_least 267 = .ok (.ireturn, 1) := by decide +kernel
theorem dX8_leastIn_0 : decode cX8_leastIn 0 = .ok (.iload_n 3, 1) := by decide +kernel
theorem dX8_leastIn_1 : decode cX8_leastIn 1 = .ok (.istore 5, 2) := by decide +kernel
theorem dX8_leastIn_3 : decode cX8_leastIn 3 = .ok (.iload 5, 2) := by decide +kernel
theorem dX8_leastIn_5 : decode cX8_leastIn 5 = .ok (.bipush 8, 2) := by decide +kernel
theorem dX8_leastIn_7 : decode cX8_leastIn 7 = .ok (.if_icmp .ge 46, 3) := by decide +kernel
theorem dX8_leastIn_10 : decode cX8_leastIn 10 = .ok (.iload 4, 2) := by decide +kernel
theorem dX8_leastIn_12 : decode cX8_leastIn 12 = .ok (.ifCond .eq 15, 3) := by decide +kernel
theorem dX8_leastIn_15 : decode cX8_leastIn 15 = .ok (.ldc2_w 121, 3) := by decide +kernel
theorem dX8_leastIn_18 : decode cX8_leastIn 18 = .ok (.bipush 8, 2) := by decide +kernel
theorem dX8_leastIn_20 : decode cX8_leastIn 20 = .ok (.iload 5, 2) := by decide +kernel
theorem dX8_leastIn_22 : decode cX8_leastIn 22 = .ok (.imul, 1) := by decide +kernel
theorem dX8_leastIn_23 : decode cX8_leastIn 23 = .ok (.lshl, 1) := by decide +kernel
theorem dX8_leastIn_24 : decode cX8_leastIn 24 = .ok (.goto 9, 3) := by decide +kernel
theorem dX8_leastIn_27 : decode cX8_leastIn 27 = .ok (.ldc2_w 127, 3) := by decide +kernel
theorem dX8_leastIn_30 : decode cX8_leastIn 30 = .ok (.iload 5, 2) := by decide +kernel
theorem dX8_leastIn_32 : decode cX8_leastIn 32 = .ok (.lshl, 1) := by decide +kernel
theorem dX8_leastIn_33 : decode cX8_leastIn 33 = .ok (.lstore 6, 2) := by decide +kernel
theorem dX8_leastIn_35 : decode cX8_leastIn 35 = .ok (.lload_n 1, 1) := by decide +kernel
theorem dX8_leastIn_36 : decode cX8_leastIn 36 = .ok (.lload 6, 2) := by decide +kernel
theorem dX8_leastIn_38 : decode cX8_leastIn 38 = .ok (.land, 1) := by decide +kernel
theorem dX8_leastIn_39 : decode cX8_leastIn 39 = .ok (.lconst 0, 1) := by decide +kernel
theorem dX8_leastIn_40 : decode cX8_leastIn 40 = .ok (.lcmp, 1) := by decide +kernel
theorem dX8_leastIn_41 : decode cX8_leastIn 41 = .ok (.ifCond .eq 6, 3) := by decide +kernel
theorem dX8_leastIn_44 : decode cX8_leastIn 44 = .ok (.iload 5, 2) := by decide +kernel
theorem dX8_leastIn_46 : decode cX8_leastIn 46 = .ok (.ireturn, 1) := by decide +kernel
theorem dX8_leastIn_47 : decode cX8_leastIn 47 = .ok (.iinc 5 1, 3) := by decide +kernel
theorem dX8_leastIn_50 : decode cX8_leastIn 50 = .ok (.goto (-47), 3) := by decide +kernel
theorem dX8_leastIn_53 : decode cX8_leastIn 53 = .ok (.iconst (-1), 1) := by decide +kernel
theorem dX8_leastIn_54 : decode cX8_leastIn 54 = .ok (.ireturn, 1) := by decide +kernel
theorem dX8_mask_0 : decode cX8_mask 0 = .ok (.iload_n 1, 1) := by decide +kernel
theorem dX8_mask_1 : decode cX8_mask 1 = .ok (.iconst (-1), 1) := by decide +kernel
theorem dX8_mask_2 : decode cX8_mask 2 = .ok (.if_icmp .ne 7, 3) := by decide +kernel
theorem dX8_mask_5 : decode cX8_mask 5 = .ok (.ldc2_w 131, 3) := by decide +kernel
theorem dX8_mask_8 : decode cX8_mask 8 = .ok (.lreturn, 1) := by decide +kernel
theorem dX8_mask_9 : decode cX8_mask 9 = .ok (.aload_n 0, 1) := by decide +kernel
theorem dX8_mask_10 : decode cX8_mask 10 = .ok (.getfield 83, 3) := by decide +kernel
theorem dX8_mask_13 : decode cX8_mask 13 = .ok (.iconst 4, 1) := by decide +kernel
theorem dX8_mask_14 : decode cX8_mask 14 = .ok (.iload_n 1, 1) := by decide +kernel
theorem dX8_mask_15 : decode cX8_mask 15 = .ok (.imul, 1) := by decide +kernel
theorem dX8_mask_16 : decode cX8_mask 16 = .ok (.ishr, 1) := by decide +kernel
theorem dX8_mask_17 : decode cX8_mask 17 = .ok (.bipush 15, 2) := by decide +kernel
theorem dX8_mask_19 : decode cX8_mask 19 = .ok (.iand, 1) := by decide +kernel
theorem dX8_mask_20 : decode cX8_mask 20 = .ok (.istore 5, 2) := by decide +kernel
theorem dX8_mask_22 : decode cX8_mask 22 = .ok (.iload 5, 2) := by decide +kernel
theorem dX8_mask_24 : decode cX8_mask 24 = .ok (.ifCond .ne 9, 3) := by decide +kernel
theorem dX8_mask_27 : decode cX8_mask 27 = .ok (.ldc2_w 131, 3) := by decide +kernel
theorem dX8_mask_30 : decode cX8_mask 30 = .ok (.goto 13, 3) := by decide +kernel
theorem dX8_mask_33 : decode cX8_mask 33 = .ok (.lload_n 2, 1) := by decide +kernel
theorem dX8_mask_34 : decode cX8_mask 34 = .ok (.iload 4, 2) := by decide +kernel
theorem dX8_mask_36 : decode cX8_mask 36 = .ok (.iload 5, 2) := by decide +kernel
theorem dX8_mask_38 : decode cX8_mask 38 = .ok (.bipush 7, 2) := by decide +kernel
theorem dX8_mask_40 : decode cX8_mask 40 = .ok (.iand, 1) := by decide +kernel
theorem dX8_mask_41 : decode cX8_mask 41 = .ok (.imul, 1) := by decide +kernel
theorem dX8_mask_42 : decode cX8_mask 42 = .ok (.lshl, 1) := by decide +kernel
theorem dX8_mask_43 : decode cX8_mask 43 = .ok (.lreturn, 1) := by decide +kernel
theorem dX9_init_0 : decode cX9_init 0 = .ok (.aload_n 0, 1) := by decide +kernel
theorem dX9_init_1 : decode cX9_init 1 = .ok (.invokespecial 3, 3) := by decide +kernel
theorem dX9_init_4 : decode cX9_init 4 = .ok (.aload_n 0, 1) := by decide +kernel
theorem dX9_init_5 : decode cX9_init 5 = .ok (.new 9, 3) := by decide +kernel
theorem dX9_init_8 : decode cX9_init 8 = .ok (.dup, 1) := by decide +kernel
theorem dX9_init_9 : decode cX9_init 9 = .ok (.iconst 5, 1) := by decide +kernel
theorem dX9_init_10 : decode cX9_init 10 = .ok (.invokespecial 11, 3) := by decide +kernel
theorem dX9_init_13 : decode cX9_init 13 = .ok (.putfield 14, 3) := by decide +kernel
theorem dX9_init_16 : decode cX9_init 16 = .ok (.aload_n 0, 1) := by decide +kernel
theorem dX9_init_17 : decode cX9_init 17 = .ok (.new 20, 3) := by decide +kernel
theorem dX9_init_20 : decode cX9_init 20 = .ok (.dup, 1) := by decide +kernel
theorem dX9_init_21 : decode cX9_init 21 = .ok (.invokespecial 22, 3) := by decide +kernel
theorem dX9_init_24 : decode cX9_init 24 = .ok (.putfield 23, 3) := by decide +kernel
theorem dX9_init_27 : decode cX9_init 27 = .ok (.aload_n 0, 1) := by decide +kernel
theorem dX9_init_28 : decode cX9_init 28 = .ok (.new 9, 3) := by decide +kernel
theorem dX9_init_31 : decode cX9_init 31 = .ok (.dup, 1) := by decide +kernel
theorem dX9_init_32 : decode cX9_init 32 = .ok (.iconst 4, 1) := by decide +kernel
theorem dX9_init_33 : decode cX9_init 33 = .ok (.invokespecial 11, 3) := by decide +kernel
theorem dX9_init_36 : decode cX9_init 36 = .ok (.putfield 27, 3) := by decide +kernel
theorem dX9_init_39 : decode cX9_init 39 = .ok (.aload_n 0, 1) := by decide +kernel
theorem dX9_init_40 : decode cX9_init 40 = .ok (.new 9, 3) := by decide +kernel
theorem dX9_init_43 : decode cX9_init 43 = .ok (.dup, 1) := by decide +kernel
theorem dX9_init_44 : decode cX9_init 44 = .ok (.iconst 5, 1) := by decide +kernel
theorem dX9_init_45 : decode cX9_init 45 = .ok (.invokespecial 11, 3) := by decide +kernel
theorem dX9_init_48 : decode cX9_init 48 = .ok (.putfield 30, 3) := by decide +kernel
theorem dX9_init_51 : decode cX9_init 51 = .ok (.aload_n 0, 1) := by decide +kernel
theorem dX9_init_52 : decode cX9_init 52 = .ok (.iconst 4, 1) := by decide +kernel
theorem dX9_init_53 : decode cX9_init 53 = .ok (.anewarray 33, 3) := by decide +kernel
theorem dX9_init_56 : decode cX9_init 56 = .ok (.putfield 35, 3) := by decide +kernel
theorem dX9_init_59 : decode cX9_init 59 = .ok (.aload_n 0, 1) := by decide +kernel
theorem dX9_init_60 : decode cX9_init 60 = .ok (.iconst 5, 1) := by decide +kernel
theorem dX9_init_61 : decode cX9_init 61 = .ok (.anewarray 33, 3) := by decide +kernel
theorem dX9_init_64 : decode cX9_init 64 = .ok (.putfield 39, 3) := by decide +kernel
theorem dX9_init_67 : decode cX9_init 67 = .ok (.aload_n 0, 1) := by decide +kernel
theorem dX9_init_68 : decode cX9_init 68 = .ok (.new 33, 3) := by decide +kernel
theorem dX9_init_71 : decode cX9_init 71 = .ok (.dup, 1) := by decide +kernel
theorem dX9_init_72 : decode cX9_init 72 = .ok (.invokespecial 42, 3) := by decide +kernel
theorem dX9_init_75 : decode cX9_init 75 = .ok (.putfield 43, 3) := by decide +kernel
theorem dX9_init_78 : decode cX9_init 78 = .ok (.iconst 0, 1) := by decide +kernel
theorem dX9_init_79 : decode cX9_init 79 = .ok (.istore_n 1, 1) := by decide +kernel
theorem dX9_init_80 : decode cX9_init 80 = .ok (.iload_n 1, 1) := by decide +kernel
theorem dX9_init_81 : decode cX9_init 81 = .ok (.aload_n 0, 1) := by decide +kernel
theorem dX9_init_82 : decode cX9_init 82 = .ok (.getfield 35, 3) := by decide +kernel
theorem dX9_init_85 : decode cX9_init 85 = .ok (.arraylength, 1) := by decide +kernel
theorem dX9_init_86 : decode cX9_init 86 = .ok (.if_icmp .ge 22, 3) := by decide +kernel
theorem dX9_init_89 : decode cX9_init 89 = .ok (.aload_n 0, 1) := by decide +kernel
theorem dX9_init_90 : decode cX9_init 90 = .ok (.getfield 35, 3) := by decide +kernel
theorem dX9_init_93 : decode cX9_init 93 = .ok (.iload_n 1, 1) := by decide +kernel
theorem dX9_init_94 : decode cX9_init 94 = .ok (.new 33, 3) := by decide +kernel
theorem dX9_init_97 : decode cX9_init 97 = .ok (.dup, 1) := by decide +kernel
theorem dX9_init_98 : decode cX9_init 98 = .ok (.invokespecial 42, 3) := by decide +kernel
theorem dX9_init_101 : decode cX9_init 101 = .ok (.aastore, 1) := by decide +kernel
theorem dX9_init_102 : decode cX9_init 102 = .ok (.iinc 1 1, 3) := by decide +kernel
theorem dX9_init_105 : decode cX9_init 105 = .ok (.goto (-25), 3) := by decide +kernel
theorem dX9_init_108 : decode cX9_init 108 = .ok (.iconst 0, 1) := by decide +kernel
theorem dX9_init_109 : decode cX9_init 109 = .ok (.istore_n 1, 1) := by decide +kernel
theorem dX9_init_110 : decode cX9_init 110 = .ok (.iload_n 1, 1) := by decide +kernel
theorem dX9_init_111 : decode cX9_init 111 = .ok (.aload_n 0, 1) := by decide +kernel
theorem dX9_init_112 : decode cX9_init 112 = .ok (.getfield 39, 3) := by decide +kernel
theorem dX9_init_115 : decode cX9_init 115 = .ok (.arraylength, 1) := by decide +kernel
theorem dX9_init_116 : decode cX9_init 116 = .ok (.if_icmp .ge 22, 3) := by decide +kernel
theorem dX9_init_119 : decode cX9_init 119 = .ok (.aload_n 0, 1) := by decide +kernel
theorem dX9_init_120 : decode cX9_init 120 = .ok (.getfield 39, 3) := by decide +kernel
theorem dX9_init_123 : decode cX9_init 123 = .ok (.iload_n 1, 1) := by decide +kernel
theorem dX9_init_124 : decode cX9_init 124 = .ok (.new 33, 3) := by decide +kernel
theorem dX9_init_127 : decode cX9_init 127 = .ok (.dup, 1) := by decide +kernel
theorem dX9_init_128 : decode cX9_init 128 = .ok (.invokespecial 42, 3) := by decide +kernel
theorem dX9_init_131 : decode cX9_init 131 = .ok (.aastore, 1) := by decide +kernel
theorem dX9_init_132 : decode cX9_init 132 = .ok (.iinc 1 1, 3) := by decide +kernel
theorem dX9_init_135 : decode cX9_init 135 = .ok (.goto (-25), 3) := by decide +kernel
theorem dX9_init_138 : decode cX9_init 138 = .ok (.aload_n 0, 1) := by decide +kernel
theorem dX9_init_139 : decode cX9_init 139 = .ok (.getfield 27, 3) := by decide +kernel
theorem dX9_init_142 : decode cX9_init 142 = .ok (.bipush 123, 2) := by decide +kernel
theorem dX9_init_144 : decode cX9_init 144 = .ok (.invokevirtual 47, 3) := by decide +kernel
theorem dX9_init_147 : decode cX9_init 147 = .ok (.return_, 1) := by decide +kernel
theorem dX9_query_0 : decode cX9_query 0 = .ok (.iload_n 1, 1) := by decide +kernel
theorem dX9_query_1 : decode cX9_query 1 = .ok (.ifCond .lt 21, 3) := by decide +kernel
theorem dX9_query_4 : decode cX9_query 4 = .ok (.iload_n 1, 1) := by decide +kernel
theorem dX9_query_5 : decode cX9_query 5 = .ok (.aload_n 0, 1) := by decide +kernel
theorem dX9_query_6 : decode cX9_query 6 = .ok (.getfield 35, 3) := by decide +kernel
theorem dX9_query_9 : decode cX9_query 9 = .ok (.arraylength, 1) := by decide +kernel
theorem dX9_query_10 : decode cX9_query 10 = .ok (.if_icmp .ge 12, 3) := by decide +kernel
theorem dX9_query_13 : decode cX9_query 13 = .ok (.aload_n 0, 1) := by decide +kernel
theorem dX9_query_14 : decode cX9_query 14 = .ok (.getfield 35, 3) := by decide +kernel
theorem dX9_query_17 : decode cX9_query 17 = .ok (.iload_n 1, 1) := by decide +kernel
theorem dX9_query_18 : decode cX9_query 18 = .ok (.aaload, 1) := by decide +kernel
theorem dX9_query_19 : decode cX9_query 19 = .ok (.goto 4, 3) := by decide +kernel
theorem dX9_query_22 : decode cX9_query 22 = .ok (.aconst_null, 1) := by decide +kernel
theorem dX9_query_23 : decode cX9_query 23 = .ok (.astore_n 2, 1) := by decide +kernel
theorem dX9_query_24 : decode cX9_query 24 = .ok (.aload_n 2, 1) := by decide +kernel
theorem dX9_query_25 : decode cX9_query 25 = .ok (.ifnonnull 10, 3) := by decide +kernel
theorem dX9_query_28 : decode cX9_query 28 = .ok (.aload_n 0, 1) := by decide +kernel
theorem dX9_query_29 : decode cX9_query 29 = .ok (.getfield 43, 3) := by decide +kernel
theorem dX9_query_32 : decode cX9_query 32 = .ok (.goto 4, 3) := by decide +kernel
theorem dX9_query_35 : decode cX9_query 35 = .ok (.aload_n 2, 1) := by decide +kernel
theorem dX9_query_36 : decode cX9_query 36 = .ok (.areturn, 1) := by decide +kernel
theorem dX9_body_0 : decode cX9_body 0 = .ok (.iload_n 1, 1) := by decide +kernel
theorem dX9_body_1 : decode cX9_body 1 = .ok (.ifCond .lt 21, 3) := by decide +kernel
theorem dX9_body_4 : decode cX9_body 4 = .ok (.iload_n 1, 1) := by decide +kernel
theorem dX9_body_5 : decode cX9_body 5 = .ok (.aload_n 0, 1) := by decide +kernel
theorem dX9_body_6 : decode cX9_body 6 = .ok (.getfield 39, 3) := by decide +kernel
theorem dX9_body_9 : decode cX9_body 9 = .ok (.arraylength, 1) := by decide +kernel
theorem dX9_body_10 : decode cX9_body 10 = .ok (.if_icmp .ge 12, 3) := by decide +kernel
theorem dX9_body_13 : decode cX9_body 13 = .ok (.aload_n 0, 1) := by decide +kernel
theorem dX9_body_14 : decode cX9_body 14 = .ok (.getfield 39, 3) := by decide +kernel
theorem dX9_body_17 : decode cX9_body 17 = .ok (.iload_n 1, 1) := by decide +kernel
theorem dX9_body_18 : decode cX9_body 18 = .ok (.aaload, 1) := by decide +kernel
theorem dX9_body_19 : decode cX9_body 19 = .ok (.goto 4, 3) := by decide +kernel
theorem dX9_body_22 : decode cX9_body 22 = .ok (.aconst_null, 1) := by decide +kernel
theorem dX9_body_23 : decode cX9_body 23 = .ok (.astore_n 2, 1) := by decide +kernel
theorem dX9_body_24 : decode cX9_body 24 = .ok (.aload_n 2, 1) := by decide +kernel
theorem dX9_body_25 : decode cX9_body 25 = .ok (.ifnonnull 10, 3) := by decide +kernel
theorem dX9_body_28 : decode cX9_body 28 = .ok (.aload_n 0, 1) := by decide +kernel
theorem dX9_body_29 : decode cX9_body 29 = .ok (.getfield 43, 3) := by decide +kernel
theorem dX9_body_32 : decode cX9_body 32 = .ok (.goto 4, 3) := by decide +kernel
theorem dX9_body_35 : decode cX9_body 35 = .ok (.aload_n 2, 1) := by decide +kernel
theorem dX9_body_36 : decode cX9_body 36 = .ok (.areturn, 1) := by decide +kernel
theorem dX9_openTable_0 : decode cX9_openTable 0 = .ok (.aload_n 0, 1) := by decide +kernel
theorem dX9_openTable_1 : decode cX9_openTable 1 = .ok (.getfield 14, 3) := by decide +kernel
theorem dX9_openTable_4 : decode cX9_openTable 4 = .ok (.aload_n 0, 1) := by decide +kernel
theorem dX9_openTable_5 : decode cX9_openTable 5 = .ok (.getfield 50, 3) := by decide +kernel
theorem dX9_openTable_8 : decode cX9_openTable 8 = .ok (.iload_n 1, 1) := by decide +kernel
theorem dX9_openTable_9 : decode cX9_openTable 9 = .ok (.invokevirtual 54, 3) := by decide +kernel
theorem dX9_openTable_12 : decode cX9_openTable 12 = .ok (.aload_n 0, 1) := by decide +kernel
theorem dX9_openTable_13 : decode cX9_openTable 13 = .ok (.dup, 1) := by decide +kernel
theorem dX9_openTable_14 : decode cX9_openTable 14 = .ok (.getfield 50, 3) := by decide +kernel
theorem dX9_openTable_17 : decode cX9_openTable 17 = .ok (.iconst 1, 1) := by decide +kernel
theorem dX9_openTable_18 : decode cX9_openTable 18 = .ok (.iadd, 1) := by decide +kernel
theorem dX9_openTable_19 : decode cX9_openTable 19 = .ok (.putfield 50, 3) := by decide +kernel
theorem dX9_openTable_22 : decode cX9_openTable 22 = .ok (.return_, 1) := by decide +kernel
theorem dX9_openRule_0 : decode cX9_openRule 0 = .ok (.aload_n 0, 1) := by decide +kernel
theorem dX9_openRule_1 : decode cX9_openRule 1 = .ok (.getfield 30, 3) := by decide +kernel
theorem dX9_openRule_4 : decode cX9_openRule 4 = .ok (.aload_n 0, 1) := by decide +kernel
theorem dX9_openRule_5 : decode cX9_openRule 5 = .ok (.getfield 58, 3) := by decide +kernel
theorem dX9_openRule_8 : decode cX9_openRule 8 = .ok (.iload_n 1, 1) := by decide +kernel
theorem dX9_openRule_9 : decode cX9_openRule 9 = .ok (.invokevirtual 54, 3) := by decide +kernel
theorem dX9_openRule_12 : decode cX9_openRule 12 = .ok (.aload_n 0, 1) := by decide +kernel
theorem dX9_openRule_13 : decode cX9_openRule 13 = .ok (.aload_n 0, 1) := by decide +kernel
theorem dX9_openRule_14 : decode cX9_openRule 14 = .ok (.getfield 58, 3) := by decide +kernel
theorem dX9_openRule_17 : decode cX9_openRule 17 = .ok (.invokevirtual 61, 3) := by decide +kernel
theorem dX9_openRule_20 : decode cX9_openRule 20 = .ok (.invokevirtual 65, 3) := by decide +kernel
theorem dX9_openRule_23 : decode cX9_openRule 23 = .ok (.aload_n 0, 1) := by decide +kernel
theorem dX9_openRule_24 : decode cX9_openRule 24 = .ok (.dup, 1) := by decide +kernel
theorem dX9_openRule_25 : decode cX9_openRule 25 = .ok (.getfield 58, 3) := by decide +kernel
theorem dX9_openRule_28 : decode cX9_openRule 28 = .ok (.iconst 1, 1) := by decide +kernel
theorem dX9_openRule_29 : decode cX9_openRule 29 = .ok (.iadd, 1) := by decide +kernel
theorem dX9_openRule_30 : decode cX9_openRule 30 = .ok (.putfield 58, 3) := by decide +kernel
theorem dX9_openRule_33 : decode cX9_openRule 33 = .ok (.return_, 1) := by decide +kernel
theorem dX9_closeRule_0 : decode cX9_closeRule 0 = .ok (.iload_n 1, 1) := by decide +kernel
theorem dX9_closeRule_1 : decode cX9_closeRule 1 = .ok (.istore_n 2, 1) := by decide +kernel
theorem dX9_closeRule_2 : decode cX9_closeRule 2 = .ok (.iload_n 2, 1) := by decide +kernel
theorem dX9_closeRule_3 : decode cX9_closeRule 3 = .ok (.iconst 1, 1) := by decide +kernel
theorem dX9_closeRule_4 : decode cX9_closeRule 4 = .ok (.iadd, 1) := by decide +kernel
theorem dX9_closeRule_5 : decode cX9_closeRule 5 = .ok (.aload_n 0, 1) := by decide +kernel
theorem dX9_closeRule_6 : decode cX9_closeRule 6 = .ok (.getfield 58, 3) := by decide +kernel
theorem dX9_closeRule_9 : decode cX9_closeRule 9 = .ok (.if_icmp .ge 42, 3) := by decide +kernel
theorem dX9_closeRule_12 : decode cX9_closeRule 12 = .ok (.aload_n 0, 1) := by decide +kernel
theorem dX9_closeRule_13 : decode cX9_closeRule 13 = .ok (.getfield 30, 3) := by decide +kernel
theorem dX9_closeRule_16 : decode cX9_closeRule 16 = .ok (.iload_n 2, 1) := by decide +kernel
theorem dX9_closeRule_17 : decode cX9_closeRule 17 = .ok (.aload_n 0, 1) := by decide +kernel
theorem dX9_closeRule_18 : decode cX9_closeRule 18 = .ok (.getfield 30, 3) := by decide +kernel
theorem dX9_closeRule_21 : decode cX9_closeRule 21 = .ok (.iload_n 2, 1) := by decide +kernel
theorem dX9_closeRule_22 : decode cX9_closeRule 22 = .ok (.iconst 1, 1) := by decide +kernel
theorem dX9_closeRule_23 : decode cX9_closeRule 23 = .ok (.iadd, 1) := by decide +kernel
theorem dX9_closeRule_24 : decode cX9_closeRule 24 = .ok (.invokevirtual 68, 3) := by decide +kernel
theorem dX9_closeRule_27 : decode cX9_closeRule 27 = .ok (.invokevirtual 54, 3) := by decide +kernel
theorem dX9_closeRule_30 : decode cX9_closeRule 30 = .ok (.aload_n 0, 1) := by decide +kernel
theorem dX9_closeRule_31 : decode cX9_closeRule 31 = .ok (.iload_n 2, 1) := by decide +kernel
theorem dX9_closeRule_32 : decode cX9_closeRule 32 = .ok (.invokevirtual 61, 3) := by decide +kernel
theorem dX9_closeRule_35 : decode cX9_closeRule 35 = .ok (.aload_n 0, 1) := by decide +kernel
theorem dX9_closeRule_36 : decode cX9_closeRule 36 = .ok (.iload_n 2, 1) := by decide +kernel
theorem dX9_closeRule_37 : decode cX9_closeRule 37 = .ok (.iconst 1, 1) := by decide +kernel
theorem dX9_closeRule_38 : decode cX9_closeRule 38 = .ok (.iadd, 1) := by decide +kernel
theorem dX9_closeRule_39 : decode cX9_closeRule 39 = .ok (.invokevirtual 61, 3) := by decide +kernel
theorem dX9_closeRule_42 : decode cX9_closeRule 42 = .ok (.invokevirtual 72, 3) := by decide +kernel
theorem dX9_closeRule_45 : decode cX9_closeRule 45 = .ok (.iinc 2 1, 3) := by decide +kernel
theorem dX9_closeRule_48 : decode cX9_closeRule 48 = .ok (.goto (-46), 3) := by decide +kernel
theorem dX9_closeRule_51 : decode cX9_closeRule 51 = .ok (.aload_n 0, 1) := by decide +kernel
theorem dX9_closeRule_52 : decode cX9_closeRule 52 = .ok (.dup, 1) := by decide +kernel
theorem dX9_closeRule_53 : decode cX9_closeRule 53 = .ok (.getfield 58, 3) := by decide +kernel
theorem dX9_closeRule_56 : decode cX9_closeRule 56 = .ok (.iconst 1, 1) := by decide +kernel
theorem dX9_closeRule_57 : decode cX9_closeRule 57 = .ok (.isub, 1) := by decide +kernel
theorem dX9_closeRule_58 : decode cX9_closeRule 58 = .ok (.putfield 58, 3) := by decide +kernel
theorem dX9_closeRule_61 : decode cX9_closeRule 61 = .ok (.return_, 1) := by decide +kernel
theorem dX9_rests_0 : decode cX9_rests 0 = .ok (.aload_n 0, 1) := by decide +kernel
theorem dX9_rests_1 : decode cX9_rests 1 = .ok (.iload_n 1, 1) := by decide +kernel
theorem dX9_rests_2 : decode cX9_rests 2 = .ok (.invokevirtual 61, 3) := by decide +kernel
theorem dX9_rests_5 : decode cX9_rests 5 = .ok (.iconst 0, 1) := by decide +kernel
theorem dX9_rests_6 : decode cX9_rests 6 = .ok (.invokevirtual 76, 3) := by decide +kernel
theorem dX9_rests_9 : decode cX9_rests 9 = .ok (.istore_n 2, 1) := by decide +kernel
theorem dX9_rests_10 : decode cX9_rests 10 = .ok (.aload_n 0, 1) := by decide +kernel
theorem dX9_rests_11 : decode cX9_rests 11 = .ok (.getfield 30, 3) := by decide +kernel
theorem dX9_rests_14 : decode cX9_rests 14 = .ok (.iload_n 1, 1) := by decide +kernel
theorem dX9_rests_15 : decode cX9_rests 15 = .ok (.invokevirtual 68, 3) := by decide +kernel
theorem dX9_rests_18 : decode cX9_rests 18 = .ok (.invokestatic 80, 3) := by decide +kernel
theorem dX9_rests_21 : decode cX9_rests 21 = .ok (.aload_n 0, 1) := by decide +kernel
theorem dX9_rests_22 : decode cX9_rests 22 = .ok (.iload_n 1, 1) := by decide +kernel
theorem dX9_rests_23 : decode cX9_rests 23 = .ok (.invokevirtual 61, 3) := by decide +kernel
theorem dX9_rests_26 : decode cX9_rests 26 = .ok (.iconst 1, 1) := by decide +kernel
theorem dX9_rests_27 : decode cX9_rests 27 = .ok (.invokevirtual 76, 3) := by decide +kernel
theorem dX9_rests_30 : decode cX9_rests 30 = .ok (.ior, 1) := by decide +kernel
theorem dX9_rests_31 : decode cX9_rests 31 = .ok (.istore_n 3, 1) := by decide +kernel
theorem dX9_rests_32 : decode cX9_rests 32 = .ok (.iload_n 3, 1) := by decide +kernel
theorem dX9_rests_33 : decode cX9_rests 33 = .ok (.iload_n 2, 1) := by decide +kernel
theorem dX9_rests_34 : decode cX9_rests 34 = .ok (.iconst (-1), 1) := by decide +kernel
theorem dX9_rests_35 : decode cX9_rests 35 = .ok (.ixor, 1) := by decide +kernel
theorem dX9_rests_36 : decode cX9_rests 36 = .ok (.iand, 1) := by decide +kernel
theorem dX9_rests_37 : decode cX9_rests 37 = .ok (.ifCond .eq 7, 3) := by decide +kernel
theorem dX9_rests_40 : decode cX9_rests 40 = .ok (.iconst 1, 1) := by decide +kernel
theorem dX9_rests_41 : decode cX9_rests 41 = .ok (.goto 4, 3) := by decide +kernel
theorem dX9_rests_44 : decode cX9_rests 44 = .ok (.iconst 0, 1) := by decide +kernel
theorem dX9_rests_45 : decode cX9_rests 45 = .ok (.ireturn, 1) := by decide +kernel
theorem dX9_copyFrom_0 : decode cX9_copyFrom 0 = .ok (.aload_n 0, 1) := by decide +kernel
theorem dX9_copyFrom_1 : decode cX9_copyFrom 1 = .ok (.getfield 14, 3) := by decide +kernel
theorem dX9_copyFrom_4 : decode cX9_copyFrom 4 = .ok (.aload_n 1, 1) := by decide +kernel
theorem dX9_copyFrom_5 : decode cX9_copyFrom 5 = .ok (.getfield 14, 3) := by decide +kernel
theorem dX9_copyFrom_8 : decode cX9_copyFrom 8 = .ok (.invokevirtual 84, 3) := by decide +kernel
theorem dX9_copyFrom_11 : decode cX9_copyFrom 11 = .ok (.aload_n 0, 1) := by decide +kernel
theorem dX9_copyFrom_12 : decode cX9_copyFrom 12 = .ok (.getfield 23, 3) := by decide +kernel
theorem dX9_copyFrom_15 : decode cX9_copyFrom 15 = .ok (.aload_n 1, 1) := by decide +kernel
theorem dX9_copyFrom_16 : decode cX9_copyFrom 16 = .ok (.getfield 23, 3) := by decide +kernel
theorem dX9_copyFrom_19 : decode cX9_copyFrom 19 = .ok (.invokevirtual 87, 3) := by decide +kernel
theorem dX9_copyFrom_22 : decode cX9_copyFrom 22 = .ok (.aload_n 0, 1) := by decide +kernel
theorem dX9_copyFrom_23 : decode cX9_copyFrom 23 = .ok (.getfield 27, 3) := by decide +kernel
theorem dX9_copyFrom_26 : decode cX9_copyFrom 26 = .ok (.aload_n 1, 1) := by decide +kernel
theorem dX9_copyFrom_27 : decode cX9_copyFrom 27 = .ok (.getfield 27, 3) := by decide +kernel
theorem dX9_copyFrom_30 : decode cX9_copyFrom 30 = .ok (.invokevirtual 84, 3) := by decide +kernel
theorem dX9_copyFrom_33 : decode cX9_copyFrom 33 = .ok (.aload_n 0, 1) := by decide +kernel
theorem dX9_copyFrom_34 : decode cX9_copyFrom 34 = .ok (.getfield 30, 3) := by decide +kernel
theorem dX9_copyFrom_37 : decode cX9_copyFrom 37 = .ok (.aload_n 1, 1) := by decide +kernel
theorem dX9_copyFrom_38 : decode cX9_copyFrom 38 = .ok (.getfield 30, 3) := by decide +kernel
theorem dX9_copyFrom_41 : decode cX9_copyFrom 41 = .ok (.invokevirtual 84, 3) := by decide +kernel
theorem dX9_copyFrom_44 : decode cX9_copyFrom 44 = .ok (.iconst 0, 1) := by decide +kernel
theorem dX9_copyFrom_45 : decode cX9_copyFrom 45 = .ok (.istore_n 2, 1) := by decide +kernel
theorem dX9_copyFrom_46 : decode cX9_copyFrom 46 = .ok (.iload_n 2, 1) := by decide +kernel
theorem dX9_copyFrom_47 : decode cX9_copyFrom 47 = .ok (.iconst 4, 1) := by decide +kernel
theorem dX9_copyFrom_48 : decode cX9_copyFrom 48 = .ok (.if_icmp .ge 22, 3) := by decide +kernel
theorem dX9_copyFrom_51 : decode cX9_copyFrom 51 = .ok (.aload_n 0, 1) := by decide +kernel
theorem dX9_copyFrom_52 : decode cX9_copyFrom 52 = .ok (.iload_n 2, 1) := by decide +kernel
theorem dX9_copyFrom_53 : decode cX9_copyFrom 53 = .ok (.invokevirtual 90, 3) := by decide +kernel
theorem dX9_copyFrom_56 : decode cX9_copyFrom 56 = .ok (.aload_n 1, 1) := by decide +kernel
theorem dX9_copyFrom_57 : decode cX9_copyFrom 57 = .ok (.iload_n 2, 1) := by decide +kernel
theorem dX9_copyFrom_58 : decode cX9_copyFrom 58 = .ok (.invokevirtual 90, 3) := by decide +kernel
theorem dX9_copyFrom_61 : decode cX9_copyFrom 61 = .ok (.invokevirtual 72, 3) := by decide +kernel
theorem dX9_copyFrom_64 : decode cX9_copyFrom 64 = .ok (.iinc 2 1, 3) := by decide +kernel
theorem dX9_copyFrom_67 : decode cX9_copyFrom 67 = .ok (.goto (-21), 3) := by decide +kernel
theorem dX9_copyFrom_70 : decode cX9_copyFrom 70 = .ok (.iconst 0, 1) := by decide +kernel
theorem dX9_copyFrom_71 : decode cX9_copyFrom 71 = .ok (.istore_n 2, 1) := by decide +kernel
theorem dX9_copyFrom_72 : decode cX9_copyFrom 72 = .ok (.iload_n 2, 1) := by decide +kernel
theorem dX9_copyFrom_73 : decode cX9_copyFrom 73 = .ok (.iconst 5, 1) := by decide +kernel
theorem dX9_copyFrom_74 : decode cX9_copyFrom 74 = .ok (.if_icmp .ge 22, 3) := by decide +kernel
theorem dX9_copyFrom_77 : decode cX9_copyFrom 77 = .ok (.aload_n 0, 1) := by decide +kernel
theorem dX9_copyFrom_78 : decode cX9_copyFrom 78 = .ok (.iload_n 2, 1) := by decide +kernel
theorem dX9_copyFrom_79 : decode cX9_copyFrom 79 = .ok (.invokevirtual 61, 3) := by decide +kernel
theorem dX9_copyFrom_82 : decode cX9_copyFrom 82 = .ok (.aload_n 1, 1) := by decide +kernel
theorem dX9_copyFrom_83 : decode cX9_copyFrom 83 = .ok (.iload_n 2, 1) := by decide +kernel
theorem dX9_copyFrom_84 : decode cX9_copyFrom 84 = .ok (.invokevirtual 61, 3) := by decide +kernel
theorem dX9_copyFrom_87 : decode cX9_copyFrom 87 = .ok (.invokevirtual 72, 3) := by decide +kernel
theorem dX9_copyFrom_90 : decode cX9_copyFrom 90 = .ok (.iinc 2 1, 3) := by decide +kernel
theorem dX9_copyFrom_93 : decode cX9_copyFrom 93 = .ok (.goto (-21), 3) := by decide +kernel
theorem dX9_copyFrom_96 : decode cX9_copyFrom 96 = .ok (.aload_n 0, 1) := by decide +kernel
theorem dX9_copyFrom_97 : decode cX9_copyFrom 97 = .ok (.aload_n 1, 1) := by decide +kernel
theorem dX9_copyFrom_98 : decode cX9_copyFrom 98 = .ok (.getfield 50, 3) := by decide +kernel
theorem dX9_copyFrom_101 : decode cX9_copyFrom 101 = .ok (.putfield 50, 3) := by decide +kernel
theorem dX9_copyFrom_104 : decode cX9_copyFrom 104 = .ok (.aload_n 0, 1) := by decide +kernel
theorem dX9_copyFrom_105 : decode cX9_copyFrom 105 = .ok (.aload_n 1, 1) := by decide +kernel
theorem dX9_copyFrom_106 : decode cX9_copyFrom 106 = .ok (.getfield 58, 3) := by decide +kernel
theorem dX9_copyFrom_109 : decode cX9_copyFrom 109 = .ok (.putfield 58, 3) := by decide +kernel
theorem dX9_copyFrom_112 : decode cX9_copyFrom 112 = .ok (.return_, 1) := by decide +kernel
theorem dX10_init_0 : decode cX10_init 0 = .ok (.aload_n 0, 1) := by decide +kernel
theorem dX10_init_1 : decode cX10_init 1 = .ok (.invokespecial 3, 3) := by decide +kernel
theorem dX10_init_4 : decode cX10_init 4 = .ok (.aload_n 0, 1) := by decide +kernel
theorem dX10_init_5 : decode cX10_init 5 = .ok (.new 9, 3) := by decide +kernel
theorem dX10_init_8 : decode cX10_init 8 = .ok (.dup, 1) := by decide +kernel
theorem dX10_init_9 : decode cX10_init 9 = .ok (.iconst 5, 1) := by decide +kernel
theorem dX10_init_10 : decode cX10_init 10 = .ok (.invokespecial 11, 3) := by decide +kernel
theorem dX10_init_13 : decode cX10_init 13 = .ok (.putfield 14, 3) := by decide +kernel
theorem dX10_init_16 : decode cX10_init 16 = .ok (.return_, 1) := by decide +kernel
theorem dX10_reduces_0 : decode cX10_reduces 0 = .ok (.iconst 0, 1) := by decide +kernel
theorem dX10_reduces_1 : decode cX10_reduces 1 = .ok (.istore_n 2, 1) := by decide +kernel
theorem dX10_reduces_2 : decode cX10_reduces 2 = .ok (.iload_n 2, 1) := by decide +kernel
theorem dX10_reduces_3 : decode cX10_reduces 3 = .ok (.aload_n 1, 1) := by decide +kernel
theorem dX10_reduces_4 : decode cX10_reduces 4 = .ok (.getfield 20, 3) := by decide +kernel
theorem dX10_reduces_7 : decode cX10_reduces 7 = .ok (.if_icmp .ge 25, 3) := by decide +kernel
theorem dX10_reduces_10 : decode cX10_reduces 10 = .ok (.aload_n 0, 1) := by decide +kernel
theorem dX10_reduces_11 : decode cX10_reduces 11 = .ok (.getfield 14, 3) := by decide +kernel
theorem dX10_reduces_14 : decode cX10_reduces 14 = .ok (.iload_n 2, 1) := by decide +kernel
theorem dX10_reduces_15 : decode cX10_reduces 15 = .ok (.aload_n 1, 1) := by decide +kernel
theorem dX10_reduces_16 : decode cX10_reduces 16 = .ok (.iload_n 2, 1) := by decide +kernel
theorem dX10_reduces_17 : decode cX10_reduces 17 = .ok (.invokevirtual 26, 3) := by decide +kernel
theorem dX10_reduces_20 : decode cX10_reduces 20 = .ok (.invokestatic 30, 3) := by decide +kernel
theorem dX10_reduces_23 : decode cX10_reduces 23 = .ok (.invokevirtual 35, 3) := by decide +kernel
theorem dX10_reduces_26 : decode cX10_reduces 26 = .ok (.iinc 2 1, 3) := by decide +kernel
theorem dX10_reduces_29 : decode cX10_reduces 29 = .ok (.goto (-27), 3) := by decide +kernel
theorem dX10_reduces_32 : decode cX10_reduces 32 = .ok (.iconst 1, 1) := by decide +kernel
theorem dX10_reduces_33 : decode cX10_reduces 33 = .ok (.istore_n 2, 1) := by decide +kernel
theorem dX10_reduces_34 : decode cX10_reduces 34 = .ok (.iconst 0, 1) := by decide +kernel
theorem dX10_reduces_35 : decode cX10_reduces 35 = .ok (.istore_n 3, 1) := by decide +kernel
theorem dX10_reduces_36 : decode cX10_reduces 36 = .ok (.iload_n 2, 1) := by decide +kernel
theorem dX10_reduces_37 : decode cX10_reduces 37 = .ok (.ifCond .eq 43, 3) := by decide +kernel
theorem dX10_reduces_40 : decode cX10_reduces 40 = .ok (.iload_n 3, 1) := by decide +kernel
theorem dX10_reduces_41 : decode cX10_reduces 41 = .ok (.ldc 39, 2) := by decide +kernel
theorem dX10_reduces_43 : decode cX10_reduces 43 = .ok (.if_icmp .ge 37, 3) := by decide +kernel
theorem dX10_reduces_46 : decode cX10_reduces 46 = .ok (.aload_n 0, 1) := by decide +kernel
theorem dX10_reduces_47 : decode cX10_reduces 47 = .ok (.aload_n 1, 1) := by decide +kernel
theorem dX10_reduces_48 : decode cX10_reduces 48 = .ok (.getfield 20, 3) := by decide +kernel
theorem dX10_reduces_51 : decode cX10_reduces 51 = .ok (.invokevirtual 40, 3) := by decide +kernel
theorem dX10_reduces_54 : decode cX10_reduces 54 = .ok (.ifCond .ne 14, 3) := by decide +kernel
theorem dX10_reduces_57 : decode cX10_reduces 57 = .ok (.aload_n 0, 1) := by decide +kernel
theorem dX10_reduces_58 : decode cX10_reduces 58 = .ok (.aload_n 1, 1) := by decide +kernel
theorem dX10_reduces_59 : decode cX10_reduces 59 = .ok (.getfield 20, 3) := by decide +kernel
theorem dX10_reduces_62 : decode cX10_reduces 62 = .ok (.invokevirtual 44, 3) := by decide +kernel
theorem dX10_reduces_65 : decode cX10_reduces 65 = .ok (.ifCond .eq 7, 3) := by decide +kernel
theorem dX10_reduces_68 : decode cX10_reduces 68 = .ok (.iconst 1, 1) := by decide +kernel
theorem dX10_reduces_69 : decode cX10_reduces 69 = .ok (.goto 4, 3) := by decide +kernel
theorem dX10_reduces_72 : decode cX10_reduces 72 = .ok (.iconst 0, 1) := by decide +kernel
theorem dX10_reduces_73 : decode cX10_reduces 73 = .ok (.istore_n 2, 1) := by decide +kernel
theorem dX10_reduces_74 : decode cX10_reduces 74 = .ok (.iinc 3 1, 3) := by decide +kernel
theorem dX10_reduces_77 : decode cX10_reduces 77 = .ok (.goto (-41), 3) := by decide +kernel
theorem dX10_reduces_80 : decode cX10_reduces 80 = .ok (.iconst 0, 1) := by decide +kernel
theorem dX10_reduces_81 : decode cX10_reduces 81 = .ok (.istore_n 3, 1) := by decide +kernel
theorem dX10_reduces_82 : decode cX10_reduces 82 = .ok (.iload_n 3, 1) := by decide +kernel
theorem dX10_reduces_83 : decode cX10_reduces 83 = .ok (.aload_n 1, 1) := by decide +kernel
theorem dX10_reduces_84 : decode cX10_reduces 84 = .ok (.getfield 20, 3) := by decide +kernel
theorem dX10_reduces_87 : decode cX10_reduces 87 = .ok (.if_icmp .ge 23, 3) := by decide +kernel
theorem dX10_reduces_90 : decode cX10_reduces 90 = .ok (.aload_n 0, 1) := by decide +kernel
theorem dX10_reduces_91 : decode cX10_reduces 91 = .ok (.getfield 14, 3) := by decide +kernel
theorem dX10_reduces_94 : decode cX10_reduces 94 = .ok (.iload_n 3, 1) := by decide +kernel
theorem dX10_reduces_95 : decode cX10_reduces 95 = .ok (.invokevirtual 47, 3) := by decide +kernel
theorem dX10_reduces_98 : decode cX10_reduces 98 = .ok (.iconst (-1), 1) := by decide +kernel
theorem dX10_reduces_99 : decode cX10_reduces 99 = .ok (.if_icmp .eq 5, 3) := by decide +kernel
theorem dX10_reduces_102 : decode cX10_reduces 102 = .ok (.iconst 0, 1) := by decide +kernel
theorem dX10_reduces_103 : decode cX10_reduces 103 = .ok (.ireturn, 1) := by decide +kernel
theorem dX10_reduces_104 : decode cX10_reduces 104 = .ok (.iinc 3 1, 3) := by decide +kernel
theorem dX10_reduces_107 : decode cX10_reduces 107 = .ok (.goto (-25), 3) := by decide +kernel
theorem dX10_reduces_110 : decode cX10_reduces 110 = .ok (.iconst 1, 1) := by decide +kernel
theorem dX10_reduces_111 : decode cX10_reduces 111 = .ok (.ireturn, 1) := by decide +kernel
theorem dX10_takeVariable_0 : decode cX10_takeVariable 0 = .ok (.iconst 0, 1) := by decide +kernel
theorem dX10_takeVariable_1 : decode cX10_takeVariable 1 = .ok (.istore_n 2, 1) := by decide +kernel
theorem dX10_takeVariable_2 : decode cX10_takeVariable 2 = .ok (.iload_n 2, 1) := by decide +kernel
theorem dX10_takeVariable_3 : decode cX10_takeVariable 3 = .ok (.iconst 4, 1) := by decide +kernel
theorem dX10_takeVariable_4 : decode cX10_takeVariable 4 = .ok (.if_icmp .ge 96, 3) := by decide +kernel
theorem dX10_takeVariable_7 : decode cX10_takeVariable 7 = .ok (.iconst 0, 1) := by decide +kernel
theorem dX10_takeVariable_8 : decode cX10_takeVariable 8 = .ok (.istore_n 3, 1) := by decide +kernel
theorem dX10_takeVariable_9 : decode cX10_takeVariable 9 = .ok (.iconst (-1), 1) := by decide +kernel
theorem dX10_takeVariable_10 : decode cX10_takeVariable 10 = .ok (.istore 4, 2) := by decide +kernel
theorem dX10_takeVariable_12 : decode cX10_takeVariable 12 = .ok (.iconst 0, 1) := by decide +kernel
theorem dX10_takeVariable_13 : decode cX10_takeVariable 13 = .ok (.istore 5, 2) := by decide +kernel
theorem dX10_takeVariable_15 : decode cX10_takeVariable 15 = .ok (.iload 5, 2) := by decide +kernel
theorem dX10_takeVariable_17 : decode cX10_takeVariable 17 = .ok (.iload_n 1, 1) := by decide +kernel
theorem dX10_takeVariable_18 : decode cX10_takeVariable 18 = .ok (.if_icmp .ge 45, 3) := by decide +kernel
theorem dX10_takeVariable_21 : decode cX10_takeVariable 21 = .ok (.aload_n 0, 1) := by decide +kernel
theorem dX10_takeVariable_22 : decode cX10_takeVariable 22 = .ok (.getfield 14, 3) := by decide +kernel
theorem dX10_takeVariable_25 : decode cX10_takeVariable 25 = .ok (.iload 5, 2) := by decide +kernel
theorem dX10_takeVariable_27 : decode cX10_takeVariable 27 = .ok (.invokevirtual 47, 3) := by decide +kernel
theorem dX10_takeVariable_30 : decode cX10_takeVariable 30 = .ok (.iconst (-1), 1) := by decide +kernel
theorem dX10_takeVariable_31 : decode cX10_takeVariable 31 = .ok (.if_icmp .eq 26, 3) := by decide +kernel
theorem dX10_takeVariable_34 : decode cX10_takeVariable 34 = .ok (.aload_n 0, 1) := by decide +kernel
theorem dX10_takeVariable_35 : decode cX10_takeVariable 35 = .ok (.getfield 14, 3) := by decide +kernel
theorem dX10_takeVariable_38 : decode cX10_takeVariable 38 = .ok (.iload 5, 2) := by decide +kernel
theorem dX10_takeVariable_40 : decode cX10_takeVariable 40 = .ok (.invokevirtual 47, 3) := by decide +kernel
theorem dX10_takeVariable_43 : decode cX10_takeVariable 43 = .ok (.iconst 1, 1) := by decide +kernel
theorem dX10_takeVariable_44 : decode cX10_takeVariable 44 = .ok (.iload_n 2, 1) := by decide +kernel
theorem dX10_takeVariable_45 : decode cX10_takeVariable 45 = .ok (.ishl, 1) := by decide +kernel
theorem dX10_takeVariable_46 : decode cX10_takeVariable 46 = .ok (.iand, 1) := by decide +kernel
theorem dX10_takeVariable_47 : decode cX10_takeVariable 47 = .ok (.ifCond .eq 10, 3) := by decide +kernel
theorem dX10_takeVariable_50 : decode cX10_takeVariable 50 = .ok (.iinc 3 1, 3) := by decide +kernel
theorem dX10_takeVariable_53 : decode cX10_takeVariable 53 = .ok (.iload 5, 2) := by decide +kernel
theorem dX10_takeVariable_55 : decode cX10_takeVariable 55 = .ok (.istore 4, 2) := by decide +kernel
theorem dX10_takeVariable_57 : decode cX10_takeVariable 57 = .ok (.iinc 5 1, 3) := by decide +kernel
theorem dX10_takeVariable_60 : decode cX10_takeVariable 60 = .ok (.goto (-45), 3) := by decide +kernel
theorem dX10_takeVariable_63 : decode cX10_takeVariable 63 = .ok (.iload_n 3, 1) := by decide +kernel
theorem dX10_takeVariable_64 : decode cX10_takeVariable 64 = .ok (.iconst 1, 1) := by decide +kernel
theorem dX10_takeVariable_65 : decode cX10_takeVariable 65 = .ok (.if_icmp .ne 29, 3) := by decide +kernel
theorem dX10_takeVariable_68 : decode cX10_takeVariable 68 = .ok (.aload_n 0, 1) := by decide +kernel
theorem dX10_takeVariable_69 : decode cX10_takeVariable 69 = .ok (.getfield 14, 3) := by decide +kernel
theorem dX10_takeVariable_72 : decode cX10_takeVariable 72 = .ok (.iload 4, 2) := by decide +kernel
theorem dX10_takeVariable_74 : decode cX10_takeVariable 74 = .ok (.aload_n 0, 1) := by decide +kernel
theorem dX10_takeVariable_75 : decode cX10_takeVariable 75 = .ok (.getfield 14, 3) := by decide +kernel
theorem dX10_takeVariable_78 : decode cX10_takeVariable 78 = .ok (.iload 4, 2) := by decide +kernel
theorem dX10_takeVariable_80 : decode cX10_takeVariable 80 = .ok (.invokevirtual 47, 3) := by decide +kernel
theorem dX10_takeVariable_83 : decode cX10_takeVariable 83 = .ok (.iconst 1, 1) := by decide +kernel
theorem dX10_takeVariable_84 : decode cX10_takeVariable 84 = .ok (.iload_n 2, 1) := by decide +kernel
theorem dX10_takeVariable_85 : decode cX10_takeVariable 85 = .ok (.ishl, 1) := by decide +kernel
theorem dX10_takeVariable_86 : decode cX10_takeVariable 86 = .ok (.iconst (-1), 1) := by decide +kernel
theorem dX10_takeVariable_87 : decode cX10_takeVariable 87 = .ok (.ixor, 1) := by decide +kernel
theorem dX10_takeVariable_88 : decode cX10_takeVariable 88 = .ok (.iand, 1) := by decide +kernel
theorem dX10_takeVariable_89 : decode cX10_takeVariable 89 = .ok (.invokevirtual 35, 3) := by decide +kernel
theorem dX10_takeVariable_92 : decode cX10_takeVariable 92 = .ok (.iconst 1, 1) := by decide +kernel
theorem dX10_takeVariable_93 : decode cX10_takeVariable 93 = .ok (.ireturn, 1) := by decide +kernel
theorem dX10_takeVariable_94 : decode cX10_takeVariable 94 = .ok (.iinc 2 1, 3) := by decide +kernel
theorem dX10_takeVariable_97 : decode cX10_takeVariable 97 = .ok (.goto (-95), 3) := by decide +kernel
theorem dX10_takeVariable_100 : decode cX10_takeVariable 100 = .ok (.iconst 0, 1) := by decide +kernel
theorem dX10_takeVariable_101 : decode cX10_takeVariable 101 = .ok (.ireturn, 1) := by decide +kernel
theorem dX10_takeAtom_0 : decode cX10_takeAtom 0 = .ok (.iconst 0, 1) := by decide +kernel
theorem dX10_takeAtom_1 : decode cX10_takeAtom 1 = .ok (.istore_n 2, 1) := by decide +kernel
theorem dX10_takeAtom_2 : decode cX10_takeAtom 2 = .ok (.iload_n 2, 1) := by decide +kernel
theorem dX10_takeAtom_3 : decode cX10_takeAtom 3 = .ok (.iload_n 1, 1) := by decide +kernel
theorem dX10_takeAtom_4 : decode cX10_takeAtom 4 = .ok (.if_icmp .ge 41, 3) := by decide +kernel
theorem dX10_takeAtom_7 : decode cX10_takeAtom 7 = .ok (.aload_n 0, 1) := by decide +kernel
theorem dX10_takeAtom_8 : decode cX10_takeAtom 8 = .ok (.getfield 14, 3) := by decide +kernel
theorem dX10_takeAtom_11 : decode cX10_takeAtom 11 = .ok (.iload_n 2, 1) := by decide +kernel
theorem dX10_takeAtom_12 : decode cX10_takeAtom 12 = .ok (.invokevirtual 47, 3) := by decide +kernel
theorem dX10_takeAtom_15 : decode cX10_takeAtom 15 = .ok (.iconst (-1), 1) := by decide +kernel
theorem dX10_takeAtom_16 : decode cX10_takeAtom 16 = .ok (.if_icmp .eq 23, 3) := by decide +kernel
theorem dX10_takeAtom_19 : decode cX10_takeAtom 19 = .ok (.aload_n 0, 1) := by decide +kernel
theorem dX10_takeAtom_20 : decode cX10_takeAtom 20 = .ok (.iload_n 2, 1) := by decide +kernel
theorem dX10_takeAtom_21 : decode cX10_takeAtom 21 = .ok (.iload_n 1, 1) := by decide +kernel
theorem dX10_takeAtom_22 : decode cX10_takeAtom 22 = .ok (.invokevirtual 48, 3) := by decide +kernel
theorem dX10_takeAtom_25 : decode cX10_takeAtom 25 = .ok (.ifCond .eq 14, 3) := by decide +kernel
theorem dX10_takeAtom_28 : decode cX10_takeAtom 28 = .ok (.aload_n 0, 1) := by decide +kernel
theorem dX10_takeAtom_29 : decode cX10_takeAtom 29 = .ok (.getfield 14, 3) := by decide +kernel
theorem dX10_takeAtom_32 : decode cX10_takeAtom 32 = .ok (.iload_n 2, 1) := by decide +kernel
theorem dX10_takeAtom_33 : decode cX10_takeAtom 33 = .ok (.iconst (-1), 1) := by decide +kernel
theorem dX10_takeAtom_34 : decode cX10_takeAtom 34 = .ok (.invokevirtual 35, 3) := by decide +kernel
theorem dX10_takeAtom_37 : decode cX10_takeAtom 37 = .ok (.iconst 1, 1) := by decide +kernel
theorem dX10_takeAtom_38 : decode cX10_takeAtom 38 = .ok (.ireturn, 1) := by decide +kernel
theorem dX10_takeAtom_39 : decode cX10_takeAtom 39 = .ok (.iinc 2 1, 3) := by decide +kernel
theorem dX10_takeAtom_42 : decode cX10_takeAtom 42 = .ok (.goto (-40), 3) := by decide +kernel
theorem dX10_takeAtom_45 : decode cX10_takeAtom 45 = .ok (.iconst 0, 1) := by decide +kernel
theorem dX10_takeAtom_46 : decode cX10_takeAtom 46 = .ok (.ireturn, 1) := by decide +kernel
theorem dX10_isSpare_0 : decode cX10_isSpare 0 = .ok (.aload_n 0, 1) := by decide +kernel
theorem dX10_isSpare_1 : decode cX10_isSpare 1 = .ok (.getfield 14, 3) := by decide +kernel
theorem dX10_isSpare_4 : decode cX10_isSpare 4 = .ok (.iload_n 1, 1) := by decide +kernel
theorem dX10_isSpare_5 : decode cX10_isSpare 5 = .ok (.invokevirtual 47, 3) := by decide +kernel
theorem dX10_isSpare_8 : decode cX10_isSpare 8 = .ok (.istore_n 3, 1) := by decide +kernel
theorem dX10_isSpare_9 : decode cX10_isSpare 9 = .ok (.iconst 0, 1) := by decide +kernel
theorem dX10_isSpare_10 : decode cX10_isSpare 10 = .ok (.istore 4, 2) := by decide +kernel
theorem dX10_isSpare_12 : decode cX10_isSpare 12 = .ok (.iload 4, 2) := by decide +kernel
theorem dX10_isSpare_14 : decode cX10_isSpare 14 = .ok (.iload_n 2, 1) := by decide +kernel
theorem dX10_isSpare_15 : decode cX10_isSpare 15 = .ok (.if_icmp .ge 46, 3) := by decide +kernel
theorem dX10_isSpare_18 : decode cX10_isSpare 18 = .ok (.iload 4, 2) := by decide +kernel
theorem dX10_isSpare_20 : decode cX10_isSpare 20 = .ok (.iload_n 1, 1) := by decide +kernel
theorem dX10_isSpare_21 : decode cX10_isSpare 21 = .ok (.if_icmp .eq 34, 3) := by decide +kernel
theorem dX10_isSpare_24 : decode cX10_isSpare 24 = .ok (.aload_n 0, 1) := by decide +kernel
theorem dX10_isSpare_25 : decode cX10_isSpare 25 = .ok (.getfield 14, 3) := by decide +kernel
theorem dX10_isSpare_28 : decode cX10_isSpare 28 = .ok (.iload 4, 2) := by decide +kernel
theorem dX10_isSpare_30 : decode cX10_isSpare 30 = .ok (.invokevirtual 47, 3) := by decide +kernel
theorem dX10_isSpare_33 : decode cX10_isSpare 33 = .ok (.iconst (-1), 1) := by decide +kernel
theorem dX10_isSpare_34 : decode cX10_isSpare 34 = .ok (.if_icmp .eq 21, 3) := by decide +kernel
theorem dX10_isSpare_37 : decode cX10_isSpare 37 = .ok (.iload_n 3, 1) := by decide +kernel
theorem dX10_isSpare_38 : decode cX10_isSpare 38 = .ok (.aload_n 0, 1) := by decide +kernel
theorem dX10_isSpare_39 : decode cX10_isSpare 39 = .ok (.getfield 14, 3) := by decide +kernel
theorem dX10_isSpare_42 : decode cX10_isSpare 42 = .ok (.iload 4, 2) := by decide +kernel
theorem dX10_isSpare_44 : decode cX10_isSpare 44 = .ok (.invokevirtual 47, 3) := by decide +kernel
theorem dX10_isSpare_47 : decode cX10_isSpare 47 = .ok (.iconst (-1), 1) := by decide +kernel
theorem dX10_isSpare_48 : decode cX10_isSpare 48 = .ok (.ixor, 1) := by decide +kernel
theorem dX10_isSpare_49 : decode cX10_isSpare 49 = .ok (.iand, 1) := by decide +kernel
theorem dX10_isSpare_50 : decode cX10_isSpare 50 = .ok (.ifCond .ne 5, 3) := by decide +kernel
theorem dX10_isSpare_53 : decode cX10_isSpare 53 = .ok (.iconst 1, 1) := by decide +kernel
theorem dX10_isSpare_54 : decode cX10_isSpare 54 = .ok (.ireturn, 1) := by decide +kernel
theorem dX10_isSpare_55 : decode cX10_isSpare 55 = .ok (.iinc 4 1, 3) := by decide +kernel
theorem dX10_isSpare_58 : decode cX10_isSpare 58 = .ok (.goto (-46), 3) := by decide +kernel
theorem dX10_isSpare_61 : decode cX10_isSpare 61 = .ok (.iload_n 3, 1) := by decide +kernel
theorem dX10_isSpare_62 : decode cX10_isSpare 62 = .ok (.ifCond .ne 7, 3) := by decide +kernel
theorem dX10_isSpare_65 : decode cX10_isSpare 65 = .ok (.iconst 1, 1) := by decide +kernel
theorem dX10_isSpare_66 : decode cX10_isSpare 66 = .ok (.goto 4, 3) := by decide +kernel
theorem dX10_isSpare_69 : decode cX10_isSpare 69 = .ok (.iconst 0, 1) := by decide +kernel
theorem dX10_isSpare_70 : decode cX10_isSpare 70 = .ok (.ireturn, 1) := by decide +kernel
theorem dX11_init_0 : decode cX11_init 0 = .ok (.aload_n 0, 1) := by decide +kernel
theorem dX11_init_1 : decode cX11_init 1 = .ok (.invokespecial 1, 3) := by decide +kernel
theorem dX11_init_4 : decode cX11_init 4 = .ok (.aload_n 0, 1) := by decide +kernel
theorem dX11_init_5 : decode cX11_init 5 = .ok (.new 7, 3) := by decide +kernel
theorem dX11_init_8 : decode cX11_init 8 = .ok (.dup, 1) := by decide +kernel
theorem dX11_init_9 : decode cX11_init 9 = .ok (.invokespecial 9, 3) := by decide +kernel
theorem dX11_init_12 : decode cX11_init 12 = .ok (.putfield 10, 3) := by decide +kernel
theorem dX11_init_15 : decode cX11_init 15 = .ok (.aload_n 0, 1) := by decide +kernel
theorem dX11_init_16 : decode cX11_init 16 = .ok (.new 16, 3) := by decide +kernel
theorem dX11_init_19 : decode cX11_init 19 = .ok (.dup, 1) := by decide +kernel
theorem dX11_init_20 : decode cX11_init 20 = .ok (.invokespecial 18, 3) := by decide +kernel
theorem dX11_init_23 : decode cX11_init 23 = .ok (.putfield 19, 3) := by decide +kernel
theorem dX11_init_26 : decode cX11_init 26 = .ok (.aload_n 0, 1) := by decide +kernel
theorem dX11_init_27 : decode cX11_init 27 = .ok (.new 23, 3) := by decide +kernel
theorem dX11_init_30 : decode cX11_init 30 = .ok (.dup, 1) := by decide +kernel
theorem dX11_init_31 : decode cX11_init 31 = .ok (.invokespecial 25, 3) := by decide +kernel
theorem dX11_init_34 : decode cX11_init 34 = .ok (.putfield 26, 3) := by decide +kernel
theorem dX11_init_37 : decode cX11_init 37 = .ok (.aload_n 0, 1) := by decide +kernel
theorem dX11_init_38 : decode cX11_init 38 = .ok (.new 30, 3) := by decide +kernel
theorem dX11_init_41 : decode cX11_init 41 = .ok (.dup, 1) := by decide +kernel
theorem dX11_init_42 : decode cX11_init 42 = .ok (.invokespecial 32, 3) := by decide +kernel
theorem dX11_init_45 : decode cX11_init 45 = .ok (.putfield 33, 3) := by decide +kernel
theorem dX11_init_48 : decode cX11_init 48 = .ok (.aload_n 0, 1) := by decide +kernel
theorem dX11_init_49 : decode cX11_init 49 = .ok (.new 37, 3) := by decide +kernel
theorem dX11_init_52 : decode cX11_init 52 = .ok (.dup, 1) := by decide +kernel
theorem dX11_init_53 : decode cX11_init 53 = .ok (.invokespecial 39, 3) := by decide +kernel
theorem dX11_init_56 : decode cX11_init 56 = .ok (.putfield 40, 3) := by decide +kernel
theorem dX11_init_59 : decode cX11_init 59 = .ok (.aload_n 0, 1) := by decide +kernel
theorem dX11_init_60 : decode cX11_init 60 = .ok (.new 44, 3) := by decide +kernel
theorem dX11_init_63 : decode cX11_init 63 = .ok (.dup, 1) := by decide +kernel
theorem dX11_init_64 : decode cX11_init 64 = .ok (.invokespecial 46, 3) := by decide +kernel
theorem dX11_init_67 : decode cX11_init 67 = .ok (.putfield 47, 3) := by decide +kernel
theorem dX11_init_70 : decode cX11_init 70 = .ok (.aload_n 0, 1) := by decide +kernel
theorem dX11_init_71 : decode cX11_init 71 = .ok (.new 51, 3) := by decide +kernel
theorem dX11_init_74 : decode cX11_init 74 = .ok (.dup, 1) := by decide +kernel
theorem dX11_init_75 : decode cX11_init 75 = .ok (.invokespecial 53, 3) := by decide +kernel
theorem dX11_init_78 : decode cX11_init 78 = .ok (.putfield 54, 3) := by decide +kernel
theorem dX11_init_81 : decode cX11_init 81 = .ok (.aload_n 0, 1) := by decide +kernel
theorem dX11_init_82 : decode cX11_init 82 = .ok (.iconst (-1), 1) := by decide +kernel
theorem dX11_init_83 : decode cX11_init 83 = .ok (.putfield 58, 3) := by decide +kernel
theorem dX11_init_86 : decode cX11_init 86 = .ok (.aload_n 0, 1) := by decide +kernel
theorem dX11_init_87 : decode cX11_init 87 = .ok (.getfield 10, 3) := by decide +kernel
theorem dX11_init_90 : decode cX11_init 90 = .ok (.iconst 2, 1) := by decide +kernel
theorem dX11_init_91 : decode cX11_init 91 = .ok (.invokevirtual 62, 3) := by decide +kernel
theorem dX11_init_94 : decode cX11_init 94 = .ok (.aload_n 0, 1) := by decide +kernel
theorem dX11_init_95 : decode cX11_init 95 = .ok (.getfield 10, 3) := by decide +kernel
theorem dX11_init_98 : decode cX11_init 98 = .ok (.iconst 2, 1) := by decide +kernel
theorem dX11_init_99 : decode cX11_init 99 = .ok (.invokevirtual 62, 3) := by decide +kernel
theorem dX11_init_102 : decode cX11_init 102 = .ok (.aload_n 0, 1) := by decide +kernel
theorem dX11_init_103 : decode cX11_init 103 = .ok (.getfield 10, 3) := by decide +kernel
theorem dX11_init_106 : decode cX11_init 106 = .ok (.iconst 1, 1) := by decide +kernel
theorem dX11_init_107 : decode cX11_init 107 = .ok (.invokevirtual 62, 3) := by decide +kernel
theorem dX11_init_110 : decode cX11_init 110 = .ok (.aload_n 0, 1) := by decide +kernel
theorem dX11_init_111 : decode cX11_init 111 = .ok (.getfield 10, 3) := by decide +kernel
theorem dX11_init_114 : decode cX11_init 114 = .ok (.getfield 66, 3) := by decide +kernel
theorem dX11_init_117 : decode cX11_init 117 = .ok (.iconst 0, 1) := by decide +kernel
theorem dX11_init_118 : decode cX11_init 118 = .ok (.iconst 0, 1) := by decide +kernel
theorem dX11_init_119 : decode cX11_init 119 = .ok (.iconst 1, 1) := by decide +kernel
theorem dX11_init_120 : decode cX11_init 120 = .ok (.iconst 0, 1) := by decide +kernel
theorem dX11_init_121 : decode cX11_init 121 = .ok (.invokestatic 69, 3) := by decide +kernel
theorem dX11_init_124 : decode cX11_init 124 = .ok (.invokevirtual 73, 3) := by decide +kernel
theorem dX11_init_127 : decode cX11_init 127 = .ok (.aload_n 0, 1) := by decide +kernel
theorem dX11_init_128 : decode cX11_init 128 = .ok (.getfield 10, 3) := by decide +kernel
theorem dX11_init_131 : decode cX11_init 131 = .ok (.getfield 66, 3) := by decide +kernel
theorem dX11_init_134 : decode cX11_init 134 = .ok (.iconst 0, 1) := by decide +kernel
theorem dX11_init_135 : decode cX11_init 135 = .ok (.iconst 0, 1) := by decide +kernel
theorem dX11_init_136 : decode cX11_init 136 = .ok (.iconst 2, 1) := by decide +kernel
theorem dX11_init_137 : decode cX11_init 137 = .ok (.iconst 0, 1) := by decide +kernel
theorem dX11_init_138 : decode cX11_init 138 = .ok (.invokestatic 69, 3) := by decide +kernel
theorem dX11_init_141 : decode cX11_init 141 = .ok (.invokevirtual 73, 3) := by decide +kernel
theorem dX11_init_144 : decode cX11_init 144 = .ok (.aload_n 0, 1) := by decide +kernel
theorem dX11_init_145 : decode cX11_init 145 = .ok (.getfield 10, 3) := by decide +kernel
theorem dX11_init_148 : decode cX11_init 148 = .ok (.getfield 66, 3) := by decide +kernel
theorem dX11_init_151 : decode cX11_init 151 = .ok (.iconst 0, 1) := by decide +kernel
theorem dX11_init_152 : decode cX11_init 152 = .ok (.iconst 1, 1) := by decide +kernel
theorem dX11_init_153 : decode cX11_init 153 = .ok (.iconst 2, 1) := by decide +kernel
theorem dX11_init_154 : decode cX11_init 154 = .ok (.iconst 0, 1) := by decide +kernel
theorem dX11_init_155 : decode cX11_init 155 = .ok (.invokestatic 69, 3) := by decide +kernel
theorem dX11_init_158 : decode cX11_init 158 = .ok (.invokevirtual 73, 3) := by decide +kernel
theorem dX11_init_161 : decode cX11_init 161 = .ok (.aload_n 0, 1) := by decide +kernel
theorem dX11_init_162 : decode cX11_init 162 = .ok (.getfield 10, 3) := by decide +kernel
theorem dX11_init_165 : decode cX11_init 165 = .ok (.getfield 66, 3) := by decide +kernel
theorem dX11_init_168 : decode cX11_init 168 = .ok (.iconst 0, 1) := by decide +kernel
theorem dX11_init_169 : decode cX11_init 169 = .ok (.iconst 2, 1) := by decide +kernel
theorem dX11_init_170 : decode cX11_init 170 = .ok (.iconst 0, 1) := by decide +kernel
theorem dX11_init_171 : decode cX11_init 171 = .ok (.iconst 0, 1) := by decide +kernel
theorem dX11_init_172 : decode cX11_init 172 = .ok (.invokestatic 69, 3) := by decide +kernel
theorem dX11_init_175 : decode cX11_init 175 = .ok (.invokevirtual 73, 3) := by decide +kernel
theorem dX11_init_178 : decode cX11_init 178 = .ok (.aload_n 0, 1) := by decide +kernel
theorem dX11_init_179 : decode cX11_init 179 = .ok (.getfield 10, 3) := by decide +kernel
theorem dX11_init_182 : decode cX11_init 182 = .ok (.getfield 66, 3) := by decide +kernel
theorem dX11_init_185 : decode cX11_init 185 = .ok (.iconst 0, 1) := by decide +kernel
theorem dX11_init_186 : decode cX11_init 186 = .ok (.iconst 2, 1) := by decide +kernel
theorem dX11_init_187 : decode cX11_init 187 = .ok (.iconst 3, 1) := by decide +kernel
theorem dX11_init_188 : decode cX11_init 188 = .ok (.iconst 0, 1) := by decide +kernel
theorem dX11_init_189 : decode cX11_init 189 = .ok (.invokestatic 69, 3) := by decide +kernel
theorem dX11_init_192 : decode cX11_init 192 = .ok (.invokevirtual 73, 3) := by decide +kernel
theorem dX11_init_195 : decode cX11_init 195 = .ok (.aload_n 0, 1) := by decide +kernel
theorem dX11_init_196 : decode cX11_init 196 = .ok (.getfield 10, 3) := by decide +kernel
theorem dX11_init_199 : decode cX11_init 199 = .ok (.getfield 66, 3) := by decide +kernel
theorem dX11_init_202 : decode cX11_init 202 = .ok (.iconst 0, 1) := by decide +kernel
theorem dX11_init_203 : decode cX11_init 203 = .ok (.iconst 3, 1) := by decide +kernel
theorem dX11_init_204 : decode cX11_init 204 = .ok (.iconst 4, 1) := by decide +kernel
theorem dX11_init_205 : decode cX11_init 205 = .ok (.iconst 0, 1) := by decide +kernel
theorem dX11_init_206 : decode cX11_init 206 = .ok (.invokestatic 69, 3) := by decide +kernel
theorem dX11_init_209 : decode cX11_init 209 = .ok (.invokevirtual 73, 3) := by decide +kernel
theorem dX11_init_212 : decode cX11_init 212 = .ok (.aload_n 0, 1) := by decide +kernel
theorem dX11_init_213 : decode cX11_init 213 = .ok (.getfield 10, 3) := by decide +kernel
theorem dX11_init_216 : decode cX11_init 216 = .ok (.getfield 66, 3) := by decide +kernel
theorem dX11_init_219 : decode cX11_init 219 = .ok (.iconst 2, 1) := by decide +kernel
theorem dX11_init_220 : decode cX11_init 220 = .ok (.iconst 3, 1) := by decide +kernel
theorem dX11_init_221 : decode cX11_init 221 = .ok (.iconst 0, 1) := by decide +kernel
theorem dX11_init_222 : decode cX11_init 222 = .ok (.iconst 0, 1) := by decide +kernel
theorem dX11_init_223 : decode cX11_init 223 = .ok (.invokestatic 69, 3) := by decide +kernel
theorem dX11_init_226 : decode cX11_init 226 = .ok (.invokevirtual 73, 3) := by decide +kernel
theorem dX11_init_229 : decode cX11_init 229 = .ok (.aload_n 0, 1) := by decide +kernel
theorem dX11_init_230 : decode cX11_init 230 = .ok (.getfield 10, 3) := by decide +kernel
theorem dX11_init_233 : decode cX11_init 233 = .ok (.iconst 1, 1) := by decide +kernel
theorem dX11_init_234 : decode cX11_init 234 = .ok (.iconst 2, 1) := by decide +kernel
theorem dX11_init_235 : decode cX11_init 235 = .ok (.iconst 0, 1) := by decide +kernel
theorem dX11_init_236 : decode cX11_init 236 = .ok (.iconst 1, 1) := by decide +kernel
theorem dX11_init_237 : decode cX11_init 237 = .ok (.iconst 0, 1) := by decide +kernel
theorem dX11_init_238 : decode cX11_init 238 = .ok (.invokestatic 77, 3) := by decide +kernel
theorem dX11_init_241 : decode cX11_init 241 = .ok (.invokevirtual 83, 3) := by decide +kernel
theorem dX11_init_244 : decode cX11_init 244 = .ok (.aload_n 0, 1) := by decide +kernel
theorem dX11_init_245 : decode cX11_init 245 = .ok (.getfield 10, 3) := by decide +kernel
theorem dX11_init_248 : decode cX11_init 248 = .ok (.iconst 0, 1) := by decide +kernel
theorem dX11_init_249 : decode cX11_init 249 = .ok (.invokevirtual 86, 3) := by decide +kernel
theorem dX11_init_252 : decode cX11_init 252 = .ok (.iconst 0, 1) := by decide +kernel
theorem dX11_init_253 : decode cX11_init 253 = .ok (.iconst 2, 1) := by decide +kernel
theorem dX11_init_254 : decode cX11_init 254 = .ok (.iconst 0, 1) := by decide +kernel
theorem dX11_init_255 : decode cX11_init 255 = .ok (.iconst 1, 1) := by decide +kernel
theorem dX11_init_256 : decode cX11_init 256 = .ok (.iconst 0, 1) := by decide +kernel
theorem dX11_init_257 : decode cX11_init 257 = .ok (.invokestatic 77, 3) := by decide +kernel
theorem dX11_init_260 : decode cX11_init 260 = .ok (.invokevirtual 90, 3) := by decide +kernel
theorem dX11_init_263 : decode cX11_init 263 = .ok (.aload_n 0, 1) := by decide +kernel
theorem dX11_init_264 : decode cX11_init 264 = .ok (.getfield 10, 3) := by decide +kernel
theorem dX11_init_267 : decode cX11_init 267 = .ok (.iconst 1, 1) := by decide +kernel
theorem dX11_init_268 : decode cX11_init 268 = .ok (.iconst 2, 1) := by decide +kernel
theorem dX11_init_269 : decode cX11_init 269 = .ok (.iconst 0, 1) := by decide +kernel
theorem dX11_init_270 : decode cX11_init 270 = .ok (.iconst 2, 1) := by decide +kernel
theorem dX11_init_271 : decode cX11_init 271 = .ok (.iconst 0, 1) := by decide +kernel
theorem dX11_init_272 : decode cX11_init 272 = .ok (.invokestatic 77, 3) := by decide +kernel
theorem dX11_init_275 : decode cX11_init 275 = .ok (.invokevirtual 83, 3) := by decide +kernel
theorem dX11_init_278 : decode cX11_init 278 = .ok (.aload_n 0, 1) := by decide +kernel
theorem dX11_init_279 : decode cX11_init 279 = .ok (.getfield 10, 3) := by decide +kernel
theorem dX11_init_282 : decode cX11_init 282 = .ok (.iconst 1, 1) := by decide +kernel
theorem dX11_init_283 : decode cX11_init 283 = .ok (.invokevirtual 86, 3) := by decide +kernel
theorem dX11_init_286 : decode cX11_init 286 = .ok (.iconst 1, 1) := by decide +kernel
theorem dX11_init_287 : decode cX11_init 287 = .ok (.iconst 2, 1) := by decide +kernel
theorem dX11_init_288 : decode cX11_init 288 = .ok (.iconst 0, 1) := by decide +kernel
theorem dX11_init_289 : decode cX11_init 289 = .ok (.iconst 1, 1) := by decide +kernel
theorem dX11_init_290 : decode cX11_init 290 = .ok (.iconst 0, 1) := by decide +kernel
theorem dX11_init_291 : decode cX11_init 291 = .ok (.invokestatic 77, 3) := by decide +kernel
theorem dX11_init_294 : decode cX11_init 294 = .ok (.invokevirtual 90, 3) := by decide +kernel
theorem dX11_init_297 : decode cX11_init 297 = .ok (.aload_n 0, 1) := by decide +kernel
theorem dX11_init_298 : decode cX11_init 298 = .ok (.getfield 10, 3) := by decide +kernel
theorem dX11_init_301 : decode cX11_init 301 = .ok (.iconst 1, 1) := by decide +kernel
theorem dX11_init_302 : decode cX11_init 302 = .ok (.invokevirtual 86, 3) := by decide +kernel
theorem dX11_init_305 : decode cX11_init 305 = .ok (.iconst 0, 1) := by decide +kernel
theorem dX11_init_306 : decode cX11_init 306 = .ok (.iconst 2, 1) := by decide +kernel
theorem dX11_init_307 : decode cX11_init 307 = .ok (.iconst 1, 1) := by decide +kernel
theorem dX11_init_308 : decode cX11_init 308 = .ok (.iconst 2, 1) := by decide +kernel
theorem dX11_init_309 : decode cX11_init 309 = .ok (.iconst 0, 1) := by decide +kernel
theorem dX11_init_310 : decode cX11_init 310 = .ok (.invokestatic 77, 3) := by decide +kernel
theorem dX11_init_313 : decode cX11_init 313 = .ok (.invokevirtual 90, 3) := by decide +kernel
theorem dX11_init_316 : decode cX11_init 316 = .ok (.aload_n 0, 1) := by decide +kernel
theorem dX11_init_317 : decode cX11_init 317 = .ok (.getfield 10, 3) := by decide +kernel
theorem dX11_init_320 : decode cX11_init 320 = .ok (.iconst 0, 1) := by decide +kernel
theorem dX11_init_321 : decode cX11_init 321 = .ok (.invokevirtual 94, 3) := by decide +kernel
theorem dX11_init_324 : decode cX11_init 324 = .ok (.iconst 0, 1) := by decide +kernel
theorem dX11_init_325 : decode cX11_init 325 = .ok (.iconst 2, 1) := by decide +kernel
theorem dX11_init_326 : decode cX11_init 326 = .ok (.iconst 0, 1) := by decide +kernel
theorem dX11_init_327 : decode cX11_init 327 = .ok (.iconst 1, 1) := by decide +kernel
theorem dX11_init_328 : decode cX11_init 328 = .ok (.iconst 0, 1) := by decide +kernel
theorem dX11_init_329 : decode cX11_init 329 = .ok (.invokestatic 77, 3) := by decide +kernel
theorem dX11_init_332 : decode cX11_init 332 = .ok (.invokevirtual 90, 3) := by decide +kernel
theorem dX11_init_335 : decode cX11_init 335 = .ok (.aload_n 0, 1) := by decide +kernel
theorem dX11_init_336 : decode cX11_init 336 = .ok (.getfield 10, 3) := by decide +kernel
theorem dX11_init_339 : decode cX11_init 339 = .ok (.iconst 0, 1) := by decide +kernel
theorem dX11_init_340 : decode cX11_init 340 = .ok (.invokevirtual 94, 3) := by decide +kernel
theorem dX11_init_343 : decode cX11_init 343 = .ok (.iconst 0, 1) := by decide +kernel
theorem dX11_init_344 : decode cX11_init 344 = .ok (.iconst 2, 1) := by decide +kernel
theorem dX11_init_345 : decode cX11_init 345 = .ok (.iconst 1, 1) := by decide +kernel
theorem dX11_init_346 : decode cX11_init 346 = .ok (.iconst 2, 1) := by decide +kernel
theorem dX11_init_347 : decode cX11_init 347 = .ok (.iconst 0, 1) := by decide +kernel
theorem dX11_init_348 : decode cX11_init 348 = .ok (.invokestatic 77, 3) := by decide +kernel
theorem dX11_init_351 : decode cX11_init 351 = .ok (.invokevirtual 90, 3) := by decide +kernel
theorem dX11_init_354 : decode cX11_init 354 = .ok (.aload_n 0, 1) := by decide +kernel
theorem dX11_init_355 : decode cX11_init 355 = .ok (.getfield 10, 3) := by decide +kernel
theorem dX11_init_358 : decode cX11_init 358 = .ok (.iconst 0, 1) := by decide +kernel
theorem dX11_init_359 : decode cX11_init 359 = .ok (.invokevirtual 94, 3) := by decide +kernel
theorem dX11_init_362 : decode cX11_init 362 = .ok (.iconst 0, 1) := by decide +kernel
theorem dX11_init_363 : decode cX11_init 363 = .ok (.iconst 2, 1) := by decide +kernel
theorem dX11_init_364 : decode cX11_init 364 = .ok (.iconst 2, 1) := by decide +kernel
theorem dX11_init_365 : decode cX11_init 365 = .ok (.iconst 0, 1) := by decide +kernel
theorem dX11_init_366 : decode cX11_init 366 = .ok (.iconst 0, 1) := by decide +kernel
theorem dX11_init_367 : decode cX11_init 367 = .ok (.invokestatic 77, 3) := by decide +kernel
theorem dX11_init_370 : decode cX11_init 370 = .ok (.invokevirtual 90, 3) := by decide +kernel
theorem dX11_init_373 : decode cX11_init 373 = .ok (.aload_n 0, 1) := by decide +kernel
theorem dX11_init_374 : decode cX11_init 374 = .ok (.getfield 10, 3) := by decide +kernel
theorem dX11_init_377 : decode cX11_init 377 = .ok (.iconst 1, 1) := by decide +kernel
theorem dX11_init_378 : decode cX11_init 378 = .ok (.invokevirtual 94, 3) := by decide +kernel
theorem dX11_init_381 : decode cX11_init 381 = .ok (.iconst 1, 1) := by decide +kernel
theorem dX11_init_382 : decode cX11_init 382 = .ok (.iconst 2, 1) := by decide +kernel
theorem dX11_init_383 : decode cX11_init 383 = .ok (.iconst 0, 1) := by decide +kernel
theorem dX11_init_384 : decode cX11_init 384 = .ok (.iconst 1, 1) := by decide +kernel
theorem dX11_init_385 : decode cX11_init 385 = .ok (.iconst 0, 1) := by decide +kernel
theorem dX11_init_386 : decode cX11_init 386 = .ok (.invokestatic 77, 3) := by decide +kernel
theorem dX11_init_389 : decode cX11_init 389 = .ok (.invokevirtual 90, 3) := by decide +kernel
theorem dX11_init_392 : decode cX11_init 392 = .ok (.aload_n 0, 1) := by decide +kernel
theorem dX11_init_393 : decode cX11_init 393 = .ok (.getfield 10, 3) := by decide +kernel
theorem dX11_init_396 : decode cX11_init 396 = .ok (.iconst 1, 1) := by decide +kernel
theorem dX11_init_397 : decode cX11_init 397 = .ok (.invokevirtual 94, 3) := by decide +kernel
theorem dX11_init_400 : decode cX11_init 400 = .ok (.iconst 2, 1) := by decide +kernel
theorem dX11_init_401 : decode cX11_init 401 = .ok (.iconst 1, 1) := by decide +kernel
theorem dX11_init_402 : decode cX11_init 402 = .ok (.iconst 1, 1) := by decide +kernel
theorem dX11_init_403 : decode cX11_init 403 = .ok (.iconst 0, 1) := by decide +kernel
theorem dX11_init_404 : decode cX11_init 404 = .ok (.iconst 0, 1) := by decide +kernel
theorem dX11_init_405 : decode cX11_init 405 = .ok (.invokestatic 77, 3) := by decide +kernel
theorem dX11_init_408 : decode cX11_init 408 = .ok (.invokevirtual 90, 3) := by decide +kernel
theorem dX11_init_411 : decode cX11_init 411 = .ok (.return_, 1) := by decide +kernel
theorem dX11_addTable_0 : decode cX11_addTable 0 = .ok (.iload_n 1, 1) := by decide +kernel
theorem dX11_addTable_1 : decode cX11_addTable 1 = .ok (.iconst 1, 1) := by decide +kernel
theorem dX11_addTable_2 : decode cX11_addTable 2 = .ok (.if_icmp .lt 8, 3) := by decide +kernel
theorem dX11_addTable_5 : decode cX11_addTable 5 = .ok (.iload_n 1, 1) := by decide +kernel
theorem dX11_addTable_6 : decode cX11_addTable 6 = .ok (.iconst 3, 1) := by decide +kernel
theorem dX11_addTable_7 : decode cX11_addTable 7 = .ok (.if_icmp .le 13, 3) := by decide +kernel
theorem dX11_addTable_10 : decode cX11_addTable 10 = .ok (.new 97, 3) := by decide +kernel
theorem dX11_addTable_13 : decode cX11_addTable 13 = .ok (.dup, 1) := by decide +kernel
theorem dX11_addTable_14 : decode cX11_addTable 14 = .ok (.ldc 99, 2) := by decide +kernel
theorem dX11_addTable_16 : decode cX11_addTable 16 = .ok (.invokespecial 101, 3) := by decide +kernel
theorem dX11_addTable_19 : decode cX11_addTable 19 = .ok (.athrow, 1) := by decide +kernel
theorem dX11_addTable_20 : decode cX11_addTable 20 = .ok (.aload_n 0, 1) := by decide +kernel
theorem dX11_addTable_21 : decode cX11_addTable 21 = .ok (.getfield 10, 3) := by decide +kernel
theorem dX11_addTable_24 : decode cX11_addTable 24 = .ok (.getfield 104, 3) := by decide +kernel
theorem dX11_addTable_27 : decode cX11_addTable 27 = .ok (.iconst 5, 1) := by decide +kernel
theorem dX11_addTable_28 : decode cX11_addTable 28 = .ok (.if_icmp .lt 13, 3) := by decide +kernel
theorem dX11_addTable_31 : decode cX11_addTable 31 = .ok (.new 107, 3) := by decide +kernel
theorem dX11_addTable_34 : decode cX11_addTable 34 = .ok (.dup, 1) := by decide +kernel
theorem dX11_addTable_35 : decode cX11_addTable 35 = .ok (.ldc 109, 2) := by decide +kernel
theorem dX11_addTable_37 : decode cX11_addTable 37 = .ok (.invokespecial 111, 3) := by decide +kernel
theorem dX11_addTable_40 : decode cX11_addTable 40 = .ok (.athrow, 1) := by decide +kernel
theorem dX11_addTable_41 : decode cX11_addTable 41 = .ok (.aload_n 0, 1) := by decide +kernel
theorem dX11_addTable_42 : decode cX11_addTable 42 = .ok (.invokevirtual 112, 3) := by decide +kernel
theorem dX11_addTable_45 : decode cX11_addTable 45 = .ok (.aload_n 0, 1) := by decide +kernel
theorem dX11_addTable_46 : decode cX11_addTable 46 = .ok (.getfield 26, 3) := by decide +kernel
theorem dX11_addTable_49 : decode cX11_addTable 49 = .ok (.invokevirtual 115, 3) := by decide +kernel
theorem dX11_addTable_52 : decode cX11_addTable 52 = .ok (.aload_n 0, 1) := by decide +kernel
theorem dX11_addTable_53 : decode cX11_addTable 53 = .ok (.getfield 10, 3) := by decide +kernel
theorem dX11_addTable_56 : decode cX11_addTable 56 = .ok (.iload_n 1, 1) := by decide +kernel
theorem dX11_addTable_57 : decode cX11_addTable 57 = .ok (.invokevirtual 62, 3) := by decide +kernel
theorem dX11_addTable_60 : decode cX11_addTable 60 = .ok (.aload_n 0, 1) := by decide +kernel
theorem dX11_addTable_61 : decode cX11_addTable 61 = .ok (.getfield 10, 3) := by decide +kernel
theorem dX11_addTable_64 : decode cX11_addTable 64 = .ok (.getfield 104, 3) := by decide +kernel
theorem dX11_addTable_67 : decode cX11_addTable 67 = .ok (.iconst 1, 1) := by decide +kernel
theorem dX11_addTable_68 : decode cX11_addTable 68 = .ok (.isub, 1) := by decide +kernel
theorem dX11_addTable_69 : decode cX11_addTable 69 = .ok (.ireturn, 1) := by decide +kernel
theorem dX11_addFact_0 : decode cX11_addFact 0 = .ok (.aload_n 0, 1) := by decide +kernel
theorem dX11_addFact_1 : decode cX11_addFact 1 = .ok (.iload_n 1, 1) := by decide +kernel
theorem dX11_addFact_2 : decode cX11_addFact 2 = .ok (.invokevirtual 118, 3) := by decide +kernel
theorem dX11_addFact_5 : decode cX11_addFact 5 = .ok (.aload_n 0, 1) := by decide +kernel
theorem dX11_addFact_6 : decode cX11_addFact 6 = .ok (.iload_n 1, 1) := by decide +kernel
theorem dX11_addFact_7 : decode cX11_addFact 7 = .ok (.iload_n 2, 1) := by decide +kernel
theorem dX11_addFact_8 : decode cX11_addFact 8 = .ok (.iload_n 3, 1) := by decide +kernel
theorem dX11_addFact_9 : decode cX11_addFact 9 = .ok (.iload 4, 2) := by decide +kernel
theorem dX11_addFact_11 : decode cX11_addFact 11 = .ok (.invokevirtual 121, 3) := by decide +kernel
theorem dX11_addFact_14 : decode cX11_addFact 14 = .ok (.iload_n 2, 1) := by decide +kernel
theorem dX11_addFact_15 : decode cX11_addFact 15 = .ok (.iload_n 3, 1) := by decide +kernel
theorem dX11_addFact_16 : decode cX11_addFact 16 = .ok (.iload 4, 2) := by decide +kernel
theorem dX11_addFact_18 : decode cX11_addFact 18 = .ok (.invokestatic 69, 3) := by decide +kernel
theorem dX11_addFact_21 : decode cX11_addFact 21 = .ok (.istore 5, 2) := by decide +kernel
theorem dX11_addFact_23 : decode cX11_addFact 23 = .ok (.aload_n 0, 1) := by decide +kernel
theorem dX11_addFact_24 : decode cX11_addFact 24 = .ok (.getfield 10, 3) := by decide +kernel
theorem dX11_addFact_27 : decode cX11_addFact 27 = .ok (.getfield 66, 3) := by decide +kernel
theorem dX11_addFact_30 : decode cX11_addFact 30 = .ok (.iload_n 1, 1) := by decide +kernel
theorem dX11_addFact_31 : decode cX11_addFact 31 = .ok (.iload 5, 2) := by decide +kernel
theorem dX11_addFact_33 : decode cX11_addFact 33 = .ok (.invokevirtual 125, 3) := by decide +kernel
theorem dX11_addFact_36 : decode cX11_addFact 36 = .ok (.ifCond .eq 13, 3) := by decide +kernel
theorem dX11_addFact_39 : decode cX11_addFact 39 = .ok (.new 107, 3) := by decide +kernel
theorem dX11_addFact_42 : decode cX11_addFact 42 = .ok (.dup, 1) := by decide +kernel
theorem dX11_addFact_43 : decode cX11_addFact 43 = .ok (.ldc 129, 2) := by decide +kernel
theorem dX11_addFact_45 : decode cX11_addFact 45 = .ok (.invokespecial 111, 3) := by decide +kernel
theorem dX11_addFact_48 : decode cX11_addFact 48 = .ok (.athrow, 1) := by decide +kernel
theorem dX11_addFact_49 : decode cX11_addFact 49 = .ok (.aload_n 0, 1) := by decide +kernel
theorem dX11_addFact_50 : decode cX11_addFact 50 = .ok (.getfield 10, 3) := by decide +kernel
theorem dX11_addFact_53 : decode cX11_addFact 53 = .ok (.getfield 66, 3) := by decide +kernel
theorem dX11_addFact_56 : decode cX11_addFact 56 = .ok (.iload_n 1, 1) := by decide +kernel
theorem dX11_addFact_57 : decode cX11_addFact 57 = .ok (.invokevirtual 131, 3) := by decide +kernel
theorem dX11_addFact_60 : decode cX11_addFact 60 = .ok (.bipush 60, 2) := by decide +kernel
theorem dX11_addFact_62 : decode cX11_addFact 62 = .ok (.if_icmp .lt 13, 3) := by decide +kernel
theorem dX11_addFact_65 : decode cX11_addFact 65 = .ok (.new 107, 3) := by decide +kernel
theorem dX11_addFact_68 : decode cX11_addFact 68 = .ok (.dup, 1) := by decide +kernel
theorem dX11_addFact_69 : decode cX11_addFact 69 = .ok (.ldc 135, 2) := by decide +kernel
theorem dX11_addFact_71 : decode cX11_addFact 71 = .ok (.invokespecial 111, 3) := by decide +kernel
theorem dX11_addFact_74 : decode cX11_addFact 74 = .ok (.athrow, 1) := by decide +kernel
theorem dX11_addFact_75 : decode cX11_addFact 75 = .ok (.aload_n 0, 1) := by decide +kernel
theorem dX11_addFact_76 : decode cX11_addFact 76 = .ok (.invokevirtual 112, 3) := by decide +kernel
theorem dX11_addFact_79 : decode cX11_addFact 79 = .ok (.aload_n 0, 1) := by decide +kernel
theorem dX11_addFact_80 : decode cX11_addFact 80 = .ok (.getfield 26, 3) := by decide +kernel
theorem dX11_addFact_83 : decode cX11_addFact 83 = .ok (.invokevirtual 115, 3) := by decide +kernel
theorem dX11_addFact_86 : decode cX11_addFact 86 = .ok (.aload_n 0, 1) := by decide +kernel
theorem dX11_addFact_87 : decode cX11_addFact 87 = .ok (.getfield 10, 3) := by decide +kernel
theorem dX11_addFact_90 : decode cX11_addFact 90 = .ok (.getfield 66, 3) := by decide +kernel
theorem dX11_addFact_93 : decode cX11_addFact 93 = .ok (.iload_n 1, 1) := by decide +kernel
theorem dX11_addFact_94 : decode cX11_addFact 94 = .ok (.iload 5, 2) := by decide +kernel
theorem dX11_addFact_96 : decode cX11_addFact 96 = .ok (.invokevirtual 73, 3) := by decide +kernel
theorem dX11_addFact_99 : decode cX11_addFact 99 = .ok (.aload_n 0, 1) := by decide +kernel
theorem dX11_addFact_100 : decode cX11_addFact 100 = .ok (.getfield 10, 3) := by decide +kernel
theorem dX11_addFact_103 : decode cX11_addFact 103 = .ok (.getfield 66, 3) := by decide +kernel
theorem dX11_addFact_106 : decode cX11_addFact 106 = .ok (.iload_n 1, 1) := by decide +kernel
theorem dX11_addFact_107 : decode cX11_addFact 107 = .ok (.invokevirtual 131, 3) := by decide +kernel
theorem dX11_addFact_110 : decode cX11_addFact 110 = .ok (.ireturn, 1) := by decide +kernel
theorem dX11_removeFact_0 : decode cX11_removeFact 0 = .ok (.aload_n 0, 1) := by decide +kernel
theorem dX11_removeFact_1 : decode cX11_removeFact 1 = .ok (.iload_n 1, 1) := by decide +kernel
theorem dX11_removeFact_2 : decode cX11_removeFact 2 = .ok (.invokevirtual 118, 3) := by decide +kernel
theorem dX11_removeFact_5 : decode cX11_removeFact 5 = .ok (.aload_n 0, 1) := by decide +kernel
theorem dX11_removeFact_6 : decode cX11_removeFact 6 = .ok (.iload_n 1, 1) := by decide +kernel
theorem dX11_removeFact_7 : decode cX11_removeFact 7 = .ok (.iload_n 2, 1) := by decide +kernel
theorem dX11_removeFact_8 : decode cX11_removeFact 8 = .ok (.iload_n 3, 1) := by decide +kernel
theorem dX11_removeFact_9 : decode cX11_removeFact 9 = .ok (.iload 4, 2) := by decide +kernel
theorem dX11_removeFact_11 : decode cX11_removeFact 11 = .ok (.invokevirtual 121, 3) := by decide +kernel
theorem dX11_removeFact_14 : decode cX11_removeFact 14 = .ok (.iload_n 2, 1) := by decide +kernel
theorem dX11_removeFact_15 : decode cX11_removeFact 15 = .ok (.iload_n 3, 1) := by decide +kernel
theorem dX11_removeFact_16 : decode cX11_removeFact 16 = .ok (.iload 4, 2) := by decide +kernel
theorem dX11_removeFact_18 : decode cX11_removeFact 18 = .ok (.invokestatic 69, 3) := by decide +kernel
theorem dX11_removeFact_21 : decode cX11_removeFact 21 = .ok (.istore 5, 2) := by decide +kernel
theorem dX11_removeFact_23 : decode cX11_removeFact 23 = .ok (.aload_n 0, 1) := by decide +kernel
theorem dX11_removeFact_24 : decode cX11_removeFact 24 = .ok (.getfield 10, 3) := by decide +kernel
theorem dX11_removeFact_27 : decode cX11_removeFact 27 = .ok (.getfield 66, 3) := by decide +kernel
theorem dX11_removeFact_30 : decode cX11_removeFact 30 = .ok (.iload_n 1, 1) := by decide +kernel
theorem dX11_removeFact_31 : decode cX11_removeFact 31 = .ok (.iload 5, 2) := by decide +kernel
theorem dX11_removeFact_33 : decode cX11_removeFact 33 = .ok (.invokevirtual 125, 3) := by decide +kernel
theorem dX11_removeFact_36 : decode cX11_removeFact 36 = .ok (.ifCond .ne 13, 3) := by decide +kernel
theorem dX11_removeFact_39 : decode cX11_removeFact 39 = .ok (.new 137, 3) := by decide +kernel
theorem dX11_removeFact_42 : decode cX11_removeFact 42 = .ok (.dup, 1) := by decide +kernel
theorem dX11_removeFact_43 : decode cX11_removeFact 43 = .ok (.ldc 139, 2) := by decide +kernel
theorem dX11_removeFact_45 : decode cX11_removeFact 45 = .ok (.invokespecial 141, 3) := by decide +kernel
theorem dX11_removeFact_48 : decode cX11_removeFact 48 = .ok (.athrow, 1) := by decide +kernel
theorem dX11_removeFact_49 : decode cX11_removeFact 49 = .ok (.aload_n 0, 1) := by decide +kernel
theorem dX11_removeFact_50 : decode cX11_removeFact 50 = .ok (.invokevirtual 112, 3) := by decide +kernel
theorem dX11_removeFact_53 : decode cX11_removeFact 53 = .ok (.aload_n 0, 1) := by decide +kernel
theorem dX11_removeFact_54 : decode cX11_removeFact 54 = .ok (.getfield 26, 3) := by decide +kernel
theorem dX11_removeFact_57 : decode cX11_removeFact 57 = .ok (.invokevirtual 115, 3) := by decide +kernel
theorem dX11_removeFact_60 : decode cX11_removeFact 60 = .ok (.aload_n 0, 1) := by decide +kernel
theorem dX11_removeFact_61 : decode cX11_removeFact 61 = .ok (.getfield 10, 3) := by decide +kernel
theorem dX11_removeFact_64 : decode cX11_removeFact 64 = .ok (.getfield 66, 3) := by decide +kernel
theorem dX11_removeFact_67 : decode cX11_removeFact 67 = .ok (.iload_n 1, 1) := by decide +kernel
theorem dX11_removeFact_68 : decode cX11_removeFact 68 = .ok (.iload 5, 2) := by decide +kernel
theorem dX11_removeFact_70 : decode cX11_removeFact 70 = .ok (.invokevirtual 142, 3) := by decide +kernel
theorem dX11_removeFact_73 : decode cX11_removeFact 73 = .ok (.aload_n 0, 1) := by decide +kernel
theorem dX11_removeFact_74 : decode cX11_removeFact 74 = .ok (.getfield 10, 3) := by decide +kernel
theorem dX11_removeFact_77 : decode cX11_removeFact 77 = .ok (.getfield 66, 3) := by decide +kernel
theorem dX11_removeFact_80 : decode cX11_removeFact 80 = .ok (.iload_n 1, 1) := by decide +kernel
theorem dX11_removeFact_81 : decode cX11_removeFact 81 = .ok (.invokevirtual 131, 3) := by decide +kernel
theorem dX11_removeFact_84 : decode cX11_removeFact 84 = .ok (.ireturn, 1) := by decide +kernel
theorem dX11_addAtom_0 : decode cX11_addAtom 0 = .ok (.aload_n 0, 1) := by decide +kernel
theorem dX11_addAtom_1 : decode cX11_addAtom 1 = .ok (.iload_n 1, 1) := by decide +kernel
theorem dX11_addAtom_2 : decode cX11_addAtom 2 = .ok (.invokevirtual 145, 3) := by decide +kernel
theorem dX11_addAtom_5 : decode cX11_addAtom 5 = .ok (.aload_n 0, 1) := by decide +kernel
theorem dX11_addAtom_6 : decode cX11_addAtom 6 = .ok (.iload_n 2, 1) := by decide +kernel
theorem dX11_addAtom_7 : decode cX11_addAtom 7 = .ok (.invokevirtual 118, 3) := by decide +kernel
theorem dX11_addAtom_10 : decode cX11_addAtom 10 = .ok (.aload_n 0, 1) := by decide +kernel
theorem dX11_addAtom_11 : decode cX11_addAtom 11 = .ok (.iload_n 2, 1) := by decide +kernel
theorem dX11_addAtom_12 : decode cX11_addAtom 12 = .ok (.iload_n 3, 1) := by decide +kernel
theorem dX11_addAtom_13 : decode cX11_addAtom 13 = .ok (.iload 4, 2) := by decide +kernel
theorem dX11_addAtom_15 : decode cX11_addAtom 15 = .ok (.iload 5, 2) := by decide +kernel
theorem dX11_addAtom_17 : decode cX11_addAtom 17 = .ok (.invokevirtual 148, 3) := by decide +kernel
theorem dX11_addAtom_20 : decode cX11_addAtom 20 = .ok (.aload_n 0, 1) := by decide +kernel
theorem dX11_addAtom_21 : decode cX11_addAtom 21 = .ok (.getfield 10, 3) := by decide +kernel
theorem dX11_addAtom_24 : decode cX11_addAtom 24 = .ok (.iload_n 1, 1) := by decide +kernel
theorem dX11_addAtom_25 : decode cX11_addAtom 25 = .ok (.invokevirtual 94, 3) := by decide +kernel
theorem dX11_addAtom_28 : decode cX11_addAtom 28 = .ok (.astore 6, 2) := by decide +kernel
theorem dX11_addAtom_30 : decode cX11_addAtom 30 = .ok (.aload 6, 2) := by decide +kernel
theorem dX11_addAtom_32 : decode cX11_addAtom 32 = .ok (.getfield 151, 3) := by decide +kernel
theorem dX11_addAtom_35 : decode cX11_addAtom 35 = .ok (.iconst 5, 1) := by decide +kernel
theorem dX11_addAtom_36 : decode cX11_addAtom 36 = .ok (.if_icmp .lt 13, 3) := by decide +kernel
theorem dX11_addAtom_39 : decode cX11_addAtom 39 = .ok (.new 107, 3) := by decide +kernel
theorem dX11_addAtom_42 : decode cX11_addAtom 42 = .ok (.dup, 1) := by decide +kernel
theorem dX11_addAtom_43 : decode cX11_addAtom 43 = .ok (.ldc 153, 2) := by decide +kernel
theorem dX11_addAtom_45 : decode cX11_addAtom 45 = .ok (.invokespecial 111, 3) := by decide +kernel
theorem dX11_addAtom_48 : decode cX11_addAtom 48 = .ok (.athrow, 1) := by decide +kernel
theorem dX11_addAtom_49 : decode cX11_addAtom 49 = .ok (.aload_n 0, 1) := by decide +kernel
theorem dX11_addAtom_50 : decode cX11_addAtom 50 = .ok (.invokevirtual 112, 3) := by decide +kernel
theorem dX11_addAtom_53 : decode cX11_addAtom 53 = .ok (.aload 6, 2) := by decide +kernel
theorem dX11_addAtom_55 : decode cX11_addAtom 55 = .ok (.iload_n 2, 1) := by decide +kernel
theorem dX11_addAtom_56 : decode cX11_addAtom 56 = .ok (.aload_n 0, 1) := by decide +kernel
theorem dX11_addAtom_57 : decode cX11_addAtom 57 = .ok (.getfield 10, 3) := by decide +kernel
theorem dX11_addAtom_60 : decode cX11_addAtom 60 = .ok (.getfield 155, 3) := by decide +kernel
theorem dX11_addAtom_63 : decode cX11_addAtom 63 = .ok (.iload_n 2, 1) := by decide +kernel
