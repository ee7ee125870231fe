theorem dX12_product_63 : decode cX12_product 63 = .ok (.goto 7, 3) := by decide +kernel
theorem dX12_product_66 : decode cX12_product 66 = .ok (.lload_n 3, 1) := by decide +kernel
theorem dX12_product_67 : decode cX12_product 67 = .ok (.lload 6, 2) := by decide +kernel
theorem dX12_product_69 : decode cX12_product 69 = .ok (.lmul, 1) := by decide +kernel
theorem dX12_product_70 : decode cX12_product 70 = .ok (.lstore_n 3, 1) := by decide +kernel
theorem dX12_product_71 : decode cX12_product 71 = .ok (.iinc 8 (-1), 3) := by decide +kernel
theorem dX12_product_74 : decode cX12_product 74 = .ok (.goto (-37), 3) := by decide +kernel
theorem dX12_product_77 : decode cX12_product 77 = .ok (.lload 6, 2) := by decide +kernel
theorem dX12_product_79 : decode cX12_product 79 = .ok (.lconst 0, 1) := by decide +kernel
theorem dX12_product_80 : decode cX12_product 80 = .ok (.lcmp, 1) := by decide +kernel
theorem dX12_product_81 : decode cX12_product 81 = .ok (.ifCond .ne 14, 3) := by decide +kernel
theorem dX12_product_84 : decode cX12_product 84 = .ok (.iload_n 2, 1) := by decide +kernel
theorem dX12_product_85 : decode cX12_product 85 = .ok (.iload 5, 2) := by decide +kernel
theorem dX12_product_87 : decode cX12_product 87 = .ok (.invokestatic 204, 3) := by decide +kernel
theorem dX12_product_90 : decode cX12_product 90 = .ok (.ifCond .le 5, 3) := by decide +kernel
theorem dX12_product_93 : decode cX12_product 93 = .ok (.lconst 0, 1) := by decide +kernel
theorem dX12_product_94 : decode cX12_product 94 = .ok (.lreturn, 1) := by decide +kernel
theorem dX12_product_95 : decode cX12_product 95 = .ok (.iinc 5 1, 3) := by decide +kernel
theorem dX12_product_98 : decode cX12_product 98 = .ok (.goto (-93), 3) := by decide +kernel
theorem dX12_product_101 : decode cX12_product 101 = .ok (.lload_n 3, 1) := by decide +kernel
theorem dX12_product_102 : decode cX12_product 102 = .ok (.lreturn, 1) := by decide +kernel
theorem dX12_addTable_0 : decode cX12_addTable 0 = .ok (.aload_n 0, 1) := by decide +kernel
theorem dX12_addTable_1 : decode cX12_addTable 1 = .ok (.iconst 0, 1) := by decide +kernel
theorem dX12_addTable_2 : decode cX12_addTable 2 = .ok (.putfield 60, 3) := by decide +kernel
theorem dX12_addTable_5 : decode cX12_addTable 5 = .ok (.iload_n 1, 1) := by decide +kernel
theorem dX12_addTable_6 : decode cX12_addTable 6 = .ok (.iconst 1, 1) := by decide +kernel
theorem dX12_addTable_7 : decode cX12_addTable 7 = .ok (.iconst 3, 1) := by decide +kernel
theorem dX12_addTable_8 : decode cX12_addTable 8 = .ok (.invokestatic 64, 3) := by decide +kernel
theorem dX12_addTable_11 : decode cX12_addTable 11 = .ok (.ifCond .ne 9, 3) := by decide +kernel
theorem dX12_addTable_14 : decode cX12_addTable 14 = .ok (.aload_n 0, 1) := by decide +kernel
theorem dX12_addTable_15 : decode cX12_addTable 15 = .ok (.iconst 1, 1) := by decide +kernel
theorem dX12_addTable_16 : decode cX12_addTable 16 = .ok (.invokevirtual 214, 3) := by decide +kernel
theorem dX12_addTable_19 : decode cX12_addTable 19 = .ok (.ireturn, 1) := by decide +kernel
theorem dX12_addTable_20 : decode cX12_addTable 20 = .ok (.aload_n 0, 1) := by decide +kernel
theorem dX12_addTable_21 : decode cX12_addTable 21 = .ok (.getfield 9, 3) := by decide +kernel
theorem dX12_addTable_24 : decode cX12_addTable 24 = .ok (.iconst 0, 1) := by decide +kernel
theorem dX12_addTable_25 : decode cX12_addTable 25 = .ok (.iaload, 1) := by decide +kernel
theorem dX12_addTable_26 : decode cX12_addTable 26 = .ok (.iconst 5, 1) := by decide +kernel
theorem dX12_addTable_27 : decode cX12_addTable 27 = .ok (.if_icmp .ne 9, 3) := by decide +kernel
theorem dX12_addTable_30 : decode cX12_addTable 30 = .ok (.aload_n 0, 1) := by decide +kernel
theorem dX12_addTable_31 : decode cX12_addTable 31 = .ok (.iconst 2, 1) := by decide +kernel
theorem dX12_addTable_32 : decode cX12_addTable 32 = .ok (.invokevirtual 214, 3) := by decide +kernel
theorem dX12_addTable_35 : decode cX12_addTable 35 = .ok (.ireturn, 1) := by decide +kernel
theorem dX12_addTable_36 : decode cX12_addTable 36 = .ok (.aload_n 0, 1) := by decide +kernel
theorem dX12_addTable_37 : decode cX12_addTable 37 = .ok (.invokevirtual 217, 3) := by decide +kernel
theorem dX12_addTable_40 : decode cX12_addTable 40 = .ok (.aload_n 0, 1) := by decide +kernel
theorem dX12_addTable_41 : decode cX12_addTable 41 = .ok (.getfield 9, 3) := by decide +kernel
theorem dX12_addTable_44 : decode cX12_addTable 44 = .ok (.iconst 1, 1) := by decide +kernel
theorem dX12_addTable_45 : decode cX12_addTable 45 = .ok (.aload_n 0, 1) := by decide +kernel
theorem dX12_addTable_46 : decode cX12_addTable 46 = .ok (.getfield 9, 3) := by decide +kernel
theorem dX12_addTable_49 : decode cX12_addTable 49 = .ok (.iconst 0, 1) := by decide +kernel
theorem dX12_addTable_50 : decode cX12_addTable 50 = .ok (.iaload, 1) := by decide +kernel
theorem dX12_addTable_51 : decode cX12_addTable 51 = .ok (.iadd, 1) := by decide +kernel
theorem dX12_addTable_52 : decode cX12_addTable 52 = .ok (.iload_n 1, 1) := by decide +kernel
theorem dX12_addTable_53 : decode cX12_addTable 53 = .ok (.iastore, 1) := by decide +kernel
theorem dX12_addTable_54 : decode cX12_addTable 54 = .ok (.aload_n 0, 1) := by decide +kernel
theorem dX12_addTable_55 : decode cX12_addTable 55 = .ok (.getfield 9, 3) := by decide +kernel
theorem dX12_addTable_58 : decode cX12_addTable 58 = .ok (.iconst 0, 1) := by decide +kernel
theorem dX12_addTable_59 : decode cX12_addTable 59 = .ok (.dup2, 1) := by decide +kernel
theorem dX12_addTable_60 : decode cX12_addTable 60 = .ok (.iaload, 1) := by decide +kernel
theorem dX12_addTable_61 : decode cX12_addTable 61 = .ok (.iconst 1, 1) := by decide +kernel
theorem dX12_addTable_62 : decode cX12_addTable 62 = .ok (.iadd, 1) := by decide +kernel
theorem dX12_addTable_63 : decode cX12_addTable 63 = .ok (.iastore, 1) := by decide +kernel
theorem dX12_addTable_64 : decode cX12_addTable 64 = .ok (.aload_n 0, 1) := by decide +kernel
theorem dX12_addTable_65 : decode cX12_addTable 65 = .ok (.invokevirtual 57, 3) := by decide +kernel
theorem dX12_addTable_68 : decode cX12_addTable 68 = .ok (.aload_n 0, 1) := by decide +kernel
theorem dX12_addTable_69 : decode cX12_addTable 69 = .ok (.getfield 9, 3) := by decide +kernel
theorem dX12_addTable_72 : decode cX12_addTable 72 = .ok (.iconst 0, 1) := by decide +kernel
theorem dX12_addTable_73 : decode cX12_addTable 73 = .ok (.iaload, 1) := by decide +kernel
theorem dX12_addTable_74 : decode cX12_addTable 74 = .ok (.iconst 1, 1) := by decide +kernel
theorem dX12_addTable_75 : decode cX12_addTable 75 = .ok (.isub, 1) := by decide +kernel
theorem dX12_addTable_76 : decode cX12_addTable 76 = .ok (.ireturn, 1) := by decide +kernel
theorem dX12_addFact_0 : decode cX12_addFact 0 = .ok (.aload_n 0, 1) := by decide +kernel
theorem dX12_addFact_1 : decode cX12_addFact 1 = .ok (.iconst 0, 1) := by decide +kernel
theorem dX12_addFact_2 : decode cX12_addFact 2 = .ok (.putfield 60, 3) := by decide +kernel
theorem dX12_addFact_5 : decode cX12_addFact 5 = .ok (.aload_n 0, 1) := by decide +kernel
theorem dX12_addFact_6 : decode cX12_addFact 6 = .ok (.iload_n 1, 1) := by decide +kernel
theorem dX12_addFact_7 : decode cX12_addFact 7 = .ok (.invokevirtual 220, 3) := by decide +kernel
theorem dX12_addFact_10 : decode cX12_addFact 10 = .ok (.ifCond .ne 9, 3) := by decide +kernel
theorem dX12_addFact_13 : decode cX12_addFact 13 = .ok (.aload_n 0, 1) := by decide +kernel
theorem dX12_addFact_14 : decode cX12_addFact 14 = .ok (.iconst 1, 1) := by decide +kernel
theorem dX12_addFact_15 : decode cX12_addFact 15 = .ok (.invokevirtual 214, 3) := by decide +kernel
theorem dX12_addFact_18 : decode cX12_addFact 18 = .ok (.ireturn, 1) := by decide +kernel
theorem dX12_addFact_19 : decode cX12_addFact 19 = .ok (.aload_n 0, 1) := by decide +kernel
theorem dX12_addFact_20 : decode cX12_addFact 20 = .ok (.iload_n 1, 1) := by decide +kernel
theorem dX12_addFact_21 : decode cX12_addFact 21 = .ok (.iload_n 2, 1) := by decide +kernel
theorem dX12_addFact_22 : decode cX12_addFact 22 = .ok (.iload_n 3, 1) := by decide +kernel
theorem dX12_addFact_23 : decode cX12_addFact 23 = .ok (.iload 4, 2) := by decide +kernel
theorem dX12_addFact_25 : decode cX12_addFact 25 = .ok (.bipush 7, 2) := by decide +kernel
theorem dX12_addFact_27 : decode cX12_addFact 27 = .ok (.invokevirtual 223, 3) := by decide +kernel
theorem dX12_addFact_30 : decode cX12_addFact 30 = .ok (.ifCond .ne 9, 3) := by decide +kernel
theorem dX12_addFact_33 : decode cX12_addFact 33 = .ok (.aload_n 0, 1) := by decide +kernel
theorem dX12_addFact_34 : decode cX12_addFact 34 = .ok (.iconst 2, 1) := by decide +kernel
theorem dX12_addFact_35 : decode cX12_addFact 35 = .ok (.invokevirtual 214, 3) := by decide +kernel
theorem dX12_addFact_38 : decode cX12_addFact 38 = .ok (.ireturn, 1) := by decide +kernel
theorem dX12_addFact_39 : decode cX12_addFact 39 = .ok (.aload_n 0, 1) := by decide +kernel
theorem dX12_addFact_40 : decode cX12_addFact 40 = .ok (.iload_n 1, 1) := by decide +kernel
theorem dX12_addFact_41 : decode cX12_addFact 41 = .ok (.iload_n 2, 1) := by decide +kernel
theorem dX12_addFact_42 : decode cX12_addFact 42 = .ok (.iload_n 3, 1) := by decide +kernel
theorem dX12_addFact_43 : decode cX12_addFact 43 = .ok (.iload 4, 2) := by decide +kernel
theorem dX12_addFact_45 : decode cX12_addFact 45 = .ok (.invokestatic 72, 3) := by decide +kernel
theorem dX12_addFact_48 : decode cX12_addFact 48 = .ok (.invokevirtual 148, 3) := by decide +kernel
theorem dX12_addFact_51 : decode cX12_addFact 51 = .ok (.ifCond .ne 13, 3) := by decide +kernel
theorem dX12_addFact_54 : decode cX12_addFact 54 = .ok (.aload_n 0, 1) := by decide +kernel
theorem dX12_addFact_55 : decode cX12_addFact 55 = .ok (.iload_n 1, 1) := by decide +kernel
theorem dX12_addFact_56 : decode cX12_addFact 56 = .ok (.invokevirtual 227, 3) := by decide +kernel
theorem dX12_addFact_59 : decode cX12_addFact 59 = .ok (.bipush 60, 2) := by decide +kernel
theorem dX12_addFact_61 : decode cX12_addFact 61 = .ok (.if_icmp .ne 9, 3) := by decide +kernel
theorem dX12_addFact_64 : decode cX12_addFact 64 = .ok (.aload_n 0, 1) := by decide +kernel
theorem dX12_addFact_65 : decode cX12_addFact 65 = .ok (.iconst 3, 1) := by decide +kernel
theorem dX12_addFact_66 : decode cX12_addFact 66 = .ok (.invokevirtual 214, 3) := by decide +kernel
theorem dX12_addFact_69 : decode cX12_addFact 69 = .ok (.ireturn, 1) := by decide +kernel
theorem dX12_addFact_70 : decode cX12_addFact 70 = .ok (.aload_n 0, 1) := by decide +kernel
theorem dX12_addFact_71 : decode cX12_addFact 71 = .ok (.invokevirtual 217, 3) := by decide +kernel
theorem dX12_addFact_74 : decode cX12_addFact 74 = .ok (.aload_n 0, 1) := by decide +kernel
theorem dX12_addFact_75 : decode cX12_addFact 75 = .ok (.getfield 9, 3) := by decide +kernel
theorem dX12_addFact_78 : decode cX12_addFact 78 = .ok (.bipush 6, 2) := by decide +kernel
theorem dX12_addFact_80 : decode cX12_addFact 80 = .ok (.sipush 512, 3) := by decide +kernel
theorem dX12_addFact_83 : decode cX12_addFact 83 = .ok (.iload_n 1, 1) := by decide +kernel
theorem dX12_addFact_84 : decode cX12_addFact 84 = .ok (.imul, 1) := by decide +kernel
theorem dX12_addFact_85 : decode cX12_addFact 85 = .ok (.iadd, 1) := by decide +kernel
theorem dX12_addFact_86 : decode cX12_addFact 86 = .ok (.iload_n 2, 1) := by decide +kernel
theorem dX12_addFact_87 : decode cX12_addFact 87 = .ok (.iload_n 3, 1) := by decide +kernel
theorem dX12_addFact_88 : decode cX12_addFact 88 = .ok (.iload 4, 2) := by decide +kernel
theorem dX12_addFact_90 : decode cX12_addFact 90 = .ok (.invokestatic 72, 3) := by decide +kernel
theorem dX12_addFact_93 : decode cX12_addFact 93 = .ok (.iadd, 1) := by decide +kernel
theorem dX12_addFact_94 : decode cX12_addFact 94 = .ok (.iconst 1, 1) := by decide +kernel
theorem dX12_addFact_95 : decode cX12_addFact 95 = .ok (.iastore, 1) := by decide +kernel
theorem dX12_addFact_96 : decode cX12_addFact 96 = .ok (.aload_n 0, 1) := by decide +kernel
theorem dX12_addFact_97 : decode cX12_addFact 97 = .ok (.invokevirtual 57, 3) := by decide +kernel
theorem dX12_addFact_100 : decode cX12_addFact 100 = .ok (.aload_n 0, 1) := by decide +kernel
theorem dX12_addFact_101 : decode cX12_addFact 101 = .ok (.iload_n 1, 1) := by decide +kernel
theorem dX12_addFact_102 : decode cX12_addFact 102 = .ok (.invokevirtual 227, 3) := by decide +kernel
theorem dX12_addFact_105 : decode cX12_addFact 105 = .ok (.ireturn, 1) := by decide +kernel
theorem dX12_removeFact_0 : decode cX12_removeFact 0 = .ok (.aload_n 0, 1) := by decide +kernel
theorem dX12_removeFact_1 : decode cX12_removeFact 1 = .ok (.iconst 0, 1) := by decide +kernel
theorem dX12_removeFact_2 : decode cX12_removeFact 2 = .ok (.putfield 60, 3) := by decide +kernel
theorem dX12_removeFact_5 : decode cX12_removeFact 5 = .ok (.aload_n 0, 1) := by decide +kernel
theorem dX12_removeFact_6 : decode cX12_removeFact 6 = .ok (.iload_n 1, 1) := by decide +kernel
theorem dX12_removeFact_7 : decode cX12_removeFact 7 = .ok (.invokevirtual 220, 3) := by decide +kernel
theorem dX12_removeFact_10 : decode cX12_removeFact 10 = .ok (.ifCond .ne 9, 3) := by decide +kernel
theorem dX12_removeFact_13 : decode cX12_removeFact 13 = .ok (.aload_n 0, 1) := by decide +kernel
theorem dX12_removeFact_14 : decode cX12_removeFact 14 = .ok (.iconst 1, 1) := by decide +kernel
theorem dX12_removeFact_15 : decode cX12_removeFact 15 = .ok (.invokevirtual 214, 3) := by decide +kernel
theorem dX12_removeFact_18 : decode cX12_removeFact 18 = .ok (.ireturn, 1) := by decide +kernel
theorem dX12_removeFact_19 : decode cX12_removeFact 19 = .ok (.aload_n 0, 1) := by decide +kernel
theorem dX12_removeFact_20 : decode cX12_removeFact 20 = .ok (.iload_n 1, 1) := by decide +kernel
theorem dX12_removeFact_21 : decode cX12_removeFact 21 = .ok (.iload_n 2, 1) := by decide +kernel
theorem dX12_removeFact_22 : decode cX12_removeFact 22 = .ok (.iload_n 3, 1) := by decide +kernel
theorem dX12_removeFact_23 : decode cX12_removeFact 23 = .ok (.iload 4, 2) := by decide +kernel
theorem dX12_removeFact_25 : decode cX12_removeFact 25 = .ok (.bipush 7, 2) := by decide +kernel
theorem dX12_removeFact_27 : decode cX12_removeFact 27 = .ok (.invokevirtual 223, 3) := by decide +kernel
theorem dX12_removeFact_30 : decode cX12_removeFact 30 = .ok (.ifCond .ne 9, 3) := by decide +kernel
theorem dX12_removeFact_33 : decode cX12_removeFact 33 = .ok (.aload_n 0, 1) := by decide +kernel
theorem dX12_removeFact_34 : decode cX12_removeFact 34 = .ok (.iconst 2, 1) := by decide +kernel
theorem dX12_removeFact_35 : decode cX12_removeFact 35 = .ok (.invokevirtual 214, 3) := by decide +kernel
theorem dX12_removeFact_38 : decode cX12_removeFact 38 = .ok (.ireturn, 1) := by decide +kernel
theorem dX12_removeFact_39 : decode cX12_removeFact 39 = .ok (.aload_n 0, 1) := by decide +kernel
theorem dX12_removeFact_40 : decode cX12_removeFact 40 = .ok (.iload_n 1, 1) := by decide +kernel
theorem dX12_removeFact_41 : decode cX12_removeFact 41 = .ok (.iload_n 2, 1) := by decide +kernel
theorem dX12_removeFact_42 : decode cX12_removeFact 42 = .ok (.iload_n 3, 1) := by decide +kernel
theorem dX12_removeFact_43 : decode cX12_removeFact 43 = .ok (.iload 4, 2) := by decide +kernel
theorem dX12_removeFact_45 : decode cX12_removeFact 45 = .ok (.invokestatic 72, 3) := by decide +kernel
theorem dX12_removeFact_48 : decode cX12_removeFact 48 = .ok (.invokevirtual 148, 3) := by decide +kernel
theorem dX12_removeFact_51 : decode cX12_removeFact 51 = .ok (.ifCond .ne 9, 3) := by decide +kernel
theorem dX12_removeFact_54 : decode cX12_removeFact 54 = .ok (.aload_n 0, 1) := by decide +kernel
theorem dX12_removeFact_55 : decode cX12_removeFact 55 = .ok (.iconst 3, 1) := by decide +kernel
theorem dX12_removeFact_56 : decode cX12_removeFact 56 = .ok (.invokevirtual 214, 3) := by decide +kernel
theorem dX12_removeFact_59 : decode cX12_removeFact 59 = .ok (.ireturn, 1) := by decide +kernel
theorem dX12_removeFact_60 : decode cX12_removeFact 60 = .ok (.aload_n 0, 1) := by decide +kernel
theorem dX12_removeFact_61 : decode cX12_removeFact 61 = .ok (.invokevirtual 217, 3) := by decide +kernel
theorem dX12_removeFact_64 : decode cX12_removeFact 64 = .ok (.aload_n 0, 1) := by decide +kernel
theorem dX12_removeFact_65 : decode cX12_removeFact 65 = .ok (.getfield 9, 3) := by decide +kernel
theorem dX12_removeFact_68 : decode cX12_removeFact 68 = .ok (.bipush 6, 2) := by decide +kernel
theorem dX12_removeFact_70 : decode cX12_removeFact 70 = .ok (.sipush 512, 3) := by decide +kernel
theorem dX12_removeFact_73 : decode cX12_removeFact 73 = .ok (.iload_n 1, 1) := by decide +kernel
theorem dX12_removeFact_74 : decode cX12_removeFact 74 = .ok (.imul, 1) := by decide +kernel
theorem dX12_removeFact_75 : decode cX12_removeFact 75 = .ok (.iadd, 1) := by decide +kernel
theorem dX12_removeFact_76 : decode cX12_removeFact 76 = .ok (.iload_n 2, 1) := by decide +kernel
theorem dX12_removeFact_77 : decode cX12_removeFact 77 = .ok (.iload_n 3, 1) := by decide +kernel
theorem dX12_removeFact_78 : decode cX12_removeFact 78 = .ok (.iload 4, 2) := by decide +kernel
theorem dX12_removeFact_80 : decode cX12_removeFact 80 = .ok (.invokestatic 72, 3) := by decide +kernel
theorem dX12_removeFact_83 : decode cX12_removeFact 83 = .ok (.iadd, 1) := by decide +kernel
theorem dX12_removeFact_84 : decode cX12_removeFact 84 = .ok (.iconst 0, 1) := by decide +kernel
theorem dX12_removeFact_85 : decode cX12_removeFact 85 = .ok (.iastore, 1) := by decide +kernel
theorem dX12_removeFact_86 : decode cX12_removeFact 86 = .ok (.aload_n 0, 1) := by decide +kernel
theorem dX12_removeFact_87 : decode cX12_removeFact 87 = .ok (.invokevirtual 57, 3) := by decide +kernel
theorem dX12_removeFact_90 : decode cX12_removeFact 90 = .ok (.aload_n 0, 1) := by decide +kernel
theorem dX12_removeFact_91 : decode cX12_removeFact 91 = .ok (.iload_n 1, 1) := by decide +kernel
theorem dX12_removeFact_92 : decode cX12_removeFact 92 = .ok (.invokevirtual 227, 3) := by decide +kernel
theorem dX12_removeFact_95 : decode cX12_removeFact 95 = .ok (.ireturn, 1) := by decide +kernel
theorem dX12_addAtom_0 : decode cX12_addAtom 0 = .ok (.aload_n 0, 1) := by decide +kernel
theorem dX12_addAtom_1 : decode cX12_addAtom 1 = .ok (.iconst 0, 1) := by decide +kernel
theorem dX12_addAtom_2 : decode cX12_addAtom 2 = .ok (.putfield 60, 3) := by decide +kernel
theorem dX12_addAtom_5 : decode cX12_addAtom 5 = .ok (.iload_n 1, 1) := by decide +kernel
theorem dX12_addAtom_6 : decode cX12_addAtom 6 = .ok (.invokestatic 230, 3) := by decide +kernel
theorem dX12_addAtom_9 : decode cX12_addAtom 9 = .ok (.ifCond .eq 11, 3) := by decide +kernel
theorem dX12_addAtom_12 : decode cX12_addAtom 12 = .ok (.aload_n 0, 1) := by decide +kernel
theorem dX12_addAtom_13 : decode cX12_addAtom 13 = .ok (.iload_n 2, 1) := by decide +kernel
theorem dX12_addAtom_14 : decode cX12_addAtom 14 = .ok (.invokevirtual 220, 3) := by decide +kernel
theorem dX12_addAtom_17 : decode cX12_addAtom 17 = .ok (.ifCond .ne 9, 3) := by decide +kernel
theorem dX12_addAtom_20 : decode cX12_addAtom 20 = .ok (.aload_n 0, 1) := by decide +kernel
theorem dX12_addAtom_21 : decode cX12_addAtom 21 = .ok (.iconst 1, 1) := by decide +kernel
theorem dX12_addAtom_22 : decode cX12_addAtom 22 = .ok (.invokevirtual 214, 3) := by decide +kernel
theorem dX12_addAtom_25 : decode cX12_addAtom 25 = .ok (.ireturn, 1) := by decide +kernel
theorem dX12_addAtom_26 : decode cX12_addAtom 26 = .ok (.aload_n 0, 1) := by decide +kernel
theorem dX12_addAtom_27 : decode cX12_addAtom 27 = .ok (.iload_n 2, 1) := by decide +kernel
theorem dX12_addAtom_28 : decode cX12_addAtom 28 = .ok (.iload_n 3, 1) := by decide +kernel
theorem dX12_addAtom_29 : decode cX12_addAtom 29 = .ok (.iload 4, 2) := by decide +kernel
theorem dX12_addAtom_31 : decode cX12_addAtom 31 = .ok (.iload 5, 2) := by decide +kernel
theorem dX12_addAtom_33 : decode cX12_addAtom 33 = .ok (.iconst 3, 1) := by decide +kernel
theorem dX12_addAtom_34 : decode cX12_addAtom 34 = .ok (.invokevirtual 223, 3) := by decide +kernel
theorem dX12_addAtom_37 : decode cX12_addAtom 37 = .ok (.ifCond .ne 9, 3) := by decide +kernel
theorem dX12_addAtom_40 : decode cX12_addAtom 40 = .ok (.aload_n 0, 1) := by decide +kernel
theorem dX12_addAtom_41 : decode cX12_addAtom 41 = .ok (.iconst 2, 1) := by decide +kernel
theorem dX12_addAtom_42 : decode cX12_addAtom 42 = .ok (.invokevirtual 214, 3) := by decide +kernel
theorem dX12_addAtom_45 : decode cX12_addAtom 45 = .ok (.ireturn, 1) := by decide +kernel
theorem dX12_addAtom_46 : decode cX12_addAtom 46 = .ok (.aload_n 0, 1) := by decide +kernel
theorem dX12_addAtom_47 : decode cX12_addAtom 47 = .ok (.iload_n 1, 1) := by decide +kernel
theorem dX12_addAtom_48 : decode cX12_addAtom 48 = .ok (.invokevirtual 76, 3) := by decide +kernel
theorem dX12_addAtom_51 : decode cX12_addAtom 51 = .ok (.iconst 5, 1) := by decide +kernel
theorem dX12_addAtom_52 : decode cX12_addAtom 52 = .ok (.if_icmp .ne 9, 3) := by decide +kernel
theorem dX12_addAtom_55 : decode cX12_addAtom 55 = .ok (.aload_n 0, 1) := by decide +kernel
theorem dX12_addAtom_56 : decode cX12_addAtom 56 = .ok (.iconst 3, 1) := by decide +kernel
theorem dX12_addAtom_57 : decode cX12_addAtom 57 = .ok (.invokevirtual 214, 3) := by decide +kernel
theorem dX12_addAtom_60 : decode cX12_addAtom 60 = .ok (.ireturn, 1) := by decide +kernel
theorem dX12_addAtom_61 : decode cX12_addAtom 61 = .ok (.aload_n 0, 1) := by decide +kernel
theorem dX12_addAtom_62 : decode cX12_addAtom 62 = .ok (.invokevirtual 217, 3) := by decide +kernel
theorem dX12_addAtom_65 : decode cX12_addAtom 65 = .ok (.aload_n 0, 1) := by decide +kernel
theorem dX12_addAtom_66 : decode cX12_addAtom 66 = .ok (.iload_n 1, 1) := by decide +kernel
theorem dX12_addAtom_67 : decode cX12_addAtom 67 = .ok (.iload_n 2, 1) := by decide +kernel
theorem dX12_addAtom_68 : decode cX12_addAtom 68 = .ok (.iload_n 3, 1) := by decide +kernel
theorem dX12_addAtom_69 : decode cX12_addAtom 69 = .ok (.iload 4, 2) := by decide +kernel
theorem dX12_addAtom_71 : decode cX12_addAtom 71 = .ok (.iload 5, 2) := by decide +kernel
theorem dX12_addAtom_73 : decode cX12_addAtom 73 = .ok (.invokevirtual 45, 3) := by decide +kernel
theorem dX12_addAtom_76 : decode cX12_addAtom 76 = .ok (.aload_n 0, 1) := by decide +kernel
theorem dX12_addAtom_77 : decode cX12_addAtom 77 = .ok (.iload_n 1, 1) := by decide +kernel
theorem dX12_addAtom_78 : decode cX12_addAtom 78 = .ok (.invokevirtual 76, 3) := by decide +kernel
theorem dX12_addAtom_81 : decode cX12_addAtom 81 = .ok (.iconst 1, 1) := by decide +kernel
theorem dX12_addAtom_82 : decode cX12_addAtom 82 = .ok (.isub, 1) := by decide +kernel
theorem dX12_addAtom_83 : decode cX12_addAtom 83 = .ok (.ireturn, 1) := by decide +kernel
theorem dX12_clearQuery_0 : decode cX12_clearQuery 0 = .ok (.aload_n 0, 1) := by decide +kernel
theorem dX12_clearQuery_1 : decode cX12_clearQuery 1 = .ok (.iconst 0, 1) := by decide +kernel
theorem dX12_clearQuery_2 : decode cX12_clearQuery 2 = .ok (.putfield 60, 3) := by decide +kernel
theorem dX12_clearQuery_5 : decode cX12_clearQuery 5 = .ok (.iload_n 1, 1) := by decide +kernel
theorem dX12_clearQuery_6 : decode cX12_clearQuery 6 = .ok (.invokestatic 230, 3) := by decide +kernel
theorem dX12_clearQuery_9 : decode cX12_clearQuery 9 = .ok (.ifCond .ne 9, 3) := by decide +kernel
theorem dX12_clearQuery_12 : decode cX12_clearQuery 12 = .ok (.aload_n 0, 1) := by decide +kernel
theorem dX12_clearQuery_13 : decode cX12_clearQuery 13 = .ok (.iconst 1, 1) := by decide +kernel
theorem dX12_clearQuery_14 : decode cX12_clearQuery 14 = .ok (.invokevirtual 214, 3) := by decide +kernel
theorem dX12_clearQuery_17 : decode cX12_clearQuery 17 = .ok (.ireturn, 1) := by decide +kernel
theorem dX12_clearQuery_18 : decode cX12_clearQuery 18 = .ok (.aload_n 0, 1) := by decide +kernel
theorem dX12_clearQuery_19 : decode cX12_clearQuery 19 = .ok (.invokevirtual 217, 3) := by decide +kernel
theorem dX12_clearQuery_22 : decode cX12_clearQuery 22 = .ok (.aload_n 0, 1) := by decide +kernel
theorem dX12_clearQuery_23 : decode cX12_clearQuery 23 = .ok (.iload_n 1, 1) := by decide +kernel
theorem dX12_clearQuery_24 : decode cX12_clearQuery 24 = .ok (.invokevirtual 76, 3) := by decide +kernel
theorem dX12_clearQuery_27 : decode cX12_clearQuery 27 = .ok (.istore_n 2, 1) := by decide +kernel
theorem dX12_clearQuery_28 : decode cX12_clearQuery 28 = .ok (.aload_n 0, 1) := by decide +kernel
theorem dX12_clearQuery_29 : decode cX12_clearQuery 29 = .ok (.getfield 9, 3) := by decide +kernel
theorem dX12_clearQuery_32 : decode cX12_clearQuery 32 = .ok (.sipush 2570, 3) := by decide +kernel
theorem dX12_clearQuery_35 : decode cX12_clearQuery 35 = .ok (.bipush 21, 2) := by decide +kernel
theorem dX12_clearQuery_37 : decode cX12_clearQuery 37 = .ok (.iload_n 1, 1) := by decide +kernel
theorem dX12_clearQuery_38 : decode cX12_clearQuery 38 = .ok (.imul, 1) := by decide +kernel
theorem dX12_clearQuery_39 : decode cX12_clearQuery 39 = .ok (.iadd, 1) := by decide +kernel
theorem dX12_clearQuery_40 : decode cX12_clearQuery 40 = .ok (.iconst 0, 1) := by decide +kernel
theorem dX12_clearQuery_41 : decode cX12_clearQuery 41 = .ok (.iastore, 1) := by decide +kernel
theorem dX12_clearQuery_42 : decode cX12_clearQuery 42 = .ok (.iload_n 2, 1) := by decide +kernel
theorem dX12_clearQuery_43 : decode cX12_clearQuery 43 = .ok (.ireturn, 1) := by decide +kernel
theorem dX12_setOrder_0 : decode cX12_setOrder 0 = .ok (.aload_n 0, 1) := by decide +kernel
theorem dX12_setOrder_1 : decode cX12_setOrder 1 = .ok (.iconst 0, 1) := by decide +kernel
theorem dX12_setOrder_2 : decode cX12_setOrder 2 = .ok (.putfield 60, 3) := by decide +kernel
theorem dX12_setOrder_5 : decode cX12_setOrder 5 = .ok (.iload_n 1, 1) := by decide +kernel
theorem dX12_setOrder_6 : decode cX12_setOrder 6 = .ok (.invokestatic 230, 3) := by decide +kernel
theorem dX12_setOrder_9 : decode cX12_setOrder 9 = .ok (.ifCond .ne 9, 3) := by decide +kernel
theorem dX12_setOrder_12 : decode cX12_setOrder 12 = .ok (.aload_n 0, 1) := by decide +kernel
theorem dX12_setOrder_13 : decode cX12_setOrder 13 = .ok (.iconst 1, 1) := by decide +kernel
theorem dX12_setOrder_14 : decode cX12_setOrder 14 = .ok (.invokevirtual 214, 3) := by decide +kernel
theorem dX12_setOrder_17 : decode cX12_setOrder 17 = .ok (.ireturn, 1) := by decide +kernel
theorem dX12_setOrder_18 : decode cX12_setOrder 18 = .ok (.iload_n 2, 1) := by decide +kernel
theorem dX12_setOrder_19 : decode cX12_setOrder 19 = .ok (.bipush 123, 2) := by decide +kernel
theorem dX12_setOrder_21 : decode cX12_setOrder 21 = .ok (.sipush 3210, 3) := by decide +kernel
theorem dX12_setOrder_24 : decode cX12_setOrder 24 = .ok (.invokestatic 64, 3) := by decide +kernel
theorem dX12_setOrder_27 : decode cX12_setOrder 27 = .ok (.ifCond .eq 10, 3) := by decide +kernel
theorem dX12_setOrder_30 : decode cX12_setOrder 30 = .ok (.iload_n 2, 1) := by decide +kernel
theorem dX12_setOrder_31 : decode cX12_setOrder 31 = .ok (.invokestatic 233, 3) := by decide +kernel
theorem dX12_setOrder_34 : decode cX12_setOrder 34 = .ok (.ifCond .ne 9, 3) := by decide +kernel
theorem dX12_setOrder_37 : decode cX12_setOrder 37 = .ok (.aload_n 0, 1) := by decide +kernel
theorem dX12_setOrder_38 : decode cX12_setOrder 38 = .ok (.iconst 2, 1) := by decide +kernel
theorem dX12_setOrder_39 : decode cX12_setOrder 39 = .ok (.invokevirtual 214, 3) := by decide +kernel
theorem dX12_setOrder_42 : decode cX12_setOrder 42 = .ok (.ireturn, 1) := by decide +kernel
theorem dX12_setOrder_43 : decode cX12_setOrder 43 = .ok (.aload_n 0, 1) := by decide +kernel
theorem dX12_setOrder_44 : decode cX12_setOrder 44 = .ok (.invokevirtual 217, 3) := by decide +kernel
theorem dX12_setOrder_47 : decode cX12_setOrder 47 = .ok (.aload_n 0, 1) := by decide +kernel
theorem dX12_setOrder_48 : decode cX12_setOrder 48 = .ok (.getfield 9, 3) := by decide +kernel
theorem dX12_setOrder_51 : decode cX12_setOrder 51 = .ok (.sipush 2566, 3) := by decide +kernel
theorem dX12_setOrder_54 : decode cX12_setOrder 54 = .ok (.iload_n 1, 1) := by decide +kernel
theorem dX12_setOrder_55 : decode cX12_setOrder 55 = .ok (.iadd, 1) := by decide +kernel
theorem dX12_setOrder_56 : decode cX12_setOrder 56 = .ok (.iaload, 1) := by decide +kernel
theorem dX12_setOrder_57 : decode cX12_setOrder 57 = .ok (.istore_n 3, 1) := by decide +kernel
theorem dX12_setOrder_58 : decode cX12_setOrder 58 = .ok (.aload_n 0, 1) := by decide +kernel
theorem dX12_setOrder_59 : decode cX12_setOrder 59 = .ok (.getfield 9, 3) := by decide +kernel
theorem dX12_setOrder_62 : decode cX12_setOrder 62 = .ok (.sipush 2566, 3) := by decide +kernel
theorem dX12_setOrder_65 : decode cX12_setOrder 65 = .ok (.iload_n 1, 1) := by decide +kernel
theorem dX12_setOrder_66 : decode cX12_setOrder 66 = .ok (.iadd, 1) := by decide +kernel
theorem dX12_setOrder_67 : decode cX12_setOrder 67 = .ok (.iload_n 2, 1) := by decide +kernel
theorem dX12_setOrder_68 : decode cX12_setOrder 68 = .ok (.iastore, 1) := by decide +kernel
theorem dX12_setOrder_69 : decode cX12_setOrder 69 = .ok (.iload_n 3, 1) := by decide +kernel
theorem dX12_setOrder_70 : decode cX12_setOrder 70 = .ok (.ireturn, 1) := by decide +kernel
theorem dX12_isOrder_0 : decode cX12_isOrder 0 = .ok (.iconst 0, 1) := by decide +kernel
theorem dX12_isOrder_1 : decode cX12_isOrder 1 = .ok (.istore_n 1, 1) := by decide +kernel
theorem dX12_isOrder_2 : decode cX12_isOrder 2 = .ok (.iconst 1, 1) := by decide +kernel
theorem dX12_isOrder_3 : decode cX12_isOrder 3 = .ok (.istore_n 2, 1) := by decide +kernel
theorem dX12_isOrder_4 : decode cX12_isOrder 4 = .ok (.iload_n 2, 1) := by decide +kernel
theorem dX12_isOrder_5 : decode cX12_isOrder 5 = .ok (.sipush 1000, 3) := by decide +kernel
theorem dX12_isOrder_8 : decode cX12_isOrder 8 = .ok (.if_icmp .gt 22, 3) := by decide +kernel
theorem dX12_isOrder_11 : decode cX12_isOrder 11 = .ok (.iload_n 1, 1) := by decide +kernel
theorem dX12_isOrder_12 : decode cX12_isOrder 12 = .ok (.iconst 1, 1) := by decide +kernel
theorem dX12_isOrder_13 : decode cX12_isOrder 13 = .ok (.iload_n 0, 1) := by decide +kernel
theorem dX12_isOrder_14 : decode cX12_isOrder 14 = .ok (.iload_n 2, 1) := by decide +kernel
theorem dX12_isOrder_15 : decode cX12_isOrder 15 = .ok (.idiv, 1) := by decide +kernel
theorem dX12_isOrder_16 : decode cX12_isOrder 16 = .ok (.bipush 10, 2) := by decide +kernel
theorem dX12_isOrder_18 : decode cX12_isOrder 18 = .ok (.irem, 1) := by decide +kernel
theorem dX12_isOrder_19 : decode cX12_isOrder 19 = .ok (.ishl, 1) := by decide +kernel
theorem dX12_isOrder_20 : decode cX12_isOrder 20 = .ok (.ior, 1) := by decide +kernel
theorem dX12_isOrder_21 : decode cX12_isOrder 21 = .ok (.istore_n 1, 1) := by decide +kernel
theorem dX12_isOrder_22 : decode cX12_isOrder 22 = .ok (.iload_n 2, 1) := by decide +kernel
theorem dX12_isOrder_23 : decode cX12_isOrder 23 = .ok (.bipush 10, 2) := by decide +kernel
theorem dX12_isOrder_25 : decode cX12_isOrder 25 = .ok (.imul, 1) := by decide +kernel
theorem dX12_isOrder_26 : decode cX12_isOrder 26 = .ok (.istore_n 2, 1) := by decide +kernel
theorem dX12_isOrder_27 : decode cX12_isOrder 27 = .ok (.goto (-23), 3) := by decide +kernel
theorem dX12_isOrder_30 : decode cX12_isOrder 30 = .ok (.iload_n 1, 1) := by decide +kernel
theorem dX12_isOrder_31 : decode cX12_isOrder 31 = .ok (.bipush 15, 2) := by decide +kernel
theorem dX12_isOrder_33 : decode cX12_isOrder 33 = .ok (.if_icmp .ne 7, 3) := by decide +kernel
theorem dX12_isOrder_36 : decode cX12_isOrder 36 = .ok (.iconst 1, 1) := by decide +kernel
theorem dX12_isOrder_37 : decode cX12_isOrder 37 = .ok (.goto 4, 3) := by decide +kernel
theorem dX12_isOrder_40 : decode cX12_isOrder 40 = .ok (.iconst 0, 1) := by decide +kernel
theorem dX12_isOrder_41 : decode cX12_isOrder 41 = .ok (.ireturn, 1) := by decide +kernel
theorem dX12_clearIdle_0 : decode cX12_clearIdle 0 = .ok (.aload_n 0, 1) := by decide +kernel
theorem dX12_clearIdle_1 : decode cX12_clearIdle 1 = .ok (.iconst 0, 1) := by decide +kernel
theorem dX12_clearIdle_2 : decode cX12_clearIdle 2 = .ok (.putfield 60, 3) := by decide +kernel
theorem dX12_clearIdle_5 : decode cX12_clearIdle 5 = .ok (.iload_n 1, 1) := by decide +kernel
theorem dX12_clearIdle_6 : decode cX12_clearIdle 6 = .ok (.invokestatic 230, 3) := by decide +kernel
theorem dX12_clearIdle_9 : decode cX12_clearIdle 9 = .ok (.ifCond .eq 18, 3) := by decide +kernel
theorem dX12_clearIdle_12 : decode cX12_clearIdle 12 = .ok (.iload_n 2, 1) := by decide +kernel
theorem dX12_clearIdle_13 : decode cX12_clearIdle 13 = .ok (.iconst 0, 1) := by decide +kernel
theorem dX12_clearIdle_14 : decode cX12_clearIdle 14 = .ok (.aload_n 0, 1) := by decide +kernel
theorem dX12_clearIdle_15 : decode cX12_clearIdle 15 = .ok (.iload_n 1, 1) := by decide +kernel
theorem dX12_clearIdle_16 : decode cX12_clearIdle 16 = .ok (.invokevirtual 76, 3) := by decide +kernel
theorem dX12_clearIdle_19 : decode cX12_clearIdle 19 = .ok (.iconst 1, 1) := by decide +kernel
theorem dX12_clearIdle_20 : decode cX12_clearIdle 20 = .ok (.isub, 1) := by decide +kernel
theorem dX12_clearIdle_21 : decode cX12_clearIdle 21 = .ok (.invokestatic 64, 3) := by decide +kernel
theorem dX12_clearIdle_24 : decode cX12_clearIdle 24 = .ok (.ifCond .ne 9, 3) := by decide +kernel
theorem dX12_clearIdle_27 : decode cX12_clearIdle 27 = .ok (.aload_n 0, 1) := by decide +kernel
theorem dX12_clearIdle_28 : decode cX12_clearIdle 28 = .ok (.iconst 1, 1) := by decide +kernel
theorem dX12_clearIdle_29 : decode cX12_clearIdle 29 = .ok (.invokevirtual 214, 3) := by decide +kernel
theorem dX12_clearIdle_32 : decode cX12_clearIdle 32 = .ok (.ireturn, 1) := by decide +kernel
theorem dX12_clearIdle_33 : decode cX12_clearIdle 33 = .ok (.aload_n 0, 1) := by decide +kernel
theorem dX12_clearIdle_34 : decode cX12_clearIdle 34 = .ok (.invokevirtual 217, 3) := by decide +kernel
theorem dX12_clearIdle_37 : decode cX12_clearIdle 37 = .ok (.aload_n 0, 1) := by decide +kernel
theorem dX12_clearIdle_38 : decode cX12_clearIdle 38 = .ok (.iload_n 1, 1) := by decide +kernel
theorem dX12_clearIdle_39 : decode cX12_clearIdle 39 = .ok (.iload_n 2, 1) := by decide +kernel
theorem dX12_clearIdle_40 : decode cX12_clearIdle 40 = .ok (.invokevirtual 236, 3) := by decide +kernel
theorem dX12_clearIdle_43 : decode cX12_clearIdle 43 = .ok (.aload_n 0, 1) := by decide +kernel
theorem dX12_clearIdle_44 : decode cX12_clearIdle 44 = .ok (.getfield 9, 3) := by decide +kernel
theorem dX12_clearIdle_47 : decode cX12_clearIdle 47 = .ok (.aload_n 0, 1) := by decide +kernel
theorem dX12_clearIdle_48 : decode cX12_clearIdle 48 = .ok (.iload_n 1, 1) := by decide +kernel
theorem dX12_clearIdle_49 : decode cX12_clearIdle 49 = .ok (.iload_n 2, 1) := by decide +kernel
theorem dX12_clearIdle_50 : decode cX12_clearIdle 50 = .ok (.invokevirtual 79, 3) := by decide +kernel
theorem dX12_clearIdle_53 : decode cX12_clearIdle 53 = .ok (.iaload, 1) := by decide +kernel
theorem dX12_clearIdle_54 : decode cX12_clearIdle 54 = .ok (.istore_n 3, 1) := by decide +kernel
theorem dX12_clearIdle_55 : decode cX12_clearIdle 55 = .ok (.iconst 0, 1) := by decide +kernel
theorem dX12_clearIdle_56 : decode cX12_clearIdle 56 = .ok (.istore 4, 2) := by decide +kernel
theorem dX12_clearIdle_58 : decode cX12_clearIdle 58 = .ok (.iconst 0, 1) := by decide +kernel
theorem dX12_clearIdle_59 : decode cX12_clearIdle 59 = .ok (.istore 5, 2) := by decide +kernel
theorem dX12_clearIdle_61 : decode cX12_clearIdle 61 = .ok (.iload 5, 2) := by decide +kernel
theorem dX12_clearIdle_63 : decode cX12_clearIdle 63 = .ok (.sipush 512, 3) := by decide +kernel
theorem dX12_clearIdle_66 : decode cX12_clearIdle 66 = .ok (.if_icmp .ge 52, 3) := by decide +kernel
theorem dX12_clearIdle_69 : decode cX12_clearIdle 69 = .ok (.aload_n 0, 1) := by decide +kernel
theorem dX12_clearIdle_70 : decode cX12_clearIdle 70 = .ok (.iload_n 3, 1) := by decide +kernel
theorem dX12_clearIdle_71 : decode cX12_clearIdle 71 = .ok (.iload 5, 2) := by decide +kernel
theorem dX12_clearIdle_73 : decode cX12_clearIdle 73 = .ok (.invokevirtual 148, 3) := by decide +kernel
theorem dX12_clearIdle_76 : decode cX12_clearIdle 76 = .ok (.ifCond .eq 36, 3) := by decide +kernel
theorem dX12_clearIdle_79 : decode cX12_clearIdle 79 = .ok (.aload_n 0, 1) := by decide +kernel
theorem dX12_clearIdle_80 : decode cX12_clearIdle 80 = .ok (.getfield 32, 3) := by decide +kernel
theorem dX12_clearIdle_83 : decode cX12_clearIdle 83 = .ok (.iload 5, 2) := by decide +kernel
theorem dX12_clearIdle_85 : decode cX12_clearIdle 85 = .ok (.baload, 1) := by decide +kernel
theorem dX12_clearIdle_86 : decode cX12_clearIdle 86 = .ok (.ifCond .eq 6, 3) := by decide +kernel
theorem dX12_clearIdle_89 : decode cX12_clearIdle 89 = .ok (.goto 23, 3) := by decide +kernel
theorem dX12_clearIdle_92 : decode cX12_clearIdle 92 = .ok (.aload_n 0, 1) := by decide +kernel
theorem dX12_clearIdle_93 : decode cX12_clearIdle 93 = .ok (.getfield 9, 3) := by decide +kernel
theorem dX12_clearIdle_96 : decode cX12_clearIdle 96 = .ok (.bipush 6, 2) := by decide +kernel
theorem dX12_clearIdle_98 : decode cX12_clearIdle 98 = .ok (.sipush 512, 3) := by decide +kernel
theorem dX12_clearIdle_101 : decode cX12_clearIdle 101 = .ok (.iload_n 3, 1) := by decide +kernel
theorem dX12_clearIdle_102 : decode cX12_clearIdle 102 = .ok (.imul, 1) := by decide +kernel
theorem dX12_clearIdle_103 : decode cX12_clearIdle 103 = .ok (.iadd, 1) := by decide +kernel
theorem dX12_clearIdle_104 : decode cX12_clearIdle 104 = .ok (.iload 5, 2) := by decide +kernel
theorem dX12_clearIdle_106 : decode cX12_clearIdle 106 = .ok (.iadd, 1) := by decide +kernel
theorem dX12_clearIdle_107 : decode cX12_clearIdle 107 = .ok (.iconst 0, 1) := by decide +kernel
theorem dX12_clearIdle_108 : decode cX12_clearIdle 108 = .ok (.iastore, 1) := by decide +kernel
theorem dX12_clearIdle_109 : decode cX12_clearIdle 109 = .ok (.iinc 4 1, 3) := by decide +kernel
theorem dX12_clearIdle_112 : decode cX12_clearIdle 112 = .ok (.iinc 5 1, 3) := by decide +kernel
theorem dX12_clearIdle_115 : decode cX12_clearIdle 115 = .ok (.goto (-54), 3) := by decide +kernel
theorem dX12_clearIdle_118 : decode cX12_clearIdle 118 = .ok (.aload_n 0, 1) := by decide +kernel
theorem dX12_clearIdle_119 : decode cX12_clearIdle 119 = .ok (.invokevirtual 57, 3) := by decide +kernel
theorem dX12_clearIdle_122 : decode cX12_clearIdle 122 = .ok (.iload 4, 2) := by decide +kernel
theorem dX12_clearIdle_124 : decode cX12_clearIdle 124 = .ok (.ireturn, 1) := by decide +kernel
theorem dX12_addRule_0 : decode cX12_addRule 0 = .ok (.aload_n 0, 1) := by decide +kernel
theorem dX12_addRule_1 : decode cX12_addRule 1 = .ok (.iconst 0, 1) := by decide +kernel
theorem dX12_addRule_2 : decode cX12_addRule 2 = .ok (.putfield 60, 3) := by decide +kernel
theorem dX12_addRule_5 : decode cX12_addRule 5 = .ok (.aload_n 0, 1) := by decide +kernel
theorem dX12_addRule_6 : decode cX12_addRule 6 = .ok (.iload_n 1, 1) := by decide +kernel
theorem dX12_addRule_7 : decode cX12_addRule 7 = .ok (.invokevirtual 220, 3) := by decide +kernel
theorem dX12_addRule_10 : decode cX12_addRule 10 = .ok (.ifCond .ne 9, 3) := by decide +kernel
theorem dX12_addRule_13 : decode cX12_addRule 13 = .ok (.aload_n 0, 1) := by decide +kernel
theorem dX12_addRule_14 : decode cX12_addRule 14 = .ok (.iconst 1, 1) := by decide +kernel
theorem dX12_addRule_15 : decode cX12_addRule 15 = .ok (.invokevirtual 214, 3) := by decide +kernel
theorem dX12_addRule_18 : decode cX12_addRule 18 = .ok (.ireturn, 1) := by decide +kernel
theorem dX12_addRule_19 : decode cX12_addRule 19 = .ok (.aload_n 0, 1) := by decide +kernel
theorem dX12_addRule_20 : decode cX12_addRule 20 = .ok (.iload_n 1, 1) := by decide +kernel
theorem dX12_addRule_21 : decode cX12_addRule 21 = .ok (.iload_n 2, 1) := by decide +kernel
theorem dX12_addRule_22 : decode cX12_addRule 22 = .ok (.iload_n 3, 1) := by decide +kernel
theorem dX12_addRule_23 : decode cX12_addRule 23 = .ok (.iload 4, 2) := by decide +kernel
theorem dX12_addRule_25 : decode cX12_addRule 25 = .ok (.iconst 3, 1) := by decide +kernel
theorem dX12_addRule_26 : decode cX12_addRule 26 = .ok (.invokevirtual 223, 3) := by decide +kernel
theorem dX12_addRule_29 : decode cX12_addRule 29 = .ok (.ifCond .ne 9, 3) := by decide +kernel
theorem dX12_addRule_32 : decode cX12_addRule 32 = .ok (.aload_n 0, 1) := by decide +kernel
theorem dX12_addRule_33 : decode cX12_addRule 33 = .ok (.iconst 2, 1) := by decide +kernel
theorem dX12_addRule_34 : decode cX12_addRule 34 = .ok (.invokevirtual 214, 3) := by decide +kernel
theorem dX12_addRule_37 : decode cX12_addRule 37 = .ok (.ireturn, 1) := by decide +kernel
theorem dX12_addRule_38 : decode cX12_addRule 38 = .ok (.aload_n 0, 1) := by decide +kernel
theorem dX12_addRule_39 : decode cX12_addRule 39 = .ok (.getfield 9, 3) := by decide +kernel
theorem dX12_addRule_42 : decode cX12_addRule 42 = .ok (.sipush 2654, 3) := by decide +kernel
theorem dX12_addRule_45 : decode cX12_addRule 45 = .ok (.iaload, 1) := by decide +kernel
theorem dX12_addRule_46 : decode cX12_addRule 46 = .ok (.iconst 5, 1) := by decide +kernel
theorem dX12_addRule_47 : decode cX12_addRule 47 = .ok (.if_icmp .ne 9, 3) := by decide +kernel
theorem dX12_addRule_50 : decode cX12_addRule 50 = .ok (.aload_n 0, 1) := by decide +kernel
theorem dX12_addRule_51 : decode cX12_addRule 51 = .ok (.iconst 3, 1) := by decide +kernel
theorem dX12_addRule_52 : decode cX12_addRule 52 = .ok (.invokevirtual 214, 3) := by decide +kernel
theorem dX12_addRule_55 : decode cX12_addRule 55 = .ok (.ireturn, 1) := by decide +kernel
theorem dX12_addRule_56 : decode cX12_addRule 56 = .ok (.aload_n 0, 1) := by decide +kernel
theorem dX12_addRule_57 : decode cX12_addRule 57 = .ok (.invokevirtual 217, 3) := by decide +kernel
theorem dX12_addRule_60 : decode cX12_addRule 60 = .ok (.aload_n 0, 1) := by decide +kernel
theorem dX12_addRule_61 : decode cX12_addRule 61 = .ok (.iload_n 1, 1) := by decide +kernel
theorem dX12_addRule_62 : decode cX12_addRule 62 = .ok (.iload_n 2, 1) := by decide +kernel
theorem dX12_addRule_63 : decode cX12_addRule 63 = .ok (.iload_n 3, 1) := by decide +kernel
theorem dX12_addRule_64 : decode cX12_addRule 64 = .ok (.iload 4, 2) := by decide +kernel
theorem dX12_addRule_66 : decode cX12_addRule 66 = .ok (.invokevirtual 49, 3) := by decide +kernel
theorem dX12_addRule_69 : decode cX12_addRule 69 = .ok (.aload_n 0, 1) := by decide +kernel
theorem dX12_addRule_70 : decode cX12_addRule 70 = .ok (.invokevirtual 57, 3) := by decide +kernel
theorem dX12_addRule_73 : decode cX12_addRule 73 = .ok (.aload_n 0, 1) := by decide +kernel
theorem dX12_addRule_74 : decode cX12_addRule 74 = .ok (.getfield 9, 3) := by decide +kernel
theorem dX12_addRule_77 : decode cX12_addRule 77 = .ok (.sipush 2654, 3) := by decide +kernel
theorem dX12_addRule_80 : decode cX12_addRule 80 = .ok (.iaload, 1) := by decide +kernel
theorem dX12_addRule_81 : decode cX12_addRule 81 = .ok (.iconst 1, 1) := by decide +kernel
theorem dX12_addRule_82 : decode cX12_addRule 82 = .ok (.isub, 1) := by decide +kernel
theorem dX12_addRule_83 : decode cX12_addRule 83 = .ok (.ireturn, 1) := by decide +kernel
theorem dX12_addRuleAtom_0 : decode cX12_addRuleAtom 0 = .ok (.aload_n 0, 1) := by decide +kernel
theorem dX12_addRuleAtom_1 : decode cX12_addRuleAtom 1 = .ok (.iconst 0, 1) := by decide +kernel
theorem dX12_addRuleAtom_2 : decode cX12_addRuleAtom 2 = .ok (.putfield 60, 3) := by decide +kernel
theorem dX12_addRuleAtom_5 : decode cX12_addRuleAtom 5 = .ok (.aload_n 0, 1) := by decide +kernel
theorem dX12_addRuleAtom_6 : decode cX12_addRuleAtom 6 = .ok (.iload_n 1, 1) := by decide +kernel
theorem dX12_addRuleAtom_7 : decode cX12_addRuleAtom 7 = .ok (.invokevirtual 239, 3) := by decide +kernel
theorem dX12_addRuleAtom_10 : decode cX12_addRuleAtom 10 = .ok (.ifCond .eq 11, 3) := by decide +kernel
theorem dX12_addRuleAtom_13 : decode cX12_addRuleAtom 13 = .ok (.aload_n 0, 1) := by decide +kernel
theorem dX12_addRuleAtom_14 : decode cX12_addRuleAtom 14 = .ok (.iload_n 2, 1) := by decide +kernel
theorem dX12_addRuleAtom_15 : decode cX12_addRuleAtom 15 = .ok (.invokevirtual 220, 3) := by decide +kernel
theorem dX12_addRuleAtom_18 : decode cX12_addRuleAtom 18 = .ok (.ifCond .ne 9, 3) := by decide +kernel
theorem dX12_addRuleAtom_21 : decode cX12_addRuleAtom 21 = .ok (.aload_n 0, 1) := by decide +kernel
theorem dX12_addRuleAtom_22 : decode cX12_addRuleAtom 22 = .ok (.iconst 1, 1) := by decide +kernel
theorem dX12_addRuleAtom_23 : decode cX12_addRuleAtom 23 = .ok (.invokevirtual 214, 3) := by decide +kernel
theorem dX12_addRuleAtom_26 : decode cX12_addRuleAtom 26 = .ok (.ireturn, 1) := by decide +kernel
theorem dX12_addRuleAtom_27 : decode cX12_addRuleAtom 27 = .ok (.aload_n 0, 1) := by decide +kernel
theorem dX12_addRuleAtom_28 : decode cX12_addRuleAtom 28 = .ok (.iload_n 2, 1) := by decide +kernel
theorem dX12_addRuleAtom_29 : decode cX12_addRuleAtom 29 = .ok (.iload_n 3, 1) := by decide +kernel
theorem dX12_addRuleAtom_30 : decode cX12_addRuleAtom 30 = .ok (.iload 4, 2) := by decide +kernel
theorem dX12_addRuleAtom_32 : decode cX12_addRuleAtom 32 = .ok (.iload 5, 2) := by decide +kernel
theorem dX12_addRuleAtom_34 : decode cX12_addRuleAtom 34 = .ok (.iconst 3, 1) := by decide +kernel
theorem dX12_addRuleAtom_35 : decode cX12_addRuleAtom 35 = .ok (.invokevirtual 223, 3) := by decide +kernel
theorem dX12_addRuleAtom_38 : decode cX12_addRuleAtom 38 = .ok (.ifCond .ne 9, 3) := by decide +kernel
theorem dX12_addRuleAtom_41 : decode cX12_addRuleAtom 41 = .ok (.aload_n 0, 1) := by decide +kernel
theorem dX12_addRuleAtom_42 : decode cX12_addRuleAtom 42 = .ok (.iconst 2, 1) := by decide +kernel
theorem dX12_addRuleAtom_43 : decode cX12_addRuleAtom 43 = .ok (.invokevirtual 214, 3) := by decide +kernel
theorem dX12_addRuleAtom_46 : decode cX12_addRuleAtom 46 = .ok (.ireturn, 1) := by decide +kernel
theorem dX12_addRuleAtom_47 : decode cX12_addRuleAtom 47 = .ok (.aload_n 0, 1) := by decide +kernel
theorem dX12_addRuleAtom_48 : decode cX12_addRuleAtom 48 = .ok (.iload_n 1, 1) := by decide +kernel
theorem dX12_addRuleAtom_49 : decode cX12_addRuleAtom 49 = .ok (.invokevirtual 92, 3) := by decide +kernel
theorem dX12_addRuleAtom_52 : decode cX12_addRuleAtom 52 = .ok (.iconst 4, 1) := by decide +kernel
theorem dX12_addRuleAtom_53 : decode cX12_addRuleAtom 53 = .ok (.if_icmp .ne 9, 3) := by decide +kernel
theorem dX12_addRuleAtom_56 : decode cX12_addRuleAtom 56 = .ok (.aload_n 0, 1) := by decide +kernel
theorem dX12_addRuleAtom_57 : decode cX12_addRuleAtom 57 = .ok (.iconst 3, 1) := by decide +kernel
theorem dX12_addRuleAtom_58 : decode cX12_addRuleAtom 58 = .ok (.invokevirtual 214, 3) := by decide +kernel
theorem dX12_addRuleAtom_61 : decode cX12_addRuleAtom 61 = .ok (.ireturn, 1) := by decide +kernel
theorem dX12_addRuleAtom_62 : decode cX12_addRuleAtom 62 = .ok (.aload_n 0, 1) := by decide +kernel
theorem dX12_addRuleAtom_63 : decode cX12_addRuleAtom 63 = .ok (.iload_n 1, 1) := by decide +kernel
theorem dX12_addRuleAtom_64 : decode cX12_addRuleAtom 64 = .ok (.iload_n 2, 1) := by decide +kernel
theorem dX12_addRuleAtom_65 : decode cX12_addRuleAtom 65 = .ok (.iload_n 3, 1) := by decide +kernel
theorem dX12_addRuleAtom_66 : decode cX12_addRuleAtom 66 = .ok (.iload 4, 2) := by decide +kernel
theorem dX12_addRuleAtom_68 : decode cX12_addRuleAtom 68 = .ok (.iload 5, 2) := by decide +kernel
theorem dX12_addRuleAtom_70 : decode cX12_addRuleAtom 70 = .ok (.iload 6, 2) := by decide +kernel
theorem dX12_addRuleAtom_72 : decode cX12_addRuleAtom 72 = .ok (.ifCond .eq 7, 3) := by decide +kernel
theorem dX12_addRuleAtom_75 : decode cX12_addRuleAtom 75 = .ok (.iconst 1, 1) := by decide +kernel
theorem dX12_addRuleAtom_76 : decode cX12_addRuleAtom 76 = .ok (.goto 4, 3) := by decide +kernel
theorem dX12_addRuleAtom_79 : decode cX12_addRuleAtom 79 = .ok (.iconst 0, 1) := by decide +kernel
theorem dX12_addRuleAtom_80 : decode cX12_addRuleAtom 80 = .ok (.invokevirtual 53, 3) := by decide +kernel
theorem dX12_addRuleAtom_83 : decode cX12_addRuleAtom 83 = .ok (.aload_n 0, 1) := by decide +kernel
theorem dX12_addRuleAtom_84 : decode cX12_addRuleAtom 84 = .ok (.invokevirtual 138, 3) := by decide +kernel
theorem dX12_addRuleAtom_87 : decode cX12_addRuleAtom 87 = .ok (.istore 7, 2) := by decide +kernel
theorem dX12_addRuleAtom_89 : decode cX12_addRuleAtom 89 = .ok (.aload_n 0, 1) := by decide +kernel
theorem dX12_addRuleAtom_90 : decode cX12_addRuleAtom 90 = .ok (.getfield 9, 3) := by decide +kernel
theorem dX12_addRuleAtom_93 : decode cX12_addRuleAtom 93 = .ok (.aload_n 0, 1) := by decide +kernel
theorem dX12_addRuleAtom_94 : decode cX12_addRuleAtom 94 = .ok (.iload_n 1, 1) := by decide +kernel
theorem dX12_addRuleAtom_95 : decode cX12_addRuleAtom 95 = .ok (.invokevirtual 86, 3) := by decide +kernel
theorem dX12_addRuleAtom_98 : decode cX12_addRuleAtom 98 = .ok (.iconst 4, 1) := by decide +kernel
theorem dX12_addRuleAtom_99 : decode cX12_addRuleAtom 99 = .ok (.iadd, 1) := by decide +kernel
theorem dX12_addRuleAtom_100 : decode cX12_addRuleAtom 100 = .ok (.dup2, 1) := by decide +kernel
theorem dX12_addRuleAtom_101 : decode cX12_addRuleAtom 101 = .ok (.iaload, 1) := by decide +kernel
theorem dX12_addRuleAtom_102 : decode cX12_addRuleAtom 102 = .ok (.iconst 1, 1) := by decide +kernel
theorem dX12_addRuleAtom_103 : decode cX12_addRuleAtom 103 = .ok (.isub, 1) := by decide +kernel
theorem dX12_addRuleAtom_104 : decode cX12_addRuleAtom 104 = .ok (.iastore, 1) := by decide +kernel
theorem dX12_addRuleAtom_105 : decode cX12_addRuleAtom 105 = .ok (.iload 7, 2) := by decide +kernel
theorem dX12_addRuleAtom_107 : decode cX12_addRuleAtom 107 = .ok (.ifCond .ne 15, 3) := by decide +kernel
theorem dX12_addRuleAtom_110 : decode cX12_addRuleAtom 110 = .ok (.aload_n 0, 1) := by decide +kernel
theorem dX12_addRuleAtom_111 : decode cX12_addRuleAtom 111 = .ok (.invokevirtual 138, 3) := by decide +kernel
theorem dX12_addRuleAtom_114 : decode cX12_addRuleAtom 114 = .ok (.istore 7, 2) := by decide +kernel
theorem dX12_addRuleAtom_116 : decode cX12_addRuleAtom 116 = .ok (.aload_n 0, 1) := by decide +kernel
theorem dX12_addRuleAtom_117 : decode cX12_addRuleAtom 117 = .ok (.iconst 3, 1) := by decide +kernel
theorem dX12_addRuleAtom_118 : decode cX12_addRuleAtom 118 = .ok (.invokevirtual 214, 3) := by decide +kernel
theorem dX12_addRuleAtom_121 : decode cX12_addRuleAtom 121 = .ok (.ireturn, 1) := by decide +kernel
theorem dX12_addRuleAtom_122 : decode cX12_addRuleAtom 122 = .ok (.aload_n 0, 1) := by decide +kernel
theorem dX12_addRuleAtom_123 : decode cX12_addRuleAtom 123 = .ok (.invokevirtual 217, 3) := by decide +kernel
theorem dX12_addRuleAtom_126 : decode cX12_addRuleAtom 126 = .ok (.aload_n 0, 1) := by decide +kernel
theorem dX12_addRuleAtom_127 : decode cX12_addRuleAtom 127 = .ok (.iload_n 1, 1) := by decide +kernel
theorem dX12_addRuleAtom_128 : decode cX12_addRuleAtom 128 = .ok (.iload_n 2, 1) := by decide +kernel
theorem dX12_addRuleAtom_129 : decode cX12_addRuleAtom 129 = .ok (.iload_n 3, 1) := by decide +kernel
theorem dX12_addRuleAtom_130 : decode cX12_addRuleAtom 130 = .ok (.iload 4, 2) := by decide +kernel
theorem dX12_addRuleAtom_132 : decode cX12_addRuleAtom 132 = .ok (.iload 5, 2) := by decide +kernel
theorem dX12_addRuleAtom_134 : decode cX12_addRuleAtom 134 = .ok (.iload 6, 2) := by decide +kernel
theorem dX12_addRuleAtom_136 : decode cX12_addRuleAtom 136 = .ok (.ifCond .eq 7, 3) := by decide +kernel
theorem dX12_addRuleAtom_139 : decode cX12_addRuleAtom 139 = .ok (.iconst 1, 1) := by decide +kernel
theorem dX12_addRuleAtom_140 : decode cX12_addRuleAtom 140 = .ok (.goto 4, 3) := by decide +kernel
theorem dX12_addRuleAtom_143 : decode cX12_addRuleAtom 143 = .ok (.iconst 0, 1) := by decide +kernel
theorem dX12_addRuleAtom_144 : decode cX12_addRuleAtom 144 = .ok (.invokevirtual 53, 3) := by decide +kernel
theorem dX12_addRuleAtom_147 : decode cX12_addRuleAtom 147 = .ok (.aload_n 0, 1) := by decide +kernel
theorem dX12_addRuleAtom_148 : decode cX12_addRuleAtom 148 = .ok (.invokevirtual 57, 3) := by decide +kernel
theorem dX12_addRuleAtom_151 : decode cX12_addRuleAtom 151 = .ok (.aload_n 0, 1) := by decide +kernel
theorem dX12_addRuleAtom_152 : decode cX12_addRuleAtom 152 = .ok (.iload_n 1, 1) := by decide +kernel
theorem dX12_addRuleAtom_153 : decode cX12_addRuleAtom 153 = .ok (.invokevirtual 92, 3) := by decide +kernel
theorem dX12_addRuleAtom_156 : decode cX12_addRuleAtom 156 = .ok (.ireturn, 1) := by decide +kernel
theorem dX12_dropRule_0 : decode cX12_dropRule 0 = .ok (.aload_n 0, 1) := by decide +kernel
theorem dX12_dropRule_1 : decode cX12_dropRule 1 = .ok (.iconst 0, 1) := by decide +kernel
theorem dX12_dropRule_2 : decode cX12_dropRule 2 = .ok (.putfield 60, 3) := by decide +kernel
theorem dX12_dropRule_5 : decode cX12_dropRule 5 = .ok (.aload_n 0, 1) := by decide +kernel
theorem dX12_dropRule_6 : decode cX12_dropRule 6 = .ok (.iload_n 1, 1) := by decide +kernel
theorem dX12_dropRule_7 : decode cX12_dropRule 7 = .ok (.invokevirtual 239, 3) := by decide +kernel
theorem dX12_dropRule_10 : decode cX12_dropRule 10 = .ok (.ifCond .ne 9, 3) := by decide +kernel
theorem dX12_dropRule_13 : decode cX12_dropRule 13 = .ok (.aload_n 0, 1) := by decide +kernel
theorem dX12_dropRule_14 : decode cX12_dropRule 14 = .ok (.iconst 1, 1) := by decide +kernel
theorem dX12_dropRule_15 : decode cX12_dropRule 15 = .ok (.invokevirtual 214, 3) := by decide +kernel
theorem dX12_dropRule_18 : decode cX12_dropRule 18 = .ok (.ireturn, 1) := by decide +kernel
theorem dX12_dropRule_19 : decode cX12_dropRule 19 = .ok (.aload_n 0, 1) := by decide +kernel
theorem dX12_dropRule_20 : decode cX12_dropRule 20 = .ok (.invokevirtual 217, 3) := by decide +kernel
theorem dX12_dropRule_23 : decode cX12_dropRule 23 = .ok (.aload_n 0, 1) := by decide +kernel
theorem dX12_dropRule_24 : decode cX12_dropRule 24 = .ok (.iload_n 1, 1) := by decide +kernel
theorem dX12_dropRule_25 : decode cX12_dropRule 25 = .ok (.invokevirtual 86, 3) := by decide +kernel
theorem dX12_dropRule_28 : decode cX12_dropRule 28 = .ok (.istore_n 2, 1) := by decide +kernel
theorem dX12_dropRule_29 : decode cX12_dropRule 29 = .ok (.iload_n 2, 1) := by decide +kernel
theorem dX12_dropRule_30 : decode cX12_dropRule 30 = .ok (.aload_n 0, 1) := by decide +kernel
theorem dX12_dropRule_31 : decode cX12_dropRule 31 = .ok (.iconst 4, 1) := by decide +kernel
theorem dX12_dropRule_32 : decode cX12_dropRule 32 = .ok (.invokevirtual 86, 3) := by decide +kernel
theorem dX12_dropRule_35 : decode cX12_dropRule 35 = .ok (.if_icmp .ge 24, 3) := by decide +kernel
theorem dX12_dropRule_38 : decode cX12_dropRule 38 = .ok (.aload_n 0, 1) := by decide +kernel
theorem dX12_dropRule_39 : decode cX12_dropRule 39 = .ok (.getfield 9, 3) := by decide +kernel
theorem dX12_dropRule_42 : decode cX12_dropRule 42 = .ok (.iload_n 2, 1) := by decide +kernel
theorem dX12_dropRule_43 : decode cX12_dropRule 43 = .ok (.aload_n 0, 1) := by decide +kernel
theorem dX12_dropRule_44 : decode cX12_dropRule 44 = .ok (.getfield 9, 3) := by decide +kernel
theorem dX12_dropRule_47 : decode cX12_dropRule 47 = .ok (.iload_n 2, 1) := by decide +kernel
theorem dX12_dropRule_48 : decode cX12_dropRule 48 = .ok (.bipush 25, 2) := by decide +kernel
theorem dX12_dropRule_50 : decode cX12_dropRule 50 = .ok (.iadd, 1) := by decide +kernel
theorem dX12_dropRule_51 : decode cX12_dropRule 51 = .ok (.iaload, 1) := by decide +kernel
theorem dX12_dropRule_52 : decode cX12_dropRule 52 = .ok (.iastore, 1) := by decide +kernel
theorem dX12_dropRule_53 : decode cX12_dropRule 53 = .ok (.iinc 2 1, 3) := by decide +kernel
theorem dX12_dropRule_56 : decode cX12_dropRule 56 = .ok (.goto (-27), 3) := by decide +kernel
theorem dX12_dropRule_59 : decode cX12_dropRule 59 = .ok (.aload_n 0, 1) := by decide +kernel
theorem dX12_dropRule_60 : decode cX12_dropRule 60 = .ok (.getfield 9, 3) := by decide +kernel
theorem dX12_dropRule_63 : decode cX12_dropRule 63 = .ok (.sipush 2654, 3) := by decide +kernel
theorem dX12_dropRule_66 : decode cX12_dropRule 66 = .ok (.dup2, 1) := by decide +kernel
theorem dX12_dropRule_67 : decode cX12_dropRule 67 = .ok (.iaload, 1) := by decide +kernel
theorem dX12_dropRule_68 : decode cX12_dropRule 68 = .ok (.iconst 1, 1) := by decide +kernel
theorem dX12_dropRule_69 : decode cX12_dropRule 69 = .ok (.isub, 1) := by decide +kernel
theorem dX12_dropRule_70 : decode cX12_dropRule 70 = .ok (.iastore, 1) := by decide +kernel
theorem dX12_dropRule_71 : decode cX12_dropRule 71 = .ok (.aload_n 0, 1) := by decide +kernel
theorem dX12_dropRule_72 : decode cX12_dropRule 72 = .ok (.invokevirtual 57, 3) := by decide +kernel
theorem dX12_dropRule_75 : decode cX12_dropRule 75 = .ok (.aload_n 0, 1) := by decide +kernel
theorem dX12_dropRule_76 : decode cX12_dropRule 76 = .ok (.getfield 9, 3) := by decide +kernel
theorem dX12_dropRule_79 : decode cX12_dropRule 79 = .ok (.sipush 2654, 3) := by decide +kernel
theorem dX12_dropRule_82 : decode cX12_dropRule 82 = .ok (.iaload, 1) := by decide +kernel
theorem dX12_dropRule_83 : decode cX12_dropRule 83 = .ok (.ireturn, 1) := by decide +kernel
theorem dX12_undo_0 : decode cX12_undo 0 = .ok (.aload_n 0, 1) := by decide +kernel
theorem dX12_undo_1 : decode cX12_undo 1 = .ok (.iconst 0, 1) := by decide +kernel
theorem dX12_undo_2 : decode cX12_undo 2 = .ok (.putfield 60, 3) := by decide +kernel
theorem dX12_undo_5 : decode cX12_undo 5 = .ok (.aload_n 0, 1) := by decide +kernel
theorem dX12_undo_6 : decode cX12_undo 6 = .ok (.getfield 95, 3) := by decide +kernel
theorem dX12_undo_9 : decode cX12_undo 9 = .ok (.ifCond .ne 5, 3) := by decide +kernel
theorem dX12_undo_12 : decode cX12_undo 12 = .ok (.iconst (-1), 1) := by decide +kernel
theorem dX12_undo_13 : decode cX12_undo 13 = .ok (.ireturn, 1) := by decide +kernel
theorem dX12_undo_14 : decode cX12_undo 14 = .ok (.aload_n 0, 1) := by decide +kernel
theorem dX12_undo_15 : decode cX12_undo 15 = .ok (.dup, 1) := by decide +kernel
theorem dX12_undo_16 : decode cX12_undo 16 = .ok (.getfield 95, 3) := by decide +kernel
theorem dX12_undo_19 : decode cX12_undo 19 = .ok (.iconst 1, 1) := by decide +kernel
theorem dX12_undo_20 : decode cX12_undo 20 = .ok (.isub, 1) := by decide +kernel
theorem dX12_undo_21 : decode cX12_undo 21 = .ok (.putfield 95, 3) := by decide +kernel
theorem dX12_undo_24 : decode cX12_undo 24 = .ok (.aload_n 0, 1) := by decide +kernel
theorem dX12_undo_25 : decode cX12_undo 25 = .ok (.getfield 13, 3) := by decide +kernel
theorem dX12_undo_28 : decode cX12_undo 28 = .ok (.aload_n 0, 1) := by decide +kernel
theorem dX12_undo_29 : decode cX12_undo 29 = .ok (.getfield 95, 3) := by decide +kernel
theorem dX12_undo_32 : decode cX12_undo 32 = .ok (.sipush 2780, 3) := by decide +kernel
theorem dX12_undo_35 : decode cX12_undo 35 = .ok (.imul, 1) := by decide +kernel
theorem dX12_undo_36 : decode cX12_undo 36 = .ok (.aload_n 0, 1) := by decide +kernel
theorem dX12_undo_37 : decode cX12_undo 37 = .ok (.getfield 9, 3) := by decide +kernel
theorem dX12_undo_40 : decode cX12_undo 40 = .ok (.iconst 0, 1) := by decide +kernel
theorem dX12_undo_41 : decode cX12_undo 41 = .ok (.sipush 2780, 3) := by decide +kernel
theorem dX12_undo_44 : decode cX12_undo 44 = .ok (.invokestatic 98, 3) := by decide +kernel
theorem dX12_undo_47 : decode cX12_undo 47 = .ok (.aload_n 0, 1) := by decide +kernel
theorem dX12_undo_48 : decode cX12_undo 48 = .ok (.invokevirtual 57, 3) := by decide +kernel
theorem dX12_undo_51 : decode cX12_undo 51 = .ok (.aload_n 0, 1) := by decide +kernel
theorem dX12_undo_52 : decode cX12_undo 52 = .ok (.getfield 95, 3) := by decide +kernel
theorem dX12_undo_55 : decode cX12_undo 55 = .ok (.ireturn, 1) := by decide +kernel
theorem dX12_tableCount_0 : decode cX12_tableCount 0 = .ok (.aload_n 0, 1) := by decide +kernel
theorem dX12_tableCount_1 : decode cX12_tableCount 1 = .ok (.iconst 0, 1) := by decide +kernel
theorem dX12_tableCount_2 : decode cX12_tableCount 2 = .ok (.putfield 60, 3) := by decide +kernel
theorem dX12_tableCount_5 : decode cX12_tableCount 5 = .ok (.aload_n 0, 1) := by decide +kernel
theorem dX12_tableCount_6 : decode cX12_tableCount 6 = .ok (.getfield 9, 3) := by decide +kernel
theorem dX12_tableCount_9 : decode cX12_tableCount 9 = .ok (.iconst 0, 1) := by decide +kernel
theorem dX12_tableCount_10 : decode cX12_tableCount 10 = .ok (.iaload, 1) := by decide +kernel
theorem dX12_tableCount_11 : decode cX12_tableCount 11 = .ok (.ireturn, 1) := by decide +kernel
theorem dX12_columns_0 : decode cX12_columns 0 = .ok (.aload_n 0, 1) := by decide +kernel
theorem dX12_columns_1 : decode cX12_columns 1 = .ok (.iconst 0, 1) := by decide +kernel
theorem dX12_columns_2 : decode cX12_columns 2 = .ok (.putfield 60, 3) := by decide +kernel
theorem dX12_columns_5 : decode cX12_columns 5 = .ok (.aload_n 0, 1) := by decide +kernel
theorem dX12_columns_6 : decode cX12_columns 6 = .ok (.iload_n 1, 1) := by decide +kernel
theorem dX12_columns_7 : decode cX12_columns 7 = .ok (.invokevirtual 220, 3) := by decide +kernel
theorem dX12_columns_10 : decode cX12_columns 10 = .ok (.ifCond .eq 11, 3) := by decide +kernel
theorem dX12_columns_13 : decode cX12_columns 13 = .ok (.aload_n 0, 1) := by decide +kernel
theorem dX12_columns_14 : decode cX12_columns 14 = .ok (.iload_n 1, 1) := by decide +kernel
theorem dX12_columns_15 : decode cX12_columns 15 = .ok (.invokevirtual 68, 3) := by decide +kernel
theorem dX12_columns_18 : decode cX12_columns 18 = .ok (.goto 8, 3) := by decide +kernel
theorem dX12_columns_21 : decode cX12_columns 21 = .ok (.aload_n 0, 1) := by decide +kernel
theorem dX12_columns_22 : decode cX12_columns 22 = .ok (.iconst 1, 1) := by decide +kernel
theorem dX12_columns_23 : decode cX12_columns 23 = .ok (.invokevirtual 214, 3) := by decide +kernel
theorem dX12_columns_26 : decode cX12_columns 26 = .ok (.ireturn, 1) := by decide +kernel
theorem dX12_factCount_0 : decode cX12_factCount 0 = .ok (.aload_n 0, 1) := by decide +kernel
theorem dX12_factCount_1 : decode cX12_factCount 1 = .ok (.iconst 0, 1) := by decide +kernel
theorem dX12_factCount_2 : decode cX12_factCount 2 = .ok (.putfield 60, 3) := by decide +kernel
theorem dX12_factCount_5 : decode cX12_factCount 5 = .ok (.aload_n 0, 1) := by decide +kernel
theorem dX12_factCount_6 : decode cX12_factCount 6 = .ok (.iload_n 1, 1) := by decide +kernel
theorem dX12_factCount_7 : decode cX12_factCount 7 = .ok (.invokevirtual 220, 3) := by decide +kernel
theorem dX12_factCount_10 : decode cX12_factCount 10 = .ok (.ifCond .eq 11, 3) := by decide +kernel
theorem dX12_factCount_13 : decode cX12_factCount 13 = .ok (.aload_n 0, 1) := by decide +kernel
theorem dX12_factCount_14 : decode cX12_factCount 14 = .ok (.iload_n 1, 1) := by decide +kernel
theorem dX12_factCount_15 : decode cX12_factCount 15 = .ok (.invokevirtual 227, 3) := by decide +kernel
theorem dX12_factCount_18 : decode cX12_factCount 18 = .ok (.goto 8, 3) := by decide +kernel
theorem dX12_factCount_21 : decode cX12_factCount 21 = .ok (.aload_n 0, 1) := by decide +kernel
theorem dX12_factCount_22 : decode cX12_factCount 22 = .ok (.iconst 1, 1) := by decide +kernel
theorem dX12_factCount_23 : decode cX12_factCount 23 = .ok (.invokevirtual 214, 3) := by decide +kernel
theorem dX12_factCount_26 : decode cX12_factCount 26 = .ok (.ireturn, 1) := by decide +kernel
theorem dX12_rowCount_0 : decode cX12_rowCount 0 = .ok (.aload_n 0, 1) := by decide +kernel
theorem dX12_rowCount_1 : decode cX12_rowCount 1 = .ok (.iconst 0, 1) := by decide +kernel
theorem dX12_rowCount_2 : decode cX12_rowCount 2 = .ok (.putfield 60, 3) := by decide +kernel
theorem dX12_rowCount_5 : decode cX12_rowCount 5 = .ok (.aload_n 0, 1) := by decide +kernel
theorem dX12_rowCount_6 : decode cX12_rowCount 6 = .ok (.iload_n 1, 1) := by decide +kernel
theorem dX12_rowCount_7 : decode cX12_rowCount 7 = .ok (.invokevirtual 220, 3) := by decide +kernel
theorem dX12_rowCount_10 : decode cX12_rowCount 10 = .ok (.ifCond .eq 11, 3) := by decide +kernel
theorem dX12_rowCount_13 : decode cX12_rowCount 13 = .ok (.aload_n 0, 1) := by decide +kernel
theorem dX12_rowCount_14 : decode cX12_rowCount 14 = .ok (.iload_n 1, 1) := by decide +kernel
theorem dX12_rowCount_15 : decode cX12_rowCount 15 = .ok (.invokevirtual 242, 3) := by decide +kernel
theorem dX12_rowCount_18 : decode cX12_rowCount 18 = .ok (.goto 8, 3) := by decide +kernel
theorem dX12_rowCount_21 : decode cX12_rowCount 21 = .ok (.aload_n 0, 1) := by decide +kernel
theorem dX12_rowCount_22 : decode cX12_rowCount 22 = .ok (.iconst 1, 1) := by decide +kernel
theorem dX12_rowCount_23 : decode cX12_rowCount 23 = .ok (.invokevirtual 214, 3) := by decide +kernel
theorem dX12_rowCount_26 : decode cX12_rowCount 26 = .ok (.ireturn, 1) := by decide +kernel
theorem dX12_isFact_0 : decode cX12_isFact 0 = .ok (.aload_n 0, 1) := by decide +kernel
theorem dX12_isFact_1 : decode cX12_isFact 1 = .ok (.iconst 0, 1) := by decide +kernel
theorem dX12_isFact_2 : decode cX12_isFact 2 = .ok (.putfield 60, 3) := by decide +kernel
theorem dX12_isFact_5 : decode cX12_isFact 5 = .ok (.aload_n 0, 1) := by decide +kernel
theorem dX12_isFact_6 : decode cX12_isFact 6 = .ok (.aload_n 0, 1) := by decide +kernel
theorem dX12_isFact_7 : decode cX12_isFact 7 = .ok (.iload_n 1, 1) := by decide +kernel
theorem dX12_isFact_8 : decode cX12_isFact 8 = .ok (.invokevirtual 220, 3) := by decide +kernel
theorem dX12_isFact_11 : decode cX12_isFact 11 = .ok (.ifCond .ne 7, 3) := by decide +kernel
theorem dX12_isFact_14 : decode cX12_isFact 14 = .ok (.iconst 1, 1) := by decide +kernel
theorem dX12_isFact_15 : decode cX12_isFact 15 = .ok (.goto 22, 3) := by decide +kernel
theorem dX12_isFact_18 : decode cX12_isFact 18 = .ok (.aload_n 0, 1) := by decide +kernel
theorem dX12_isFact_19 : decode cX12_isFact 19 = .ok (.iload_n 1, 1) := by decide +kernel
theorem dX12_isFact_20 : decode cX12_isFact 20 = .ok (.iload_n 2, 1) := by decide +kernel
theorem dX12_isFact_21 : decode cX12_isFact 21 = .ok (.iload_n 3, 1) := by decide +kernel
theorem dX12_isFact_22 : decode cX12_isFact 22 = .ok (.iload 4, 2) := by decide +kernel
theorem dX12_isFact_24 : decode cX12_isFact 24 = .ok (.bipush 7, 2) := by decide +kernel
theorem dX12_isFact_26 : decode cX12_isFact 26 = .ok (.invokevirtual 223, 3) := by decide +kernel
theorem dX12_isFact_29 : decode cX12_isFact 29 = .ok (.ifCond .ne 7, 3) := by decide +kernel
theorem dX12_isFact_32 : decode cX12_isFact 32 = .ok (.iconst 2, 1) := by decide +kernel
theorem dX12_isFact_33 : decode cX12_isFact 33 = .ok (.goto 4, 3) := by decide +kernel
theorem dX12_isFact_36 : decode cX12_isFact 36 = .ok (.iconst 0, 1) := by decide +kernel
theorem dX12_isFact_37 : decode cX12_isFact 37 = .ok (.putfield 60, 3) := by decide +kernel
theorem dX12_isFact_40 : decode cX12_isFact 40 = .ok (.aload_n 0, 1) := by decide +kernel
theorem dX12_isFact_41 : decode cX12_isFact 41 = .ok (.getfield 60, 3) := by decide +kernel
theorem dX12_isFact_44 : decode cX12_isFact 44 = .ok (.ifCond .ne 22, 3) := by decide +kernel
theorem dX12_isFact_47 : decode cX12_isFact 47 = .ok (.aload_n 0, 1) := by decide +kernel
theorem dX12_isFact_48 : decode cX12_isFact 48 = .ok (.iload_n 1, 1) := by decide +kernel
theorem dX12_isFact_49 : decode cX12_isFact 49 = .ok (.iload_n 2, 1) := by decide +kernel
theorem dX12_isFact_50 : decode cX12_isFact 50 = .ok (.iload_n 3, 1) := by decide +kernel
theorem dX12_isFact_51 : decode cX12_isFact 51 = .ok (.iload 4, 2) := by decide +kernel
theorem dX12_isFact_53 : decode cX12_isFact 53 = .ok (.invokestatic 72, 3) := by decide +kernel
theorem dX12_isFact_56 : decode cX12_isFact 56 = .ok (.invokevirtual 148, 3) := by decide +kernel
theorem dX12_isFact_59 : decode cX12_isFact 59 = .ok (.ifCond .eq 7, 3) := by decide +kernel
theorem dX12_isFact_62 : decode cX12_isFact 62 = .ok (.iconst 1, 1) := by decide +kernel
theorem dX12_isFact_63 : decode cX12_isFact 63 = .ok (.goto 4, 3) := by decide +kernel
theorem dX12_isFact_66 : decode cX12_isFact 66 = .ok (.iconst 0, 1) := by decide +kernel
theorem dX12_isFact_67 : decode cX12_isFact 67 = .ok (.ireturn, 1) := by decide +kernel
theorem dX12_reasons_0 : decode cX12_reasons 0 = .ok (.aload_n 0, 1) := by decide +kernel
theorem dX12_reasons_1 : decode cX12_reasons 1 = .ok (.iconst 0, 1) := by decide +kernel
theorem dX12_reasons_2 : decode cX12_reasons 2 = .ok (.putfield 60, 3) := by decide +kernel
theorem dX12_reasons_5 : decode cX12_reasons 5 = .ok (.aload_n 0, 1) := by decide +kernel
theorem dX12_reasons_6 : decode cX12_reasons 6 = .ok (.iload_n 1, 1) := by decide +kernel
theorem dX12_reasons_7 : decode cX12_reasons 7 = .ok (.invokevirtual 220, 3) := by decide +kernel
theorem dX12_reasons_10 : decode cX12_reasons 10 = .ok (.ifCond .ne 9, 3) := by decide +kernel
theorem dX12_reasons_13 : decode cX12_reasons 13 = .ok (.aload_n 0, 1) := by decide +kernel
theorem dX12_reasons_14 : decode cX12_reasons 14 = .ok (.iconst 1, 1) := by decide +kernel
theorem dX12_reasons_15 : decode cX12_reasons 15 = .ok (.invokevirtual 214, 3) := by decide +kernel
theorem dX12_reasons_18 : decode cX12_reasons 18 = .ok (.ireturn, 1) := by decide +kernel
theorem dX12_reasons_19 : decode cX12_reasons 19 = .ok (.aload_n 0, 1) := by decide +kernel
theorem dX12_reasons_20 : decode cX12_reasons 20 = .ok (.iload_n 1, 1) := by decide +kernel
theorem dX12_reasons_21 : decode cX12_reasons 21 = .ok (.iload_n 2, 1) := by decide +kernel
theorem dX12_reasons_22 : decode cX12_reasons 22 = .ok (.iload_n 3, 1) := by decide +kernel
theorem dX12_reasons_23 : decode cX12_reasons 23 = .ok (.iload 4, 2) := by decide +kernel
theorem dX12_reasons_25 : decode cX12_reasons 25 = .ok (.bipush 7, 2) := by decide +kernel
theorem dX12_reasons_27 : decode cX12_reasons 27 = .ok (.invokevirtual 223, 3) := by decide +kernel
theorem dX12_reasons_30 : decode cX12_reasons 30 = .ok (.ifCond .ne 9, 3) := by decide +kernel
theorem dX12_reasons_33 : decode cX12_reasons 33 = .ok (.aload_n 0, 1) := by decide +kernel
theorem dX12_reasons_34 : decode cX12_reasons 34 = .ok (.iconst 2, 1) := by decide +kernel
theorem dX12_reasons_35 : decode cX12_reasons 35 = .ok (.invokevirtual 214, 3) := by decide +kernel
theorem dX12_reasons_38 : decode cX12_reasons 38 = .ok (.ireturn, 1) := by decide +kernel
theorem dX12_reasons_39 : decode cX12_reasons 39 = .ok (.aload_n 0, 1) := by decide +kernel
theorem dX12_reasons_40 : decode cX12_reasons 40 = .ok (.iload_n 1, 1) := by decide +kernel
theorem dX12_reasons_41 : decode cX12_reasons 41 = .ok (.iload_n 2, 1) := by decide +kernel
theorem dX12_reasons_42 : decode cX12_reasons 42 = .ok (.iload_n 3, 1) := by decide +kernel
theorem dX12_reasons_43 : decode cX12_reasons 43 = .ok (.iload 4, 2) := by decide +kernel
theorem dX12_reasons_45 : decode cX12_reasons 45 = .ok (.invokestatic 72, 3) := by decide +kernel
theorem dX12_reasons_48 : decode cX12_reasons 48 = .ok (.invokevirtual 245, 3) := by decide +kernel
theorem dX12_reasons_51 : decode cX12_reasons 51 = .ok (.ireturn, 1) := by decide +kernel
theorem dX12_rowAt_0 : decode cX12_rowAt 0 = .ok (.aload_n 0, 1) := by decide +kernel
theorem dX12_rowAt_1 : decode cX12_rowAt 1 = .ok (.iconst 0, 1) := by decide +kernel
theorem dX12_rowAt_2 : decode cX12_rowAt 2 = .ok (.putfield 60, 3) := by decide +kernel
theorem dX12_rowAt_5 : decode cX12_rowAt 5 = .ok (.aload_n 0, 1) := by decide +kernel
theorem dX12_rowAt_6 : decode cX12_rowAt 6 = .ok (.iload_n 1, 1) := by decide +kernel
theorem dX12_rowAt_7 : decode cX12_rowAt 7 = .ok (.invokevirtual 220, 3) := by decide +kernel
theorem dX12_rowAt_10 : decode cX12_rowAt 10 = .ok (.ifCond .eq 33, 3) := by decide +kernel
theorem dX12_rowAt_13 : decode cX12_rowAt 13 = .ok (.iload_n 2, 1) := by decide +kernel
theorem dX12_rowAt_14 : decode cX12_rowAt 14 = .ok (.iconst 0, 1) := by decide +kernel
theorem dX12_rowAt_15 : decode cX12_rowAt 15 = .ok (.aload_n 0, 1) := by decide +kernel
theorem dX12_rowAt_16 : decode cX12_rowAt 16 = .ok (.iload_n 1, 1) := by decide +kernel
theorem dX12_rowAt_17 : decode cX12_rowAt 17 = .ok (.invokevirtual 242, 3) := by decide +kernel
theorem dX12_rowAt_20 : decode cX12_rowAt 20 = .ok (.iconst 1, 1) := by decide +kernel
theorem dX12_rowAt_21 : decode cX12_rowAt 21 = .ok (.isub, 1) := by decide +kernel
theorem dX12_rowAt_22 : decode cX12_rowAt 22 = .ok (.invokestatic 64, 3) := by decide +kernel
theorem dX12_rowAt_25 : decode cX12_rowAt 25 = .ok (.ifCond .eq 18, 3) := by decide +kernel
theorem dX12_rowAt_28 : decode cX12_rowAt 28 = .ok (.iload_n 3, 1) := by decide +kernel
theorem dX12_rowAt_29 : decode cX12_rowAt 29 = .ok (.iconst 0, 1) := by decide +kernel
theorem dX12_rowAt_30 : decode cX12_rowAt 30 = .ok (.aload_n 0, 1) := by decide +kernel
theorem dX12_rowAt_31 : decode cX12_rowAt 31 = .ok (.iload_n 1, 1) := by decide +kernel
theorem dX12_rowAt_32 : decode cX12_rowAt 32 = .ok (.invokevirtual 68, 3) := by decide +kernel
theorem dX12_rowAt_35 : decode cX12_rowAt 35 = .ok (.iconst 1, 1) := by decide +kernel
theorem dX12_rowAt_36 : decode cX12_rowAt 36 = .ok (.isub, 1) := by decide +kernel
theorem dX12_rowAt_37 : decode cX12_rowAt 37 = .ok (.invokestatic 64, 3) := by decide +kernel
theorem dX12_rowAt_40 : decode cX12_rowAt 40 = .ok (.ifCond .ne 9, 3) := by decide +kernel
theorem dX12_rowAt_43 : decode cX12_rowAt 43 = .ok (.aload_n 0, 1) := by decide +kernel
theorem dX12_rowAt_44 : decode cX12_rowAt 44 = .ok (.iconst 1, 1) := by decide +kernel
theorem dX12_rowAt_45 : decode cX12_rowAt 45 = .ok (.invokevirtual 214, 3) := by decide +kernel
theorem dX12_rowAt_48 : decode cX12_rowAt 48 = .ok (.ireturn, 1) := by decide +kernel
theorem dX12_rowAt_49 : decode cX12_rowAt 49 = .ok (.iconst (-1), 1) := by decide +kernel
theorem dX12_rowAt_50 : decode cX12_rowAt 50 = .ok (.istore 4, 2) := by decide +kernel
theorem dX12_rowAt_52 : decode cX12_rowAt 52 = .ok (.iload_n 2, 1) := by decide +kernel
theorem dX12_rowAt_53 : decode cX12_rowAt 53 = .ok (.istore 5, 2) := by decide +kernel
theorem dX12_rowAt_55 : decode cX12_rowAt 55 = .ok (.iload 5, 2) := by decide +kernel
theorem dX12_rowAt_57 : decode cX12_rowAt 57 = .ok (.ifCond .lt 34, 3) := by decide +kernel
theorem dX12_rowAt_60 : decode cX12_rowAt 60 = .ok (.iinc 4 1, 3) := by decide +kernel
theorem dX12_rowAt_63 : decode cX12_rowAt 63 = .ok (.aload_n 0, 1) := by decide +kernel
theorem dX12_rowAt_64 : decode cX12_rowAt 64 = .ok (.getfield 16, 3) := by decide +kernel
theorem dX12_rowAt_67 : decode cX12_rowAt 67 = .ok (.sipush 512, 3) := by decide +kernel
theorem dX12_rowAt_70 : decode cX12_rowAt 70 = .ok (.iload_n 1, 1) := by decide +kernel
theorem dX12_rowAt_71 : decode cX12_rowAt 71 = .ok (.imul, 1) := by decide +kernel
theorem dX12_rowAt_72 : decode cX12_rowAt 72 = .ok (.iload 4, 2) := by decide +kernel
theorem dX12_rowAt_74 : decode cX12_rowAt 74 = .ok (.iadd, 1) := by decide +kernel
theorem dX12_rowAt_75 : decode cX12_rowAt 75 = .ok (.baload, 1) := by decide +kernel
theorem dX12_rowAt_76 : decode cX12_rowAt 76 = .ok (.ifCond .ne 9, 3) := by decide +kernel
theorem dX12_rowAt_79 : decode cX12_rowAt 79 = .ok (.iinc 4 1, 3) := by decide +kernel
theorem dX12_rowAt_82 : decode cX12_rowAt 82 = .ok (.goto (-19), 3) := by decide +kernel
theorem dX12_rowAt_85 : decode cX12_rowAt 85 = .ok (.iinc 5 (-1), 3) := by decide +kernel
theorem dX12_rowAt_88 : decode cX12_rowAt 88 = .ok (.goto (-33), 3) := by decide +kernel
theorem dX12_rowAt_91 : decode cX12_rowAt 91 = .ok (.iload 4, 2) := by decide +kernel
theorem dX12_rowAt_93 : decode cX12_rowAt 93 = .ok (.iload_n 3, 1) := by decide +kernel
theorem dX12_rowAt_94 : decode cX12_rowAt 94 = .ok (.invokestatic 172, 3) := by decide +kernel
theorem dX12_rowAt_97 : decode cX12_rowAt 97 = .ok (.ireturn, 1) := by decide +kernel
theorem dX12_firstFrom_0 : decode cX12_firstFrom 0 = .ok (.aload_n 0, 1) := by decide +kernel
theorem dX12_firstFrom_1 : decode cX12_firstFrom 1 = .ok (.iconst 0, 1) := by decide +kernel
theorem dX12_firstFrom_2 : decode cX12_firstFrom 2 = .ok (.putfield 60, 3) := by decide +kernel
theorem dX12_firstFrom_5 : decode cX12_firstFrom 5 = .ok (.aload_n 0, 1) := by decide +kernel
theorem dX12_firstFrom_6 : decode cX12_firstFrom 6 = .ok (.iload_n 1, 1) := by decide +kernel
theorem dX12_firstFrom_7 : decode cX12_firstFrom 7 = .ok (.invokevirtual 220, 3) := by decide +kernel
theorem dX12_firstFrom_10 : decode cX12_firstFrom 10 = .ok (.ifCond .ne 9, 3) := by decide +kernel
theorem dX12_firstFrom_13 : decode cX12_firstFrom 13 = .ok (.aload_n 0, 1) := by decide +kernel
theorem dX12_firstFrom_14 : decode cX12_firstFrom 14 = .ok (.iconst 1, 1) := by decide +kernel
theorem dX12_firstFrom_15 : decode cX12_firstFrom 15 = .ok (.invokevirtual 214, 3) := by decide +kernel
theorem dX12_firstFrom_18 : decode cX12_firstFrom 18 = .ok (.ireturn, 1) := by decide +kernel
theorem dX12_firstFrom_19 : decode cX12_firstFrom 19 = .ok (.aload_n 0, 1) := by decide +kernel
theorem dX12_firstFrom_20 : decode cX12_firstFrom 20 = .ok (.iload_n 1, 1) := by decide +kernel
theorem dX12_firstFrom_21 : decode cX12_firstFrom 21 = .ok (.iload_n 2, 1) := by decide +kernel
theorem dX12_firstFrom_22 : decode cX12_firstFrom 22 = .ok (.iload_n 3, 1) := by decide +kernel
theorem dX12_firstFrom_23 : decode cX12_firstFrom 23 = .ok (.iload 4, 2) := by decide +kernel
theorem dX12_firstFrom_25 : decode cX12_firstFrom 25 = .ok (.bipush 7, 2) := by decide +kernel
theorem dX12_firstFrom_27 : decode cX12_firstFrom 27 = .ok (.invokevirtual 223, 3) := by decide +kernel
theorem dX12_firstFrom_30 : decode cX12_firstFrom 30 = .ok (.ifCond .ne 9, 3) := by decide +kernel
theorem dX12_firstFrom_33 : decode cX12_firstFrom 33 = .ok (.aload_n 0, 1) := by decide +kernel
theorem dX12_firstFrom_34 : decode cX12_firstFrom 34 = .ok (.iconst 2, 1) := by decide +kernel
theorem dX12_firstFrom_35 : decode cX12_firstFrom 35 = .ok (.invokevirtual 214, 3) := by decide +kernel
theorem dX12_firstFrom_38 : decode cX12_firstFrom 38 = .ok (.ireturn, 1) := by decide +kernel
theorem dX12_firstFrom_39 : decode cX12_firstFrom 39 = .ok (.iconst 0, 1) := by decide +kernel
theorem dX12_firstFrom_40 : decode cX12_firstFrom 40 = .ok (.istore 5, 2) := by decide +kernel
theorem dX12_firstFrom_42 : decode cX12_firstFrom 42 = .ok (.iconst 0, 1) := by decide +kernel
theorem dX12_firstFrom_43 : decode cX12_firstFrom 43 = .ok (.istore 6, 2) := by decide +kernel
theorem dX12_firstFrom_45 : decode cX12_firstFrom 45 = .ok (.iload 6, 2) := by decide +kernel
theorem dX12_firstFrom_47 : decode cX12_firstFrom 47 = .ok (.iload_n 2, 1) := by decide +kernel
theorem dX12_firstFrom_48 : decode cX12_firstFrom 48 = .ok (.iload_n 3, 1) := by decide +kernel
theorem dX12_firstFrom_49 : decode cX12_firstFrom 49 = .ok (.iload 4, 2) := by decide +kernel
theorem dX12_firstFrom_51 : decode cX12_firstFrom 51 = .ok (.invokestatic 72, 3) := by decide +kernel
theorem dX12_firstFrom_54 : decode cX12_firstFrom 54 = .ok (.if_icmp .ge 35, 3) := by decide +kernel
theorem dX12_firstFrom_57 : decode cX12_firstFrom 57 = .ok (.iload 5, 2) := by decide +kernel
theorem dX12_firstFrom_59 : decode cX12_firstFrom 59 = .ok (.aload_n 0, 1) := by decide +kernel
theorem dX12_firstFrom_60 : decode cX12_firstFrom 60 = .ok (.getfield 16, 3) := by decide +kernel
theorem dX12_firstFrom_63 : decode cX12_firstFrom 63 = .ok (.sipush 512, 3) := by decide +kernel
theorem dX12_firstFrom_66 : decode cX12_firstFrom 66 = .ok (.iload_n 1, 1) := by decide +kernel
theorem dX12_firstFrom_67 : decode cX12_firstFrom 67 = .ok (.imul, 1) := by decide +kernel
theorem dX12_firstFrom_68 : decode cX12_firstFrom 68 = .ok (.iload 6, 2) := by decide +kernel
theorem dX12_firstFrom_70 : decode cX12_firstFrom 70 = .ok (.iadd, 1) := by decide +kernel
theorem dX12_firstFrom_71 : decode cX12_firstFrom 71 = .ok (.baload, 1) := by decide +kernel
theorem dX12_firstFrom_72 : decode cX12_firstFrom 72 = .ok (.ifCond .eq 7, 3) := by decide +kernel
theorem dX12_firstFrom_75 : decode cX12_firstFrom 75 = .ok (.iconst 1, 1) := by decide +kernel
theorem dX12_firstFrom_76 : decode cX12_firstFrom 76 = .ok (.goto 4, 3) := by decide +kernel
theorem dX12_firstFrom_79 : decode cX12_firstFrom 79 = .ok (.iconst 0, 1) := by decide +kernel
theorem dX12_firstFrom_80 : decode cX12_firstFrom 80 = .ok (.iadd, 1) := by decide +kernel
theorem dX12_firstFrom_81 : decode cX12_firstFrom 81 = .ok (.istore 5, 2) := by decide +kernel
theorem dX12_firstFrom_83 : decode cX12_firstFrom 83 = .ok (.iinc 6 1, 3) := by decide +kernel
theorem dX12_firstFrom_86 : decode cX12_firstFrom 86 = .ok (.goto (-41), 3) := by decide +kernel
theorem dX12_firstFrom_89 : decode cX12_firstFrom 89 = .ok (.iload 5, 2) := by decide +kernel
theorem dX12_firstFrom_91 : decode cX12_firstFrom 91 = .ok (.aload_n 0, 1) := by decide +kernel
theorem dX12_firstFrom_92 : decode cX12_firstFrom 92 = .ok (.iload_n 1, 1) := by decide +kernel
theorem dX12_firstFrom_93 : decode cX12_firstFrom 93 = .ok (.invokevirtual 242, 3) := by decide +kernel
theorem dX12_firstFrom_96 : decode cX12_firstFrom 96 = .ok (.if_icmp .ge 8, 3) := by decide +kernel
theorem dX12_firstFrom_99 : decode cX12_firstFrom 99 = .ok (.iload 5, 2) := by decide +kernel
theorem dX12_firstFrom_101 : decode cX12_firstFrom 101 = .ok (.goto 8, 3) := by decide +kernel
theorem dX12_firstFrom_104 : decode cX12_firstFrom 104 = .ok (.aload_n 0, 1) := by decide +kernel
theorem dX12_firstFrom_105 : decode cX12_firstFrom 105 = .ok (.iconst 3, 1) := by decide +kernel
theorem dX12_firstFrom_106 : decode cX12_firstFrom 106 = .ok (.invokevirtual 214, 3) := by decide +kernel
theorem dX12_firstFrom_109 : decode cX12_firstFrom 109 = .ok (.ireturn, 1) := by decide +kernel
theorem dX12_values_0 : decode cX12_values 0 = .ok (.aload_n 0, 1) := by decide +kernel
theorem dX12_values_1 : decode cX12_values 1 = .ok (.iconst 0, 1) := by decide +kernel
theorem dX12_values_2 : decode cX12_values 2 = .ok (.putfield 60, 3) := by decide +kernel
theorem dX12_values_5 : decode cX12_values 5 = .ok (.aload_n 0, 1) := by decide +kernel
theorem dX12_values_6 : decode cX12_values 6 = .ok (.iload_n 1, 1) := by decide +kernel
theorem dX12_values_7 : decode cX12_values 7 = .ok (.invokevirtual 220, 3) := by decide +kernel
theorem dX12_values_10 : decode cX12_values 10 = .ok (.ifCond .eq 18, 3) := by decide +kernel
theorem dX12_values_13 : decode cX12_values 13 = .ok (.iload_n 2, 1) := by decide +kernel
theorem dX12_values_14 : decode cX12_values 14 = .ok (.iconst 0, 1) := by decide +kernel
theorem dX12_values_15 : decode cX12_values 15 = .ok (.aload_n 0, 1) := by decide +kernel
theorem dX12_values_16 : decode cX12_values 16 = .ok (.iload_n 1, 1) := by decide +kernel
theorem dX12_values_17 : decode cX12_values 17 = .ok (.invokevirtual 68, 3) := by decide +kernel
theorem dX12_values_20 : decode cX12_values 20 = .ok (.iconst 1, 1) := by decide +kernel
theorem dX12_values_21 : decode cX12_values 21 = .ok (.isub, 1) := by decide +kernel
theorem dX12_values_22 : decode cX12_values 22 = .ok (.invokestatic 64, 3) := by decide +kernel
theorem dX12_values_25 : decode cX12_values 25 = .ok (.ifCond .ne 9, 3) := by decide +kernel
theorem dX12_values_28 : decode cX12_values 28 = .ok (.aload_n 0, 1) := by decide +kernel
theorem dX12_values_29 : decode cX12_values 29 = .ok (.iconst 1, 1) := by decide +kernel
theorem dX12_values_30 : decode cX12_values 30 = .ok (.invokevirtual 214, 3) := by decide +kernel
theorem dX12_values_33 : decode cX12_values 33 = .ok (.ireturn, 1) := by decide +kernel
theorem dX12_values_34 : decode cX12_values 34 = .ok (.iconst 0, 1) := by decide +kernel
theorem dX12_values_35 : decode cX12_values 35 = .ok (.istore_n 3, 1) := by decide +kernel
theorem dX12_values_36 : decode cX12_values 36 = .ok (.iconst 0, 1) := by decide +kernel
theorem dX12_values_37 : decode cX12_values 37 = .ok (.istore 4, 2) := by decide +kernel
theorem dX12_values_39 : decode cX12_values 39 = .ok (.iload 4, 2) := by decide +kernel
theorem dX12_values_41 : decode cX12_values 41 = .ok (.sipush 512, 3) := by decide +kernel
theorem dX12_values_44 : decode cX12_values 44 = .ok (.if_icmp .ge 36, 3) := by decide +kernel
theorem dX12_values_47 : decode cX12_values 47 = .ok (.aload_n 0, 1) := by decide +kernel
theorem dX12_values_48 : decode cX12_values 48 = .ok (.getfield 16, 3) := by decide +kernel
theorem dX12_values_51 : decode cX12_values 51 = .ok (.sipush 512, 3) := by decide +kernel
theorem dX12_values_54 : decode cX12_values 54 = .ok (.iload_n 1, 1) := by decide +kernel
theorem dX12_values_55 : decode cX12_values 55 = .ok (.imul, 1) := by decide +kernel
theorem dX12_values_56 : decode cX12_values 56 = .ok (.iload 4, 2) := by decide +kernel
theorem dX12_values_58 : decode cX12_values 58 = .ok (.iadd, 1) := by decide +kernel
theorem dX12_values_59 : decode cX12_values 59 = .ok (.baload, 1) := by decide +kernel
theorem dX12_values_60 : decode cX12_values 60 = .ok (.ifCond .eq 14, 3) := by decide +kernel
theorem dX12_values_63 : decode cX12_values 63 = .ok (.iload_n 3, 1) := by decide +kernel
theorem dX12_values_64 : decode cX12_values 64 = .ok (.iconst 1, 1) := by decide +kernel
theorem dX12_values_65 : decode cX12_values 65 = .ok (.iload 4, 2) := by decide +kernel
theorem dX12_values_67 : decode cX12_values 67 = .ok (.iload_n 2, 1) := by decide +kernel
theorem dX12_values_68 : decode cX12_values 68 = .ok (.invokestatic 172, 3) := by decide +kernel
theorem dX12_values_71 : decode cX12_values 71 = .ok (.ishl, 1) := by decide +kernel
theorem dX12_values_72 : decode cX12_values 72 = .ok (.ior, 1) := by decide +kernel
theorem dX12_values_73 : decode cX12_values 73 = .ok (.istore_n 3, 1) := by decide +kernel
theorem dX12_values_74 : decode cX12_values 74 = .ok (.iinc 4 1, 3) := by decide +kernel
theorem dX12_values_77 : decode cX12_values 77 = .ok (.goto (-38), 3) := by decide +kernel
theorem dX12_values_80 : decode cX12_values 80 = .ok (.iload_n 3, 1) := by decide +kernel
theorem dX12_values_81 : decode cX12_values 81 = .ok (.invokestatic 248, 3) := by decide +kernel
theorem dX12_values_84 : decode cX12_values 84 = .ok (.ireturn, 1) := by decide +kernel
theorem dX12_bitsOf_0 : decode cX12_bitsOf 0 = .ok (.iconst 0, 1) := by decide +kernel
theorem dX12_bitsOf_1 : decode cX12_bitsOf 1 = .ok (.istore_n 1, 1) := by decide +kernel
theorem dX12_bitsOf_2 : decode cX12_bitsOf 2 = .ok (.iconst 0, 1) := by decide +kernel
theorem dX12_bitsOf_3 : decode cX12_bitsOf 3 = .ok (.istore_n 2, 1) := by decide +kernel
theorem dX12_bitsOf_4 : decode cX12_bitsOf 4 = .ok (.iload_n 2, 1) := by decide +kernel
theorem dX12_bitsOf_5 : decode cX12_bitsOf 5 = .ok (.bipush 8, 2) := by decide +kernel
theorem dX12_bitsOf_7 : decode cX12_bitsOf 7 = .ok (.if_icmp .ge 17, 3) := by decide +kernel
theorem dX12_bitsOf_10 : decode cX12_bitsOf 10 = .ok (.iload_n 1, 1) := by decide +kernel
theorem dX12_bitsOf_11 : decode cX12_bitsOf 11 = .ok (.iload_n 0, 1) := by decide +kernel
theorem dX12_bitsOf_12 : decode cX12_bitsOf 12 = .ok (.iload_n 2, 1) := by decide +kernel
theorem dX12_bitsOf_13 : decode cX12_bitsOf 13 = .ok (.ishr, 1) := by decide +kernel
theorem dX12_bitsOf_14 : decode cX12_bitsOf 14 = .ok (.iconst 1, 1) := by decide +kernel
theorem dX12_bitsOf_15 : decode cX12_bitsOf 15 = .ok (.iand, 1) := by decide +kernel
theorem dX12_bitsOf_16 : decode cX12_bitsOf 16 = .ok (.iadd, 1) := by decide +kernel
theorem dX12_bitsOf_17 : decode cX12_bitsOf 17 = .ok (.istore_n 1, 1) := by decide +kernel
theorem dX12_bitsOf_18 : decode cX12_bitsOf 18 = .ok (.iinc 2 1, 3) := by decide +kernel
theorem dX12_bitsOf_21 : decode cX12_bitsOf 21 = .ok (.goto (-17), 3) := by decide +kernel
theorem dX12_bitsOf_24 : decode cX12_bitsOf 24 = .ok (.iload_n 1, 1) := by decide +kernel
theorem dX12_bitsOf_25 : decode cX12_bitsOf 25 = .ok (.ireturn, 1) := by decide +kernel
theorem dX12_lower_0 : decode cX12_lower 0 = .ok (.aload_n 0, 1) := by decide +kernel
theorem dX12_lower_1 : decode cX12_lower 1 = .ok (.iconst 0, 1) := by decide +kernel
theorem dX12_lower_2 : decode cX12_lower 2 = .ok (.putfield 60, 3) := by decide +kernel
theorem dX12_lower_5 : decode cX12_lower 5 = .ok (.aload_n 0, 1) := by decide +kernel
theorem dX12_lower_6 : decode cX12_lower 6 = .ok (.iload_n 1, 1) := by decide +kernel
theorem dX12_lower_7 : decode cX12_lower 7 = .ok (.invokevirtual 220, 3) := by decide +kernel
theorem dX12_lower_10 : decode cX12_lower 10 = .ok (.ifCond .ne 9, 3) := by decide +kernel
theorem dX12_lower_13 : decode cX12_lower 13 = .ok (.aload_n 0, 1) := by decide +kernel
theorem dX12_lower_14 : decode cX12_lower 14 = .ok (.iconst 1, 1) := by decide +kernel
theorem dX12_lower_15 : decode cX12_lower 15 = .ok (.invokevirtual 214, 3) := by decide +kernel
theorem dX12_lower_18 : decode cX12_lower 18 = .ok (.ireturn, 1) := by decide +kernel
theorem dX12_lower_19 : decode cX12_lower 19 = .ok (.iload_n 2, 1) := by decide +kernel
theorem dX12_lower_20 : decode cX12_lower 20 = .ok (.iconst 0, 1) := by decide +kernel
theorem dX12_lower_21 : decode cX12_lower 21 = .ok (.bipush 8, 2) := by decide +kernel
theorem dX12_lower_23 : decode cX12_lower 23 = .ok (.invokestatic 64, 3) := by decide +kernel
theorem dX12_lower_26 : decode cX12_lower 26 = .ok (.ifCond .ne 9, 3) := by decide +kernel
theorem dX12_lower_29 : decode cX12_lower 29 = .ok (.aload_n 0, 1) := by decide +kernel
theorem dX12_lower_30 : decode cX12_lower 30 = .ok (.iconst 2, 1) := by decide +kernel
theorem dX12_lower_31 : decode cX12_lower 31 = .ok (.invokevirtual 214, 3) := by decide +kernel
theorem dX12_lower_34 : decode cX12_lower 34 = .ok (.ireturn, 1) := by decide +kernel
theorem dX12_lower_35 : decode cX12_lower 35 = .ok (.iconst (-1), 1) := by decide +kernel
theorem dX12_lower_36 : decode cX12_lower 36 = .ok (.istore_n 3, 1) := by decide +kernel
theorem dX12_lower_37 : decode cX12_lower 37 = .ok (.iconst 0, 1) := by decide +kernel
theorem dX12_lower_38 : decode cX12_lower 38 = .ok (.istore 4, 2) := by decide +kernel
theorem dX12_lower_40 : decode cX12_lower 40 = .ok (.iload 4, 2) := by decide +kernel
theorem dX12_lower_42 : decode cX12_lower 42 = .ok (.sipush 512, 3) := by decide +kernel
theorem dX12_lower_45 : decode cX12_lower 45 = .ok (.if_icmp .ge 42, 3) := by decide +kernel
theorem dX12_lower_48 : decode cX12_lower 48 = .ok (.aload_n 0, 1) := by decide +kernel
theorem dX12_lower_49 : decode cX12_lower 49 = .ok (.getfield 16, 3) := by decide +kernel
theorem dX12_lower_52 : decode cX12_lower 52 = .ok (.sipush 512, 3) := by decide +kernel
theorem dX12_lower_55 : decode cX12_lower 55 = .ok (.iload_n 1, 1) := by decide +kernel
theorem dX12_lower_56 : decode cX12_lower 56 = .ok (.imul, 1) := by decide +kernel
theorem dX12_lower_57 : decode cX12_lower 57 = .ok (.iload 4, 2) := by decide +kernel
theorem dX12_lower_59 : decode cX12_lower 59 = .ok (.iadd, 1) := by decide +kernel
theorem dX12_lower_60 : decode cX12_lower 60 = .ok (.baload, 1) := by decide +kernel
theorem dX12_lower_61 : decode cX12_lower 61 = .ok (.ifCond .eq 20, 3) := by decide +kernel
theorem dX12_lower_64 : decode cX12_lower 64 = .ok (.iload 4, 2) := by decide +kernel
theorem dX12_lower_66 : decode cX12_lower 66 = .ok (.iconst 0, 1) := by decide +kernel
theorem dX12_lower_67 : decode cX12_lower 67 = .ok (.invokestatic 172, 3) := by decide +kernel
theorem dX12_lower_70 : decode cX12_lower 70 = .ok (.iload_n 2, 1) := by decide +kernel
theorem dX12_lower_71 : decode cX12_lower 71 = .ok (.if_icmp .ge 10, 3) := by decide +kernel
theorem dX12_lower_74 : decode cX12_lower 74 = .ok (.iload 4, 2) := by decide +kernel
theorem dX12_lower_76 : decode cX12_lower 76 = .ok (.iconst 0, 1) := by decide +kernel
theorem dX12_lower_77 : decode cX12_lower 77 = .ok (.invokestatic 172, 3) := by decide +kernel
theorem dX12_lower_80 : decode cX12_lower 80 = .ok (.istore_n 3, 1) := by decide +kernel
theorem dX12_lower_81 : decode cX12_lower 81 = .ok (.iinc 4 1, 3) := by decide +kernel
theorem dX12_lower_84 : decode cX12_lower 84 = .ok (.goto (-44), 3) := by decide +kernel
theorem dX12_lower_87 : decode cX12_lower 87 = .ok (.iload_n 3, 1) := by decide +kernel
theorem dX12_lower_88 : decode cX12_lower 88 = .ok (.iconst (-1), 1) := by decide +kernel
theorem dX12_lower_89 : decode cX12_lower 89 = .ok (.if_icmp .ne 11, 3) := by decide +kernel
theorem dX12_lower_92 : decode cX12_lower 92 = .ok (.aload_n 0, 1) := by decide +kernel
theorem dX12_lower_93 : decode cX12_lower 93 = .ok (.iconst 3, 1) := by decide +kernel
theorem dX12_lower_94 : decode cX12_lower 94 = .ok (.invokevirtual 214, 3) := by decide +kernel
theorem dX12_lower_97 : decode cX12_lower 97 = .ok (.goto 4, 3) := by decide +kernel
theorem dX12_lower_100 : decode cX12_lower 100 = .ok (.iload_n 3, 1) := by decide +kernel
theorem dX12_lower_101 : decode cX12_lower 101 = .ok (.ireturn, 1) := by decide +kernel
theorem dX12_atomCount_0 : decode cX12_atomCount 0 = .ok (.aload_n 0, 1) := by decide +kernel
theorem dX12_atomCount_1 : decode cX12_atomCount 1 = .ok (.iconst 0, 1) := by decide +kernel
theorem dX12_atomCount_2 : decode cX12_atomCount 2 = .ok (.putfield 60, 3) := by decide +kernel
theorem dX12_atomCount_5 : decode cX12_atomCount 5 = .ok (.iload_n 1, 1) := by decide +kernel
theorem dX12_atomCount_6 : decode cX12_atomCount 6 = .ok (.invokestatic 230, 3) := by decide +kernel
theorem dX12_atomCount_9 : decode cX12_atomCount 9 = .ok (.ifCond .eq 11, 3) := by decide +kernel
theorem dX12_atomCount_12 : decode cX12_atomCount 12 = .ok (.aload_n 0, 1) := by decide +kernel
theorem dX12_atomCount_13 : decode cX12_atomCount 13 = .ok (.iload_n 1, 1) := by decide +kernel
theorem dX12_atomCount_14 : decode cX12_atomCount 14 = .ok (.invokevirtual 76, 3) := by decide +kernel
theorem dX12_atomCount_17 : decode cX12_atomCount 17 = .ok (.goto 8, 3) := by decide +kernel
theorem dX12_atomCount_20 : decode cX12_atomCount 20 = .ok (.aload_n 0, 1) := by decide +kernel
theorem dX12_atomCount_21 : decode cX12_atomCount 21 = .ok (.iconst 1, 1) := by decide +kernel
theorem dX12_atomCount_22 : decode cX12_atomCount 22 = .ok (.invokevirtual 214, 3) := by decide +kernel
theorem dX12_atomCount_25 : decode cX12_atomCount 25 = .ok (.ireturn, 1) := by decide +kernel
theorem dX12_answers_0 : decode cX12_answers 0 = .ok (.aload_n 0, 1) := by decide +kernel
theorem dX12_answers_1 : decode cX12_answers 1 = .ok (.iconst 0, 1) := by decide +kernel
theorem dX12_answers_2 : decode cX12_answers 2 = .ok (.putfield 60, 3) := by decide +kernel
theorem dX12_answers_5 : decode cX12_answers 5 = .ok (.iload_n 1, 1) := by decide +kernel
theorem dX12_answers_6 : decode cX12_answers 6 = .ok (.invokestatic 230, 3) := by decide +kernel
theorem dX12_answers_9 : decode cX12_answers 9 = .ok (.ifCond .eq 11, 3) := by decide +kernel
theorem dX12_answers_12 : decode cX12_answers 12 = .ok (.aload_n 0, 1) := by decide +kernel
theorem dX12_answers_13 : decode cX12_answers 13 = .ok (.iload_n 1, 1) := by decide +kernel
theorem dX12_answers_14 : decode cX12_answers 14 = .ok (.invokevirtual 251, 3) := by decide +kernel
theorem dX12_answers_17 : decode cX12_answers 17 = .ok (.goto 8, 3) := by decide +kernel
theorem dX12_answers_20 : decode cX12_answers 20 = .ok (.aload_n 0, 1) := by decide +kernel
theorem dX12_answers_21 : decode cX12_answers 21 = .ok (.iconst 1, 1) := by decide +kernel
theorem dX12_answers_22 : decode cX12_answers 22 = .ok (.invokevirtual 214, 3) := by decide +kernel
theorem dX12_answers_25 : decode cX12_answers 25 = .ok (.ireturn, 1) := by decide +kernel
theorem dX12_answerAt_0 : decode cX12_answerAt 0 = .ok (.aload_n 0, 1) := by decide +kernel
theorem dX12_answerAt_1 : decode cX12_answerAt 1 = .ok (.iconst 0, 1) := by decide +kernel
theorem dX12_answerAt_2 : decode cX12_answerAt 2 = .ok (.putfield 60, 3) := by decide +kernel
theorem dX12_answerAt_5 : decode cX12_answerAt 5 = .ok (.iload_n 1, 1) := by decide +kernel
theorem dX12_answerAt_6 : decode cX12_answerAt 6 = .ok (.invokestatic 230, 3) := by decide +kernel
theorem dX12_answerAt_9 : decode cX12_answerAt 9 = .ok (.ifCond .eq 16, 3) := by decide +kernel
theorem dX12_answerAt_12 : decode cX12_answerAt 12 = .ok (.iload_n 2, 1) := by decide +kernel
theorem dX12_answerAt_13 : decode cX12_answerAt 13 = .ok (.ifCond .lt 12, 3) := by decide +kernel
theorem dX12_answerAt_16 : decode cX12_answerAt 16 = .ok (.aload_n 0, 1) := by decide +kernel
theorem dX12_answerAt_17 : decode cX12_answerAt 17 = .ok (.iload_n 1, 1) := by decide +kernel
theorem dX12_answerAt_18 : decode cX12_answerAt 18 = .ok (.iload_n 3, 1) := by decide +kernel
theorem dX12_answerAt_19 : decode cX12_answerAt 19 = .ok (.invokevirtual 201, 3) := by decide +kernel
theorem dX12_answerAt_22 : decode cX12_answerAt 22 = .ok (.ifCond .ne 9, 3) := by decide +kernel
theorem dX12_answerAt_25 : decode cX12_answerAt 25 = .ok (.aload_n 0, 1) := by decide +kernel
theorem dX12_answerAt_26 : decode cX12_answerAt 26 = .ok (.iconst 1, 1) := by decide +kernel
theorem dX12_answerAt_27 : decode cX12_answerAt 27 = .ok (.invokevirtual 214, 3) := by decide +kernel
theorem dX12_answerAt_30 : decode cX12_answerAt 30 = .ok (.ireturn, 1) := by decide +kernel
theorem dX12_answerAt_31 : decode cX12_answerAt 31 = .ok (.aload_n 0, 1) := by decide +kernel
theorem dX12_answerAt_32 : decode cX12_answerAt 32 = .ok (.iload_n 1, 1) := by decide +kernel
theorem dX12_answerAt_33 : decode cX12_answerAt 33 = .ok (.invokevirtual 166, 3) := by decide +kernel
theorem dX12_answerAt_36 : decode cX12_answerAt 36 = .ok (.istore 4, 2) := by decide +kernel
theorem dX12_answerAt_38 : decode cX12_answerAt 38 = .ok (.iload_n 2, 1) := by decide +kernel
theorem dX12_answerAt_39 : decode cX12_answerAt 39 = .ok (.istore 5, 2) := by decide +kernel
theorem dX12_answerAt_41 : decode cX12_answerAt 41 = .ok (.iconst 0, 1) := by decide +kernel
theorem dX12_answerAt_42 : decode cX12_answerAt 42 = .ok (.istore 6, 2) := by decide +kernel
theorem dX12_answerAt_44 : decode cX12_answerAt 44 = .ok (.iload 6, 2) := by decide +kernel
theorem dX12_answerAt_46 : decode cX12_answerAt 46 = .ok (.iload 4, 2) := by decide +kernel
theorem dX12_answerAt_48 : decode cX12_answerAt 48 = .ok (.if_icmp .ge 37, 3) := by decide +kernel
theorem dX12_answerAt_51 : decode cX12_answerAt 51 = .ok (.aload_n 0, 1) := by decide +kernel
theorem dX12_answerAt_52 : decode cX12_answerAt 52 = .ok (.iload_n 1, 1) := by decide +kernel
theorem dX12_answerAt_53 : decode cX12_answerAt 53 = .ok (.iload 6, 2) := by decide +kernel
theorem dX12_answerAt_55 : decode cX12_answerAt 55 = .ok (.invokevirtual 169, 3) := by decide +kernel
theorem dX12_answerAt_58 : decode cX12_answerAt 58 = .ok (.ifCond .ne 6, 3) := by decide +kernel
theorem dX12_answerAt_61 : decode cX12_answerAt 61 = .ok (.goto 18, 3) := by decide +kernel
theorem dX12_answerAt_64 : decode cX12_answerAt 64 = .ok (.iload 5, 2) := by decide +kernel
theorem dX12_answerAt_66 : decode cX12_answerAt 66 = .ok (.ifCond .ne 10, 3) := by decide +kernel
theorem dX12_answerAt_69 : decode cX12_answerAt 69 = .ok (.aload_n 0, 1) := by decide +kernel
theorem dX12_answerAt_70 : decode cX12_answerAt 70 = .ok (.getfield 26, 3) := by decide +kernel
theorem dX12_answerAt_73 : decode cX12_answerAt 73 = .ok (.iload_n 3, 1) := by decide +kernel
theorem dX12_answerAt_74 : decode cX12_answerAt 74 = .ok (.iaload, 1) := by decide +kernel
theorem dX12_answerAt_75 : decode cX12_answerAt 75 = .ok (.ireturn, 1) := by decide +kernel
theorem dX12_answerAt_76 : decode cX12_answerAt 76 = .ok (.iinc 5 (-1), 3) := by decide +kernel
theorem dX12_answerAt_79 : decode cX12_answerAt 79 = .ok (.iinc 6 1, 3) := by decide +kernel
theorem dX12_answerAt_82 : decode cX12_answerAt 82 = .ok (.goto (-38), 3) := by decide +kernel
theorem dX12_answerAt_85 : decode cX12_answerAt 85 = .ok (.aload_n 0, 1) := by decide +kernel
theorem dX12_answerAt_86 : decode cX12_answerAt 86 = .ok (.iconst 1, 1) := by decide +kernel
theorem dX12_answerAt_87 : decode cX12_answerAt 87 = .ok (.invokevirtual 214, 3) := by decide +kernel
theorem dX12_answerAt_90 : decode cX12_answerAt 90 = .ok (.ireturn, 1) := by decide +kernel
theorem dX12_seek_0 : decode cX12_seek 0 = .ok (.aload_n 0, 1) := by decide +kernel
theorem dX12_seek_1 : decode cX12_seek 1 = .ok (.iconst 0, 1) := by decide +kernel
theorem dX12_seek_2 : decode cX12_seek 2 = .ok (.putfield 60, 3) := by decide +kernel
theorem dX12_seek_5 : decode cX12_seek 5 = .ok (.iload_n 1, 1) := by decide +kernel
theorem dX12_seek_6 : decode cX12_seek 6 = .ok (.invokestatic 230, 3) := by decide +kernel
theorem dX12_seek_9 : decode cX12_seek 9 = .ok (.ifCond .ne 9, 3) := by decide +kernel
theorem dX12_seek_12 : decode cX12_seek 12 = .ok (.aload_n 0, 1) := by decide +kernel
theorem dX12_seek_13 : decode cX12_seek 13 = .ok (.iconst 1, 1) := by decide +kernel
theorem dX12_seek_14 : decode cX12_seek 14 = .ok (.invokevirtual 214, 3) := by decide +kernel
theorem dX12_seek_17 : decode cX12_seek 17 = .ok (.ireturn, 1) := by decide +kernel
theorem dX12_seek_18 : decode cX12_seek 18 = .ok (.iload_n 2, 1) := by decide +kernel
theorem dX12_seek_19 : decode cX12_seek 19 = .ok (.iconst 0, 1) := by decide +kernel
theorem dX12_seek_20 : decode cX12_seek 20 = .ok (.bipush 7, 2) := by decide +kernel
theorem dX12_seek_22 : decode cX12_seek 22 = .ok (.invokestatic 64, 3) := by decide +kernel
theorem dX12_seek_25 : decode cX12_seek 25 = .ok (.ifCond .eq 35, 3) := by decide +kernel
theorem dX12_seek_28 : decode cX12_seek 28 = .ok (.iload_n 3, 1) := by decide +kernel
theorem dX12_seek_29 : decode cX12_seek 29 = .ok (.iconst 0, 1) := by decide +kernel
theorem dX12_seek_30 : decode cX12_seek 30 = .ok (.bipush 7, 2) := by decide +kernel
theorem dX12_seek_32 : decode cX12_seek 32 = .ok (.invokestatic 64, 3) := by decide +kernel
theorem dX12_seek_35 : decode cX12_seek 35 = .ok (.ifCond .eq 25, 3) := by decide +kernel
theorem dX12_seek_38 : decode cX12_seek 38 = .ok (.iload 4, 2) := by decide +kernel
theorem dX12_seek_40 : decode cX12_seek 40 = .ok (.iconst 0, 1) := by decide +kernel
theorem dX12_seek_41 : decode cX12_seek 41 = .ok (.bipush 7, 2) := by decide +kernel
theorem dX12_seek_43 : decode cX12_seek 43 = .ok (.invokestatic 64, 3) := by decide +kernel
theorem dX12_seek_46 : decode cX12_seek 46 = .ok (.ifCond .eq 14, 3) := by decide +kernel
theorem dX12_seek_49 : decode cX12_seek 49 = .ok (.iload 5, 2) := by decide +kernel
theorem dX12_seek_51 : decode cX12_seek 51 = .ok (.iconst 0, 1) := by decide +kernel
theorem dX12_seek_52 : decode cX12_seek 52 = .ok (.bipush 7, 2) := by decide +kernel
theorem dX12_seek_54 : decode cX12_seek 54 = .ok (.invokestatic 64, 3) := by decide +kernel
theorem dX12_seek_57 : decode cX12_seek 57 = .ok (.ifCond .ne 9, 3) := by decide +kernel
theorem dX12_seek_60 : decode cX12_seek 60 = .ok (.aload_n 0, 1) := by decide +kernel
theorem dX12_seek_61 : decode cX12_seek 61 = .ok (.iconst 2, 1) := by decide +kernel
theorem dX12_seek_62 : decode cX12_seek 62 = .ok (.invokevirtual 214, 3) := by decide +kernel
theorem dX12_seek_65 : decode cX12_seek 65 = .ok (.ireturn, 1) := by decide +kernel
theorem dX12_seek_66 : decode cX12_seek 66 = .ok (.aload_n 0, 1) := by decide +kernel
theorem dX12_seek_67 : decode cX12_seek 67 = .ok (.iload_n 1, 1) := by decide +kernel
theorem dX12_seek_68 : decode cX12_seek 68 = .ok (.invokevirtual 166, 3) := by decide +kernel
theorem dX12_seek_71 : decode cX12_seek 71 = .ok (.istore 6, 2) := by decide +kernel
theorem dX12_seek_73 : decode cX12_seek 73 = .ok (.iload_n 2, 1) := by decide +kernel
theorem dX12_seek_74 : decode cX12_seek 74 = .ok (.bipush 9, 2) := by decide +kernel
theorem dX12_seek_76 : decode cX12_seek 76 = .ok (.ishl, 1) := by decide +kernel
theorem dX12_seek_77 : decode cX12_seek 77 = .ok (.iload_n 3, 1) := by decide +kernel
theorem dX12_seek_78 : decode cX12_seek 78 = .ok (.bipush 6, 2) := by decide +kernel
theorem dX12_seek_80 : decode cX12_seek 80 = .ok (.ishl, 1) := by decide +kernel
theorem dX12_seek_81 : decode cX12_seek 81 = .ok (.ior, 1) := by decide +kernel
theorem dX12_seek_82 : decode cX12_seek 82 = .ok (.iload 4, 2) := by decide +kernel
theorem dX12_seek_84 : decode cX12_seek 84 = .ok (.iconst 3, 1) := by decide +kernel
theorem dX12_seek_85 : decode cX12_seek 85 = .ok (.ishl, 1) := by decide +kernel
theorem dX12_seek_86 : decode cX12_seek 86 = .ok (.ior, 1) := by decide +kernel
theorem dX12_seek_87 : decode cX12_seek 87 = .ok (.iload 5, 2) := by decide +kernel
theorem dX12_seek_89 : decode cX12_seek 89 = .ok (.ior, 1) := by decide +kernel
theorem dX12_seek_90 : decode cX12_seek 90 = .ok (.iconst 3, 1) := by decide +kernel
theorem dX12_seek_91 : decode cX12_seek 91 = .ok (.iconst 4, 1) := by decide +kernel
theorem dX12_seek_92 : decode cX12_seek 92 = .ok (.aload_n 0, 1) := by decide +kernel
theorem dX12_seek_93 : decode cX12_seek 93 = .ok (.getfield 157, 3) := by decide +kernel
theorem dX12_seek_96 : decode cX12_seek 96 = .ok (.isub, 1) := by decide +kernel
theorem dX12_seek_97 : decode cX12_seek 97 = .ok (.imul, 1) := by decide +kernel
theorem dX12_seek_98 : decode cX12_seek 98 = .ok (.ishr, 1) := by decide +kernel
theorem dX12_seek_99 : decode cX12_seek 99 = .ok (.istore 7, 2) := by decide +kernel
theorem dX12_seek_101 : decode cX12_seek 101 = .ok (.iconst 0, 1) := by decide +kernel
theorem dX12_seek_102 : decode cX12_seek 102 = .ok (.istore 8, 2) := by decide +kernel
theorem dX12_seek_104 : decode cX12_seek 104 = .ok (.iconst 0, 1) := by decide +kernel
theorem dX12_seek_105 : decode cX12_seek 105 = .ok (.istore 9, 2) := by decide +kernel
theorem dX12_seek_107 : decode cX12_seek 107 = .ok (.iload 9, 2) := by decide +kernel
theorem dX12_seek_109 : decode cX12_seek 109 = .ok (.iload 7, 2) := by decide +kernel
theorem dX12_seek_111 : decode cX12_seek 111 = .ok (.if_icmp .ge 36, 3) := by decide +kernel
theorem dX12_seek_114 : decode cX12_seek 114 = .ok (.iload 9, 2) := by decide +kernel
theorem dX12_seek_116 : decode cX12_seek 116 = .ok (.iload 6, 2) := by decide +kernel
theorem dX12_seek_118 : decode cX12_seek 118 = .ok (.if_icmp .ge 29, 3) := by decide +kernel
theorem dX12_seek_121 : decode cX12_seek 121 = .ok (.iload 8, 2) := by decide +kernel
theorem dX12_seek_123 : decode cX12_seek 123 = .ok (.aload_n 0, 1) := by decide +kernel
theorem dX12_seek_124 : decode cX12_seek 124 = .ok (.iload_n 1, 1) := by decide +kernel
theorem dX12_seek_125 : decode cX12_seek 125 = .ok (.iload 9, 2) := by decide +kernel
theorem dX12_seek_127 : decode cX12_seek 127 = .ok (.invokevirtual 169, 3) := by decide +kernel
theorem dX12_seek_130 : decode cX12_seek 130 = .ok (.ifCond .eq 7, 3) := by decide +kernel
theorem dX12_seek_133 : decode cX12_seek 133 = .ok (.iconst 1, 1) := by decide +kernel
theorem dX12_seek_134 : decode cX12_seek 134 = .ok (.goto 4, 3) := by decide +kernel
theorem dX12_seek_137 : decode cX12_seek 137 = .ok (.iconst 0, 1) := by decide +kernel
theorem dX12_seek_138 : decode cX12_seek 138 = .ok (.iadd, 1) := by decide +kernel
theorem dX12_seek_139 : decode cX12_seek 139 = .ok (.istore 8, 2) := by decide +kernel
theorem dX12_seek_141 : decode cX12_seek 141 = .ok (.iinc 9 1, 3) := by decide +kernel
theorem dX12_seek_144 : decode cX12_seek 144 = .ok (.goto (-37), 3) := by decide +kernel
theorem dX12_seek_147 : decode cX12_seek 147 = .ok (.iload 7, 2) := by decide +kernel
theorem dX12_seek_149 : decode cX12_seek 149 = .ok (.istore 9, 2) := by decide +kernel
theorem dX12_seek_151 : decode cX12_seek 151 = .ok (.iload 9, 2) := by decide +kernel
theorem dX12_seek_153 : decode cX12_seek 153 = .ok (.iload 6, 2) := by decide +kernel
theorem dX12_seek_155 : decode cX12_seek 155 = .ok (.if_icmp .ge 22, 3) := by decide +kernel
theorem dX12_seek_158 : decode cX12_seek 158 = .ok (.aload_n 0, 1) := by decide +kernel
theorem dX12_seek_159 : decode cX12_seek 159 = .ok (.iload_n 1, 1) := by decide +kernel
theorem dX12_seek_160 : decode cX12_seek 160 = .ok (.iload 9, 2) := by decide +kernel
theorem dX12_seek_162 : decode cX12_seek 162 = .ok (.invokevirtual 169, 3) := by decide +kernel
theorem dX12_seek_165 : decode cX12_seek 165 = .ok (.ifCond .eq 6, 3) := by decide +kernel
theorem dX12_seek_168 : decode cX12_seek 168 = .ok (.iload 8, 2) := by decide +kernel
theorem dX12_seek_170 : decode cX12_seek 170 = .ok (.ireturn, 1) := by decide +kernel
theorem dX12_seek_171 : decode cX12_seek 171 = .ok (.iinc 9 1, 3) := by decide +kernel
theorem dX12_seek_174 : decode cX12_seek 174 = .ok (.goto (-23), 3) := by decide +kernel
theorem dX12_seek_177 : decode cX12_seek 177 = .ok (.aload_n 0, 1) := by decide +kernel
theorem dX12_seek_178 : decode cX12_seek 178 = .ok (.iconst 3, 1) := by decide +kernel
theorem dX12_seek_179 : decode cX12_seek 179 = .ok (.invokevirtual 214, 3) := by decide +kernel
theorem dX12_seek_182 : decode cX12_seek 182 = .ok (.ireturn, 1) := by decide +kernel
theorem dX12_leaps__0 : decode cX12_leaps_ 0 = .ok (.aload_n 0, 1) := by decide +kernel
theorem dX12_leaps__1 : decode cX12_leaps_ 1 = .ok (.iconst 0, 1) := by decide +kernel
theorem dX12_leaps__2 : decode cX12_leaps_ 2 = .ok (.putfield 60, 3) := by decide +kernel
theorem dX12_leaps__5 : decode cX12_leaps_ 5 = .ok (.iload_n 1, 1) := by decide +kernel
theorem dX12_leaps__6 : decode cX12_leaps_ 6 = .ok (.invokestatic 230, 3) := by decide +kernel
theorem dX12_leaps__9 : decode cX12_leaps_ 9 = .ok (.ifCond .ne 9, 3) := by decide +kernel
theorem dX12_leaps__12 : decode cX12_leaps_ 12 = .ok (.aload_n 0, 1) := by decide +kernel
theorem dX12_leaps__13 : decode cX12_leaps_ 13 = .ok (.iconst 1, 1) := by decide +kernel
theorem dX12_leaps__14 : decode cX12_leaps_ 14 = .ok (.invokevirtual 214, 3) := by decide +kernel
theorem dX12_leaps__17 : decode cX12_leaps_ 17 = .ok (.ireturn, 1) := by decide +kernel
theorem dX12_leaps__18 : decode cX12_leaps_ 18 = .ok (.aload_n 0, 1) := by decide +kernel
theorem dX12_leaps__19 : decode cX12_leaps_ 19 = .ok (.iload_n 1, 1) := by decide +kernel
theorem dX12_leaps__20 : decode cX12_leaps_ 20 = .ok (.invokevirtual 163, 3) := by decide +kernel
theorem dX12_leaps__23 : decode cX12_leaps_ 23 = .ok (.aload_n 0, 1) := by decide +kernel
theorem dX12_leaps__24 : decode cX12_leaps_ 24 = .ok (.iconst 0, 1) := by decide +kernel
theorem dX12_leaps__25 : decode cX12_leaps_ 25 = .ok (.putfield 184, 3) := by decide +kernel
theorem dX12_leaps__28 : decode cX12_leaps_ 28 = .ok (.aload_n 0, 1) := by decide +kernel
theorem dX12_leaps__29 : decode cX12_leaps_ 29 = .ok (.getfield 157, 3) := by decide +kernel
theorem dX12_leaps__32 : decode cX12_leaps_ 32 = .ok (.ifCond .le 9, 3) := by decide +kernel
theorem dX12_leaps__35 : decode cX12_leaps_ 35 = .ok (.aload_n 0, 1) := by decide +kernel
theorem dX12_leaps__36 : decode cX12_leaps_ 36 = .ok (.iload_n 1, 1) := by decide +kernel
theorem dX12_leaps__37 : decode cX12_leaps_ 37 = .ok (.iconst 0, 1) := by decide +kernel
theorem dX12_leaps__38 : decode cX12_leaps_ 38 = .ok (.invokevirtual 191, 3) := by decide +kernel
theorem dX12_leaps__41 : decode cX12_leaps_ 41 = .ok (.aload_n 0, 1) := by decide +kernel
theorem dX12_leaps__42 : decode cX12_leaps_ 42 = .ok (.getfield 184, 3) := by decide +kernel
theorem dX12_leaps__45 : decode cX12_leaps_ 45 = .ok (.ireturn, 1) := by decide +kernel
theorem dX12_groups_0 : decode cX12_groups 0 = .ok (.aload_n 0, 1) := by decide +kernel
theorem dX12_groups_1 : decode cX12_groups 1 = .ok (.iconst 0, 1) := by decide +kernel
theorem dX12_groups_2 : decode cX12_groups 2 = .ok (.putfield 60, 3) := by decide +kernel
theorem dX12_groups_5 : decode cX12_groups 5 = .ok (.iload_n 1, 1) := by decide +kernel
theorem dX12_groups_6 : decode cX12_groups 6 = .ok (.invokestatic 230, 3) := by decide +kernel
theorem dX12_groups_9 : decode cX12_groups 9 = .ok (.ifCond .eq 12, 3) := by decide +kernel
theorem dX12_groups_12 : decode cX12_groups 12 = .ok (.aload_n 0, 1) := by decide +kernel
theorem dX12_groups_13 : decode cX12_groups 13 = .ok (.iload_n 1, 1) := by decide +kernel
theorem dX12_groups_14 : decode cX12_groups 14 = .ok (.iload_n 2, 1) := by decide +kernel
theorem dX12_groups_15 : decode cX12_groups 15 = .ok (.invokevirtual 201, 3) := by decide +kernel
theorem dX12_groups_18 : decode cX12_groups 18 = .ok (.ifCond .ne 9, 3) := by decide +kernel
theorem dX12_groups_21 : decode cX12_groups 21 = .ok (.aload_n 0, 1) := by decide +kernel
theorem dX12_groups_22 : decode cX12_groups 22 = .ok (.iconst 1, 1) := by decide +kernel
theorem dX12_groups_23 : decode cX12_groups 23 = .ok (.invokevirtual 214, 3) := by decide +kernel
theorem dX12_groups_26 : decode cX12_groups 26 = .ok (.ireturn, 1) := by decide +kernel
theorem dX12_groups_27 : decode cX12_groups 27 = .ok (.aload_n 0, 1) := by decide +kernel
theorem dX12_groups_28 : decode cX12_groups 28 = .ok (.iload_n 1, 1) := by decide +kernel
theorem dX12_groups_29 : decode cX12_groups 29 = .ok (.invokevirtual 166, 3) := by decide +kernel
theorem dX12_groups_32 : decode cX12_groups 32 = .ok (.istore_n 3, 1) := by decide +kernel
theorem dX12_groups_33 : decode cX12_groups 33 = .ok (.iconst 0, 1) := by decide +kernel
theorem dX12_groups_34 : decode cX12_groups 34 = .ok (.istore 4, 2) := by decide +kernel
theorem dX12_groups_36 : decode cX12_groups 36 = .ok (.iconst 0, 1) := by decide +kernel
theorem dX12_groups_37 : decode cX12_groups 37 = .ok (.istore 5, 2) := by decide +kernel
theorem dX12_groups_39 : decode cX12_groups 39 = .ok (.iload 5, 2) := by decide +kernel
theorem dX12_groups_41 : decode cX12_groups 41 = .ok (.iload_n 3, 1) := by decide +kernel
theorem dX12_groups_42 : decode cX12_groups 42 = .ok (.if_icmp .ge 32, 3) := by decide +kernel
theorem dX12_groups_45 : decode cX12_groups 45 = .ok (.aload_n 0, 1) := by decide +kernel
theorem dX12_groups_46 : decode cX12_groups 46 = .ok (.iload_n 1, 1) := by decide +kernel
theorem dX12_groups_47 : decode cX12_groups 47 = .ok (.iload 5, 2) := by decide +kernel
theorem dX12_groups_49 : decode cX12_groups 49 = .ok (.invokevirtual 169, 3) := by decide +kernel
theorem dX12_groups_52 : decode cX12_groups 52 = .ok (.ifCond .eq 16, 3) := by decide +kernel
theorem dX12_groups_55 : decode cX12_groups 55 = .ok (.iload 4, 2) := by decide +kernel
theorem dX12_groups_57 : decode cX12_groups 57 = .ok (.iconst 1, 1) := by decide +kernel
theorem dX12_groups_58 : decode cX12_groups 58 = .ok (.aload_n 0, 1) := by decide +kernel
theorem dX12_groups_59 : decode cX12_groups 59 = .ok (.getfield 26, 3) := by decide +kernel
theorem dX12_groups_62 : decode cX12_groups 62 = .ok (.iload_n 2, 1) := by decide +kernel
theorem dX12_groups_63 : decode cX12_groups 63 = .ok (.iaload, 1) := by decide +kernel
theorem dX12_groups_64 : decode cX12_groups 64 = .ok (.ishl, 1) := by decide +kernel
theorem dX12_groups_65 : decode cX12_groups 65 = .ok (.ior, 1) := by decide +kernel
theorem dX12_groups_66 : decode cX12_groups 66 = .ok (.istore 4, 2) := by decide +kernel
theorem dX12_groups_68 : decode cX12_groups 68 = .ok (.iinc 5 1, 3) := by decide +kernel
theorem dX12_groups_71 : decode cX12_groups 71 = .ok (.goto (-32), 3) := by decide +kernel
theorem dX12_groups_74 : decode cX12_groups 74 = .ok (.iload 4, 2) := by decide +kernel
theorem dX12_groups_76 : decode cX12_groups 76 = .ok (.invokestatic 248, 3) := by decide +kernel
theorem dX12_groups_79 : decode cX12_groups 79 = .ok (.ireturn, 1) := by decide +kernel
theorem dX12_groupSize_0 : decode cX12_groupSize 0 = .ok (.aload_n 0, 1) := by decide +kernel
theorem dX12_groupSize_1 : decode cX12_groupSize 1 = .ok (.iconst 0, 1) := by decide +kernel
theorem dX12_groupSize_2 : decode cX12_groupSize 2 = .ok (.putfield 60, 3) := by decide +kernel
theorem dX12_groupSize_5 : decode cX12_groupSize 5 = .ok (.iload_n 1, 1) := by decide +kernel
theorem dX12_groupSize_6 : decode cX12_groupSize 6 = .ok (.invokestatic 230, 3) := by decide +kernel
theorem dX12_groupSize_9 : decode cX12_groupSize 9 = .ok (.ifCond .eq 12, 3) := by decide +kernel
theorem dX12_groupSize_12 : decode cX12_groupSize 12 = .ok (.aload_n 0, 1) := by decide +kernel
theorem dX12_groupSize_13 : decode cX12_groupSize 13 = .ok (.iload_n 1, 1) := by decide +kernel
theorem dX12_groupSize_14 : decode cX12_groupSize 14 = .ok (.iload_n 2, 1) := by decide +kernel
theorem dX12_groupSize_15 : decode cX12_groupSize 15 = .ok (.invokevirtual 201, 3) := by decide +kernel
theorem dX12_groupSize_18 : decode cX12_groupSize 18 = .ok (.ifCond .ne 9, 3) := by decide +kernel
theorem dX12_groupSize_21 : decode cX12_groupSize 21 = .ok (.aload_n 0, 1) := by decide +kernel
theorem dX12_groupSize_22 : decode cX12_groupSize 22 = .ok (.iconst 1, 1) := by decide +kernel
theorem dX12_groupSize_23 : decode cX12_groupSize 23 = .ok (.invokevirtual 214, 3) := by decide +kernel
theorem dX12_groupSize_26 : decode cX12_groupSize 26 = .ok (.ireturn, 1) := by decide +kernel
theorem dX12_groupSize_27 : decode cX12_groupSize 27 = .ok (.iload_n 3, 1) := by decide +kernel
theorem dX12_groupSize_28 : decode cX12_groupSize 28 = .ok (.iconst 0, 1) := by decide +kernel
theorem dX12_groupSize_29 : decode cX12_groupSize 29 = .ok (.bipush 7, 2) := by decide +kernel
theorem dX12_groupSize_31 : decode cX12_groupSize 31 = .ok (.invokestatic 64, 3) := by decide +kernel
theorem dX12_groupSize_34 : decode cX12_groupSize 34 = .ok (.ifCond .ne 9, 3) := by decide +kernel
theorem dX12_groupSize_37 : decode cX12_groupSize 37 = .ok (.aload_n 0, 1) := by decide +kernel
theorem dX12_groupSize_38 : decode cX12_groupSize 38 = .ok (.iconst 2, 1) := by decide +kernel
theorem dX12_groupSize_39 : decode cX12_groupSize 39 = .ok (.invokevirtual 214, 3) := by decide +kernel
theorem dX12_groupSize_42 : decode cX12_groupSize 42 = .ok (.ireturn, 1) := by decide +kernel
theorem dX12_groupSize_43 : decode cX12_groupSize 43 = .ok (.aload_n 0, 1) := by decide +kernel
theorem dX12_groupSize_44 : decode cX12_groupSize 44 = .ok (.iload_n 1, 1) := by decide +kernel
theorem dX12_groupSize_45 : decode cX12_groupSize 45 = .ok (.invokevirtual 166, 3) := by decide +kernel
theorem dX12_groupSize_48 : decode cX12_groupSize 48 = .ok (.istore 4, 2) := by decide +kernel
theorem dX12_groupSize_50 : decode cX12_groupSize 50 = .ok (.iconst 0, 1) := by decide +kernel
theorem dX12_groupSize_51 : decode cX12_groupSize 51 = .ok (.istore 5, 2) := by decide +kernel
theorem dX12_groupSize_53 : decode cX12_groupSize 53 = .ok (.iconst 0, 1) := by decide +kernel
theorem dX12_groupSize_54 : decode cX12_groupSize 54 = .ok (.istore 6, 2) := by decide +kernel
theorem dX12_groupSize_56 : decode cX12_groupSize 56 = .ok (.iload 6, 2) := by decide +kernel
theorem dX12_groupSize_58 : decode cX12_groupSize 58 = .ok (.iload 4, 2) := by decide +kernel
theorem dX12_groupSize_60 : decode cX12_groupSize 60 = .ok (.if_icmp .ge 39, 3) := by decide +kernel
theorem dX12_groupSize_63 : decode cX12_groupSize 63 = .ok (.iload 5, 2) := by decide +kernel
theorem dX12_groupSize_65 : decode cX12_groupSize 65 = .ok (.aload_n 0, 1) := by decide +kernel
theorem dX12_groupSize_66 : decode cX12_groupSize 66 = .ok (.iload_n 1, 1) := by decide +kernel
theorem dX12_groupSize_67 : decode cX12_groupSize 67 = .ok (.iload 6, 2) := by decide +kernel
theorem dX12_groupSize_69 : decode cX12_groupSize 69 = .ok (.invokevirtual 169, 3) := by decide +kernel
theorem dX12_groupSize_72 : decode cX12_groupSize 72 = .ok (.ifCond .eq 17, 3) := by decide +kernel
theorem dX12_groupSize_75 : decode cX12_groupSize 75 = .ok (.aload_n 0, 1) := by decide +kernel
theorem dX12_groupSize_76 : decode cX12_groupSize 76 = .ok (.getfield 26, 3) := by decide +kernel
theorem dX12_groupSize_79 : decode cX12_groupSize 79 = .ok (.iload_n 2, 1) := by decide +kernel
theorem dX12_groupSize_80 : decode cX12_groupSize 80 = .ok (.iaload, 1) := by decide +kernel
theorem dX12_groupSize_81 : decode cX12_groupSize 81 = .ok (.iload_n 3, 1) := by decide +kernel
theorem dX12_groupSize_82 : decode cX12_groupSize 82 = .ok (.if_icmp .ne 7, 3) := by decide +kernel
theorem dX12_groupSize_85 : decode cX12_groupSize 85 = .ok (.iconst 1, 1) := by decide +kernel
theorem dX12_groupSize_86 : decode cX12_groupSize 86 = .ok (.goto 4, 3) := by decide +kernel
theorem dX12_groupSize_89 : decode cX12_groupSize 89 = .ok (.iconst 0, 1) := by decide +kernel
theorem dX12_groupSize_90 : decode cX12_groupSize 90 = .ok (.iadd, 1) := by decide +kernel
theorem dX12_groupSize_91 : decode cX12_groupSize 91 = .ok (.istore 5, 2) := by decide +kernel
theorem dX12_groupSize_93 : decode cX12_groupSize 93 = .ok (.iinc 6 1, 3) := by decide +kernel
theorem dX12_groupSize_96 : decode cX12_groupSize 96 = .ok (.goto (-40), 3) := by decide +kernel
theorem dX12_groupSize_99 : decode cX12_groupSize 99 = .ok (.iload 5, 2) := by decide +kernel
theorem dX12_groupSize_101 : decode cX12_groupSize 101 = .ok (.ireturn, 1) := by decide +kernel
theorem dX12_idleRows_0 : decode cX12_idleRows 0 = .ok (.aload_n 0, 1) := by decide +kernel
theorem dX12_idleRows_1 : decode cX12_idleRows 1 = .ok (.iconst 0, 1) := by decide +kernel
theorem dX12_idleRows_2 : decode cX12_idleRows 2 = .ok (.putfield 60, 3) := by decide +kernel
theorem dX12_idleRows_5 : decode cX12_idleRows 5 = .ok (.iload_n 1, 1) := by decide +kernel
theorem dX12_idleRows_6 : decode cX12_idleRows 6 = .ok (.invokestatic 230, 3) := by decide +kernel
theorem dX12_idleRows_9 : decode cX12_idleRows 9 = .ok (.ifCond .eq 18, 3) := by decide +kernel
theorem dX12_idleRows_12 : decode cX12_idleRows 12 = .ok (.iload_n 2, 1) := by decide +kernel
theorem dX12_idleRows_13 : decode cX12_idleRows 13 = .ok (.iconst 0, 1) := by decide +kernel
theorem dX12_idleRows_14 : decode cX12_idleRows 14 = .ok (.aload_n 0, 1) := by decide +kernel
theorem dX12_idleRows_15 : decode cX12_idleRows 15 = .ok (.iload_n 1, 1) := by decide +kernel
theorem dX12_idleRows_16 : decode cX12_idleRows 16 = .ok (.invokevirtual 76, 3) := by decide +kernel
theorem dX12_idleRows_19 : decode cX12_idleRows 19 = .ok (.iconst 1, 1) := by decide +kernel
theorem dX12_idleRows_20 : decode cX12_idleRows 20 = .ok (.isub, 1) := by decide +kernel
theorem dX12_idleRows_21 : decode cX12_idleRows 21 = .ok (.invokestatic 64, 3) := by decide +kernel
theorem dX12_idleRows_24 : decode cX12_idleRows 24 = .ok (.ifCond .ne 9, 3) := by decide +kernel
theorem dX12_idleRows_27 : decode cX12_idleRows 27 = .ok (.aload_n 0, 1) := by decide +kernel
theorem dX12_idleRows_28 : decode cX12_idleRows 28 = .ok (.iconst 1, 1) := by decide +kernel
theorem dX12_idleRows_29 : decode cX12_idleRows 29 = .ok (.invokevirtual 214, 3) := by decide +kernel
theorem dX12_idleRows_32 : decode cX12_idleRows 32 = .ok (.ireturn, 1) := by decide +kernel
theorem dX12_idleRows_33 : decode cX12_idleRows 33 = .ok (.aload_n 0, 1) := by decide +kernel
theorem dX12_idleRows_34 : decode cX12_idleRows 34 = .ok (.iload_n 1, 1) := by decide +kernel
theorem dX12_idleRows_35 : decode cX12_idleRows 35 = .ok (.iload_n 2, 1) := by decide +kernel
theorem dX12_idleRows_36 : decode cX12_idleRows 36 = .ok (.invokevirtual 236, 3) := by decide +kernel
theorem dX12_idleRows_39 : decode cX12_idleRows 39 = .ok (.aload_n 0, 1) := by decide +kernel
theorem dX12_idleRows_40 : decode cX12_idleRows 40 = .ok (.getfield 9, 3) := by decide +kernel
theorem dX12_idleRows_43 : decode cX12_idleRows 43 = .ok (.aload_n 0, 1) := by decide +kernel
theorem dX12_idleRows_44 : decode cX12_idleRows 44 = .ok (.iload_n 1, 1) := by decide +kernel
theorem dX12_idleRows_45 : decode cX12_idleRows 45 = .ok (.iload_n 2, 1) := by decide +kernel
theorem dX12_idleRows_46 : decode cX12_idleRows 46 = .ok (.invokevirtual 79, 3) := by decide +kernel
theorem dX12_idleRows_49 : decode cX12_idleRows 49 = .ok (.iaload, 1) := by decide +kernel
theorem dX12_idleRows_50 : decode cX12_idleRows 50 = .ok (.istore_n 3, 1) := by decide +kernel
theorem dX12_idleRows_51 : decode cX12_idleRows 51 = .ok (.iconst 0, 1) := by decide +kernel
theorem dX12_idleRows_52 : decode cX12_idleRows 52 = .ok (.istore 4, 2) := by decide +kernel
theorem dX12_idleRows_54 : decode cX12_idleRows 54 = .ok (.iconst 0, 1) := by decide +kernel
theorem dX12_idleRows_55 : decode cX12_idleRows 55 = .ok (.istore 5, 2) := by decide +kernel
theorem dX12_idleRows_57 : decode cX12_idleRows 57 = .ok (.iload 5, 2) := by decide +kernel
theorem dX12_idleRows_59 : decode cX12_idleRows 59 = .ok (.sipush 512, 3) := by decide +kernel
theorem dX12_idleRows_62 : decode cX12_idleRows 62 = .ok (.if_icmp .ge 45, 3) := by decide +kernel
theorem dX12_idleRows_65 : decode cX12_idleRows 65 = .ok (.iload 4, 2) := by decide +kernel
theorem dX12_idleRows_67 : decode cX12_idleRows 67 = .ok (.aload_n 0, 1) := by decide +kernel
theorem dX12_idleRows_68 : decode cX12_idleRows 68 = .ok (.getfield 16, 3) := by decide +kernel
theorem dX12_idleRows_71 : decode cX12_idleRows 71 = .ok (.sipush 512, 3) := by decide +kernel
theorem dX12_idleRows_74 : decode cX12_idleRows 74 = .ok (.iload_n 3, 1) := by decide +kernel
theorem dX12_idleRows_75 : decode cX12_idleRows 75 = .ok (.imul, 1) := by decide +kernel
theorem dX12_idleRows_76 : decode cX12_idleRows 76 = .ok (.iload 5, 2) := by decide +kernel
theorem dX12_idleRows_78 : decode cX12_idleRows 78 = .ok (.iadd, 1) := by decide +kernel
theorem dX12_idleRows_79 : decode cX12_idleRows 79 = .ok (.baload, 1) := by decide +kernel
theorem dX12_idleRows_80 : decode cX12_idleRows 80 = .ok (.ifCond .eq 17, 3) := by decide +kernel
theorem dX12_idleRows_83 : decode cX12_idleRows 83 = .ok (.aload_n 0, 1) := by decide +kernel
theorem dX12_idleRows_84 : decode cX12_idleRows 84 = .ok (.getfield 32, 3) := by decide +kernel
theorem dX12_idleRows_87 : decode cX12_idleRows 87 = .ok (.iload 5, 2) := by decide +kernel
theorem dX12_idleRows_89 : decode cX12_idleRows 89 = .ok (.baload, 1) := by decide +kernel
theorem dX12_idleRows_90 : decode cX12_idleRows 90 = .ok (.ifCond .ne 7, 3) := by decide +kernel
theorem dX12_idleRows_93 : decode cX12_idleRows 93 = .ok (.iconst 1, 1) := by decide +kernel
theorem dX12_idleRows_94 : decode cX12_idleRows 94 = .ok (.goto 4, 3) := by decide +kernel
theorem dX12_idleRows_97 : decode cX12_idleRows 97 = .ok (.iconst 0, 1) := by decide +kernel
theorem dX12_idleRows_98 : decode cX12_idleRows 98 = .ok (.iadd, 1) := by decide +kernel
theorem dX12_idleRows_99 : decode cX12_idleRows 99 = .ok (.istore 4, 2) := by decide +kernel
theorem dX12_idleRows_101 : decode cX12_idleRows 101 = .ok (.iinc 5 1, 3) := by decide +kernel
theorem dX12_idleRows_104 : decode cX12_idleRows 104 = .ok (.goto (-47), 3) := by decide +kernel
theorem dX12_idleRows_107 : decode cX12_idleRows 107 = .ok (.iload 4, 2) := by decide +kernel
theorem dX12_idleRows_109 : decode cX12_idleRows 109 = .ok (.ireturn, 1) := by decide +kernel
theorem dX12_isTree_0 : decode cX12_isTree 0 = .ok (.aload_n 0, 1) := by decide +kernel
theorem dX12_isTree_1 : decode cX12_isTree 1 = .ok (.iload_n 1, 1) := by decide +kernel
theorem dX12_isTree_2 : decode cX12_isTree 2 = .ok (.invokestatic 230, 3) := by decide +kernel
theorem dX12_isTree_5 : decode cX12_isTree 5 = .ok (.ifCond .eq 7, 3) := by decide +kernel
theorem dX12_isTree_8 : decode cX12_isTree 8 = .ok (.iconst 0, 1) := by decide +kernel
theorem dX12_isTree_9 : decode cX12_isTree 9 = .ok (.goto 4, 3) := by decide +kernel
theorem dX12_isTree_12 : decode cX12_isTree 12 = .ok (.iconst 1, 1) := by decide +kernel
theorem dX12_isTree_13 : decode cX12_isTree 13 = .ok (.putfield 60, 3) := by decide +kernel
theorem dX12_isTree_16 : decode cX12_isTree 16 = .ok (.aload_n 0, 1) := by decide +kernel
theorem dX12_isTree_17 : decode cX12_isTree 17 = .ok (.getfield 60, 3) := by decide +kernel
theorem dX12_isTree_20 : decode cX12_isTree 20 = .ok (.ifCond .ne 15, 3) := by decide +kernel
theorem dX12_isTree_23 : decode cX12_isTree 23 = .ok (.aload_n 0, 1) := by decide +kernel
theorem dX12_isTree_24 : decode cX12_isTree 24 = .ok (.iload_n 1, 1) := by decide +kernel
theorem dX12_isTree_25 : decode cX12_isTree 25 = .ok (.invokevirtual 254, 3) := by decide +kernel
theorem dX12_isTree_28 : decode cX12_isTree 28 = .ok (.ifCond .eq 7, 3) := by decide +kernel
theorem dX12_isTree_31 : decode cX12_isTree 31 = .ok (.iconst 1, 1) := by decide +kernel
theorem dX12_isTree_32 : decode cX12_isTree 32 = .ok (.goto 4, 3) := by decide +kernel
theorem dX12_isTree_35 : decode cX12_isTree 35 = .ok (.iconst 0, 1) := by decide +kernel
theorem dX12_isTree_36 : decode cX12_isTree 36 = .ok (.ireturn, 1) := by decide +kernel
theorem dX12_cover_0 : decode cX12_cover 0 = .ok (.aload_n 0, 1) := by decide +kernel
theorem dX12_cover_1 : decode cX12_cover 1 = .ok (.iconst 0, 1) := by decide +kernel
theorem dX12_cover_2 : decode cX12_cover 2 = .ok (.putfield 60, 3) := by decide +kernel
theorem dX12_cover_5 : decode cX12_cover 5 = .ok (.iload_n 1, 1) := by decide +kernel
theorem dX12_cover_6 : decode cX12_cover 6 = .ok (.invokestatic 230, 3) := by decide +kernel
theorem dX12_cover_9 : decode cX12_cover 9 = .ok (.ifCond .ne 9, 3) := by decide +kernel
theorem dX12_cover_12 : decode cX12_cover 12 = .ok (.aload_n 0, 1) := by decide +kernel
theorem dX12_cover_13 : decode cX12_cover 13 = .ok (.iconst 1, 1) := by decide +kernel
theorem dX12_cover_14 : decode cX12_cover 14 = .ok (.invokevirtual 214, 3) := by decide +kernel
theorem dX12_cover_17 : decode cX12_cover 17 = .ok (.ireturn, 1) := by decide +kernel
theorem dX12_cover_18 : decode cX12_cover 18 = .ok (.bipush 10, 2) := by decide +kernel
theorem dX12_cover_20 : decode cX12_cover 20 = .ok (.istore_n 2, 1) := by decide +kernel
theorem dX12_cover_21 : decode cX12_cover 21 = .ok (.iconst 0, 1) := by decide +kernel
theorem dX12_cover_22 : decode cX12_cover 22 = .ok (.istore_n 3, 1) := by decide +kernel
theorem dX12_cover_23 : decode cX12_cover 23 = .ok (.iload_n 3, 1) := by decide +kernel
theorem dX12_cover_24 : decode cX12_cover 24 = .ok (.aload_n 0, 1) := by decide +kernel
theorem dX12_cover_25 : decode cX12_cover 25 = .ok (.iload_n 1, 1) := by decide +kernel
theorem dX12_cover_26 : decode cX12_cover 26 = .ok (.invokevirtual 257, 3) := by decide +kernel
theorem dX12_cover_29 : decode cX12_cover 29 = .ok (.if_icmp .ge 60, 3) := by decide +kernel
theorem dX12_cover_32 : decode cX12_cover 32 = .ok (.iconst 0, 1) := by decide +kernel
theorem dX12_cover_33 : decode cX12_cover 33 = .ok (.istore 4, 2) := by decide +kernel
theorem dX12_cover_35 : decode cX12_cover 35 = .ok (.iconst 0, 1) := by decide +kernel
theorem dX12_cover_36 : decode cX12_cover 36 = .ok (.istore 5, 2) := by decide +kernel
theorem dX12_cover_38 : decode cX12_cover 38 = .ok (.iload 5, 2) := by decide +kernel
theorem dX12_cover_40 : decode cX12_cover 40 = .ok (.aload_n 0, 1) := by decide +kernel
theorem dX12_cover_41 : decode cX12_cover 41 = .ok (.iload_n 1, 1) := by decide +kernel
theorem dX12_cover_42 : decode cX12_cover 42 = .ok (.invokevirtual 76, 3) := by decide +kernel
theorem dX12_cover_45 : decode cX12_cover 45 = .ok (.if_icmp .ge 20, 3) := by decide +kernel
theorem dX12_cover_48 : decode cX12_cover 48 = .ok (.iload 4, 2) := by decide +kernel
theorem dX12_cover_50 : decode cX12_cover 50 = .ok (.iload_n 3, 1) := by decide +kernel
theorem dX12_cover_51 : decode cX12_cover 51 = .ok (.iload 5, 2) := by decide +kernel
theorem dX12_cover_53 : decode cX12_cover 53 = .ok (.invokestatic 204, 3) := by decide +kernel
theorem dX12_cover_56 : decode cX12_cover 56 = .ok (.iadd, 1) := by decide +kernel
theorem dX12_cover_57 : decode cX12_cover 57 = .ok (.istore 4, 2) := by decide +kernel
theorem dX12_cover_59 : decode cX12_cover 59 = .ok (.iinc 5 1, 3) := by decide +kernel
theorem dX12_cover_62 : decode cX12_cover 62 = .ok (.goto (-24), 3) := by decide +kernel
theorem dX12_cover_65 : decode cX12_cover 65 = .ok (.iload 4, 2) := by decide +kernel
theorem dX12_cover_67 : decode cX12_cover 67 = .ok (.iload_n 2, 1) := by decide +kernel
theorem dX12_cover_68 : decode cX12_cover 68 = .ok (.if_icmp .ge 15, 3) := by decide +kernel
theorem dX12_cover_71 : decode cX12_cover 71 = .ok (.aload_n 0, 1) := by decide +kernel
theorem dX12_cover_72 : decode cX12_cover 72 = .ok (.iload_n 1, 1) := by decide +kernel
theorem dX12_cover_73 : decode cX12_cover 73 = .ok (.iload_n 3, 1) := by decide +kernel
theorem dX12_cover_74 : decode cX12_cover 74 = .ok (.invokevirtual 260, 3) := by decide +kernel
theorem dX12_cover_77 : decode cX12_cover 77 = .ok (.ifCond .eq 6, 3) := by decide +kernel
theorem dX12_cover_80 : decode cX12_cover 80 = .ok (.iload 4, 2) := by decide +kernel
theorem dX12_cover_82 : decode cX12_cover 82 = .ok (.istore_n 2, 1) := by decide +kernel
theorem dX12_cover_83 : decode cX12_cover 83 = .ok (.iinc 3 1, 3) := by decide +kernel
theorem dX12_cover_86 : decode cX12_cover 86 = .ok (.goto (-63), 3) := by decide +kernel
theorem dX12_cover_89 : decode cX12_cover 89 = .ok (.aload_n 0, 1) := by decide +kernel
theorem dX12_cover_90 : decode cX12_cover 90 = .ok (.iload_n 1, 1) := by decide +kernel
theorem dX12_cover_91 : decode cX12_cover 91 = .ok (.invokevirtual 76, 3) := by decide +kernel
theorem dX12_cover_94 : decode cX12_cover 94 = .ok (.ifCond .ne 7, 3) := by decide +kernel
theorem dX12_cover_97 : decode cX12_cover 97 = .ok (.iconst 0, 1) := by decide +kernel
theorem dX12_cover_98 : decode cX12_cover 98 = .ok (.goto 4, 3) := by decide +kernel
theorem dX12_cover_101 : decode cX12_cover 101 = .ok (.iload_n 2, 1) := by decide +kernel
theorem dX12_cover_102 : decode cX12_cover 102 = .ok (.ireturn, 1) := by decide +kernel
theorem dX12_bound_0 : decode cX12_bound 0 = .ok (.aload_n 0, 1) := by decide +kernel
theorem dX12_bound_1 : decode cX12_bound 1 = .ok (.iconst 0, 1) := by decide +kernel
theorem dX12_bound_2 : decode cX12_bound 2 = .ok (.putfield 60, 3) := by decide +kernel
theorem dX12_bound_5 : decode cX12_bound 5 = .ok (.iload_n 1, 1) := by decide +kernel
theorem dX12_bound_6 : decode cX12_bound 6 = .ok (.invokestatic 230, 3) := by decide +kernel
theorem dX12_bound_9 : decode cX12_bound 9 = .ok (.ifCond .ne 10, 3) := by decide +kernel
theorem dX12_bound_12 : decode cX12_bound 12 = .ok (.aload_n 0, 1) := by decide +kernel
theorem dX12_bound_13 : decode cX12_bound 13 = .ok (.iconst 1, 1) := by decide +kernel
theorem dX12_bound_14 : decode cX12_bound 14 = .ok (.invokevirtual 214, 3) := by decide +kernel
theorem dX12_bound_17 : decode cX12_bound 17 = .ok (.i2l, 1) := by decide +kernel
theorem dX12_bound_18 : decode cX12_bound 18 = .ok (.lreturn, 1) := by decide +kernel
theorem dX12_bound_19 : decode cX12_bound 19 = .ok (.ldc2_w 212, 3) := by decide +kernel
theorem dX12_bound_22 : decode cX12_bound 22 = .ok (.lstore_n 2, 1) := by decide +kernel
theorem dX12_bound_23 : decode cX12_bound 23 = .ok (.iconst 0, 1) := by decide +kernel
theorem dX12_bound_24 : decode cX12_bound 24 = .ok (.istore 4, 2) := by decide +kernel
theorem dX12_bound_26 : decode cX12_bound 26 = .ok (.iload 4, 2) := by decide +kernel
theorem dX12_bound_28 : decode cX12_bound 28 = .ok (.aload_n 0, 1) := by decide +kernel
theorem dX12_bound_29 : decode cX12_bound 29 = .ok (.iload_n 1, 1) := by decide +kernel
theorem dX12_bound_30 : decode cX12_bound 30 = .ok (.invokevirtual 257, 3) := by decide +kernel
theorem dX12_bound_33 : decode cX12_bound 33 = .ok (.if_icmp .ge 45, 3) := by decide +kernel
theorem dX12_bound_36 : decode cX12_bound 36 = .ok (.aload_n 0, 1) := by decide +kernel
theorem dX12_bound_37 : decode cX12_bound 37 = .ok (.iload_n 1, 1) := by decide +kernel
theorem dX12_bound_38 : decode cX12_bound 38 = .ok (.iload 4, 2) := by decide +kernel
theorem dX12_bound_40 : decode cX12_bound 40 = .ok (.invokevirtual 260, 3) := by decide +kernel
theorem dX12_bound_43 : decode cX12_bound 43 = .ok (.ifCond .ne 6, 3) := by decide +kernel
theorem dX12_bound_46 : decode cX12_bound 46 = .ok (.goto 26, 3) := by decide +kernel
theorem dX12_bound_49 : decode cX12_bound 49 = .ok (.aload_n 0, 1) := by decide +kernel
theorem dX12_bound_50 : decode cX12_bound 50 = .ok (.iload_n 1, 1) := by decide +kernel
theorem dX12_bound_51 : decode cX12_bound 51 = .ok (.iload 4, 2) := by decide +kernel
theorem dX12_bound_53 : decode cX12_bound 53 = .ok (.invokevirtual 263, 3) := by decide +kernel
theorem dX12_bound_56 : decode cX12_bound 56 = .ok (.lstore 5, 2) := by decide +kernel
theorem dX12_bound_58 : decode cX12_bound 58 = .ok (.lload 5, 2) := by decide +kernel
theorem dX12_bound_60 : decode cX12_bound 60 = .ok (.lload_n 2, 1) := by decide +kernel
theorem dX12_bound_61 : decode cX12_bound 61 = .ok (.lcmp, 1) := by decide +kernel
theorem dX12_bound_62 : decode cX12_bound 62 = .ok (.ifCond .ge 8, 3) := by decide +kernel
theorem dX12_bound_65 : decode cX12_bound 65 = .ok (.lload 5, 2) := by decide +kernel
theorem dX12_bound_67 : decode cX12_bound 67 = .ok (.goto 4, 3) := by decide +kernel
theorem dX12_bound_70 : decode cX12_bound 70 = .ok (.lload_n 2, 1) := by decide +kernel
theorem dX12_bound_71 : decode cX12_bound 71 = .ok (.lstore_n 2, 1) := by decide +kernel
theorem dX12_bound_72 : decode cX12_bound 72 = .ok (.iinc 4 1, 3) := by decide +kernel
theorem dX12_bound_75 : decode cX12_bound 75 = .ok (.goto (-49), 3) := by decide +kernel
theorem dX12_bound_78 : decode cX12_bound 78 = .ok (.lload_n 2, 1) := by decide +kernel
theorem dX12_bound_79 : decode cX12_bound 79 = .ok (.lreturn, 1) := by decide +kernel
theorem dX12_ruleCount_0 : decode cX12_ruleCount 0 = .ok (.aload_n 0, 1) := by decide +kernel
theorem dX12_ruleCount_1 : decode cX12_ruleCount 1 = .ok (.iconst 0, 1) := by decide +kernel
theorem dX12_ruleCount_2 : decode cX12_ruleCount 2 = .ok (.putfield 60, 3) := by decide +kernel
theorem dX12_ruleCount_5 : decode cX12_ruleCount 5 = .ok (.aload_n 0, 1) := by decide +kernel
theorem dX12_ruleCount_6 : decode cX12_ruleCount 6 = .ok (.getfield 9, 3) := by decide +kernel
theorem dX12_ruleCount_9 : decode cX12_ruleCount 9 = .ok (.sipush 2654, 3) := by decide +kernel
theorem dX12_ruleCount_12 : decode cX12_ruleCount 12 = .ok (.iaload, 1) := by decide +kernel
theorem dX12_ruleCount_13 : decode cX12_ruleCount 13 = .ok (.ireturn, 1) := by decide +kernel
theorem dX12_isIdle_0 : decode cX12_isIdle 0 = .ok (.aload_n 0, 1) := by decide +kernel
theorem dX12_isIdle_1 : decode cX12_isIdle 1 = .ok (.aload_n 0, 1) := by decide +kernel
theorem dX12_isIdle_2 : decode cX12_isIdle 2 = .ok (.iload_n 1, 1) := by decide +kernel
theorem dX12_isIdle_3 : decode cX12_isIdle 3 = .ok (.invokevirtual 239, 3) := by decide +kernel
theorem dX12_isIdle_6 : decode cX12_isIdle 6 = .ok (.ifCond .eq 7, 3) := by decide +kernel
theorem dX12_isIdle_9 : decode cX12_isIdle 9 = .ok (.iconst 0, 1) := by decide +kernel
theorem dX12_isIdle_10 : decode cX12_isIdle 10 = .ok (.goto 4, 3) := by decide +kernel
theorem dX12_isIdle_13 : decode cX12_isIdle 13 = .ok (.iconst 1, 1) := by decide +kernel
theorem dX12_isIdle_14 : decode cX12_isIdle 14 = .ok (.putfield 60, 3) := by decide +kernel
theorem dX12_isIdle_17 : decode cX12_isIdle 17 = .ok (.aload_n 0, 1) := by decide +kernel
theorem dX12_isIdle_18 : decode cX12_isIdle 18 = .ok (.getfield 60, 3) := by decide +kernel
theorem dX12_isIdle_21 : decode cX12_isIdle 21 = .ok (.ifCond .ne 15, 3) := by decide +kernel
theorem dX12_isIdle_24 : decode cX12_isIdle 24 = .ok (.aload_n 0, 1) := by decide +kernel
theorem dX12_isIdle_25 : decode cX12_isIdle 25 = .ok (.iload_n 1, 1) := by decide +kernel
theorem dX12_isIdle_26 : decode cX12_isIdle 26 = .ok (.invokevirtual 128, 3) := by decide +kernel
theorem dX12_isIdle_29 : decode cX12_isIdle 29 = .ok (.ifCond .eq 7, 3) := by decide +kernel
theorem dX12_isIdle_32 : decode cX12_isIdle 32 = .ok (.iconst 1, 1) := by decide +kernel
theorem dX12_isIdle_33 : decode cX12_isIdle 33 = .ok (.goto 4, 3) := by decide +kernel
theorem dX12_isIdle_36 : decode cX12_isIdle 36 = .ok (.iconst 0, 1) := by decide +kernel
theorem dX12_isIdle_37 : decode cX12_isIdle 37 = .ok (.ireturn, 1) := by decide +kernel
theorem dX12_layerOf_0 : decode cX12_layerOf 0 = .ok (.aload_n 0, 1) := by decide +kernel
theorem dX12_layerOf_1 : decode cX12_layerOf 1 = .ok (.iconst 0, 1) := by decide +kernel
theorem dX12_layerOf_2 : decode cX12_layerOf 2 = .ok (.putfield 60, 3) := by decide +kernel
theorem dX12_layerOf_5 : decode cX12_layerOf 5 = .ok (.aload_n 0, 1) := by decide +kernel
theorem dX12_layerOf_6 : decode cX12_layerOf 6 = .ok (.iload_n 1, 1) := by decide +kernel
theorem dX12_layerOf_7 : decode cX12_layerOf 7 = .ok (.invokevirtual 220, 3) := by decide +kernel
theorem dX12_layerOf_10 : decode cX12_layerOf 10 = .ok (.ifCond .eq 12, 3) := by decide +kernel
theorem dX12_layerOf_13 : decode cX12_layerOf 13 = .ok (.aload_n 0, 1) := by decide +kernel
theorem dX12_layerOf_14 : decode cX12_layerOf 14 = .ok (.getfield 23, 3) := by decide +kernel
theorem dX12_layerOf_17 : decode cX12_layerOf 17 = .ok (.iload_n 1, 1) := by decide +kernel
theorem dX12_layerOf_18 : decode cX12_layerOf 18 = .ok (.iaload, 1) := by decide +kernel
theorem dX12_layerOf_19 : decode cX12_layerOf 19 = .ok (.goto 8, 3) := by decide +kernel
theorem dX12_layerOf_22 : decode cX12_layerOf 22 = .ok (.aload_n 0, 1) := by decide +kernel
theorem dX12_layerOf_23 : decode cX12_layerOf 23 = .ok (.iconst 1, 1) := by decide +kernel
theorem dX12_layerOf_24 : decode cX12_layerOf 24 = .ok (.invokevirtual 214, 3) := by decide +kernel
theorem dX12_layerOf_27 : decode cX12_layerOf 27 = .ok (.ireturn, 1) := by decide +kernel
theorem dX12_rounds_0 : decode cX12_rounds 0 = .ok (.aload_n 0, 1) := by decide +kernel
theorem dX12_rounds_1 : decode cX12_rounds 1 = .ok (.iconst 0, 1) := by decide +kernel
theorem dX12_rounds_2 : decode cX12_rounds 2 = .ok (.putfield 60, 3) := by decide +kernel
theorem dX12_rounds_5 : decode cX12_rounds 5 = .ok (.aload_n 0, 1) := by decide +kernel
theorem dX12_rounds_6 : decode cX12_rounds 6 = .ok (.getfield 135, 3) := by decide +kernel
theorem dX12_rounds_9 : decode cX12_rounds 9 = .ok (.ireturn, 1) := by decide +kernel
theorem dX12_firings_0 : decode cX12_firings 0 = .ok (.aload_n 0, 1) := by decide +kernel
theorem dX12_firings_1 : decode cX12_firings 1 = .ok (.iconst 0, 1) := by decide +kernel
theorem dX12_firings_2 : decode cX12_firings 2 = .ok (.putfield 60, 3) := by decide +kernel
theorem dX12_firings_5 : decode cX12_firings 5 = .ok (.aload_n 0, 1) := by decide +kernel
theorem dX12_firings_6 : decode cX12_firings 6 = .ok (.iload_n 1, 1) := by decide +kernel
theorem dX12_firings_7 : decode cX12_firings 7 = .ok (.invokevirtual 239, 3) := by decide +kernel
theorem dX12_firings_10 : decode cX12_firings 10 = .ok (.ifCond .eq 12, 3) := by decide +kernel
theorem dX12_firings_13 : decode cX12_firings 13 = .ok (.aload_n 0, 1) := by decide +kernel
theorem dX12_firings_14 : decode cX12_firings 14 = .ok (.iload_n 1, 1) := by decide +kernel
theorem dX12_firings_15 : decode cX12_firings 15 = .ok (.iconst (-1), 1) := by decide +kernel
theorem dX12_firings_16 : decode cX12_firings 16 = .ok (.invokevirtual 151, 3) := by decide +kernel
theorem dX12_firings_19 : decode cX12_firings 19 = .ok (.goto 8, 3) := by decide +kernel
theorem dX12_firings_22 : decode cX12_firings 22 = .ok (.aload_n 0, 1) := by decide +kernel
theorem dX12_firings_23 : decode cX12_firings 23 = .ok (.iconst 1, 1) := by decide +kernel
theorem dX12_firings_24 : decode cX12_firings 24 = .ok (.invokevirtual 214, 3) := by decide +kernel
theorem dX12_firings_27 : decode cX12_firings 27 = .ok (.ireturn, 1) := by decide +kernel
theorem dX12_meanReasons_0 : decode cX12_meanReasons 0 = .ok (.aload_n 0, 1) := by decide +kernel
theorem dX12_meanReasons_1 : decode cX12_meanReasons 1 = .ok (.iconst 0, 1) := by decide +kernel
theorem dX12_meanReasons_2 : decode cX12_meanReasons 2 = .ok (.putfield 60, 3) := by decide +kernel
theorem dX12_meanReasons_5 : decode cX12_meanReasons 5 = .ok (.iconst 0, 1) := by decide +kernel
theorem dX12_meanReasons_6 : decode cX12_meanReasons 6 = .ok (.istore_n 1, 1) := by decide +kernel
theorem dX12_meanReasons_7 : decode cX12_meanReasons 7 = .ok (.iconst 0, 1) := by decide +kernel
theorem dX12_meanReasons_8 : decode cX12_meanReasons 8 = .ok (.istore_n 2, 1) := by decide +kernel
theorem dX12_meanReasons_9 : decode cX12_meanReasons 9 = .ok (.iconst 0, 1) := by decide +kernel
theorem dX12_meanReasons_10 : decode cX12_meanReasons 10 = .ok (.istore_n 3, 1) := by decide +kernel
theorem dX12_meanReasons_11 : decode cX12_meanReasons 11 = .ok (.iload_n 3, 1) := by decide +kernel
theorem dX12_meanReasons_12 : decode cX12_meanReasons 12 = .ok (.aload_n 0, 1) := by decide +kernel
theorem dX12_meanReasons_13 : decode cX12_meanReasons 13 = .ok (.getfield 9, 3) := by decide +kernel
theorem dX12_meanReasons_16 : decode cX12_meanReasons 16 = .ok (.iconst 0, 1) := by decide +kernel
theorem dX12_meanReasons_17 : decode cX12_meanReasons 17 = .ok (.iaload, 1) := by decide +kernel
theorem dX12_meanReasons_18 : decode cX12_meanReasons 18 = .ok (.if_icmp .ge 44, 3) := by decide +kernel
theorem dX12_meanReasons_21 : decode cX12_meanReasons 21 = .ok (.iload_n 2, 1) := by decide +kernel
theorem dX12_meanReasons_22 : decode cX12_meanReasons 22 = .ok (.aload_n 0, 1) := by decide +kernel
theorem dX12_meanReasons_23 : decode cX12_meanReasons 23 = .ok (.iload_n 3, 1) := by decide +kernel
theorem dX12_meanReasons_24 : decode cX12_meanReasons 24 = .ok (.invokevirtual 242, 3) := by decide +kernel
theorem dX12_meanReasons_27 : decode cX12_meanReasons 27 = .ok (.iadd, 1) := by decide +kernel
theorem dX12_meanReasons_28 : decode cX12_meanReasons 28 = .ok (.istore_n 2, 1) := by decide +kernel
theorem dX12_meanReasons_29 : decode cX12_meanReasons 29 = .ok (.iconst 0, 1) := by decide +kernel
theorem dX12_meanReasons_30 : decode cX12_meanReasons 30 = .ok (.istore 4, 2) := by decide +kernel
theorem dX12_meanReasons_32 : decode cX12_meanReasons 32 = .ok (.iload 4, 2) := by decide +kernel
theorem dX12_meanReasons_34 : decode cX12_meanReasons 34 = .ok (.sipush 512, 3) := by decide +kernel
theorem dX12_meanReasons_37 : decode cX12_meanReasons 37 = .ok (.if_icmp .ge 19, 3) := by decide +kernel
theorem dX12_meanReasons_40 : decode cX12_meanReasons 40 = .ok (.iload_n 1, 1) := by decide +kernel
theorem dX12_meanReasons_41 : decode cX12_meanReasons 41 = .ok (.aload_n 0, 1) := by decide +kernel
theorem dX12_meanReasons_42 : decode cX12_meanReasons 42 = .ok (.iload_n 3, 1) := by decide +kernel
theorem dX12_meanReasons_43 : decode cX12_meanReasons 43 = .ok (.iload 4, 2) := by decide +kernel
theorem dX12_meanReasons_45 : decode cX12_meanReasons 45 = .ok (.invokevirtual 245, 3) := by decide +kernel
theorem dX12_meanReasons_48 : decode cX12_meanReasons 48 = .ok (.iadd, 1) := by decide +kernel
theorem dX12_meanReasons_49 : decode cX12_meanReasons 49 = .ok (.istore_n 1, 1) := by decide +kernel
theorem dX12_meanReasons_50 : decode cX12_meanReasons 50 = .ok (.iinc 4 1, 3) := by decide +kernel
theorem dX12_meanReasons_53 : decode cX12_meanReasons 53 = .ok (.goto (-21), 3) := by decide +kernel
theorem dX12_meanReasons_56 : decode cX12_meanReasons 56 = .ok (.iinc 3 1, 3) := by decide +kernel
theorem dX12_meanReasons_59 : decode cX12_meanReasons 59 = .ok (.goto (-48), 3) := by decide +kernel
theorem dX12_meanReasons_62 : decode cX12_meanReasons 62 = .ok (.iload_n 2, 1) := by decide +kernel
theorem dX12_meanReasons_63 : decode cX12_meanReasons 63 = .ok (.ifCond .ne 7, 3) := by decide +kernel
theorem dX12_meanReasons_66 : decode cX12_meanReasons 66 = .ok (.dconst 0, 1) := by decide +kernel
theorem dX12_meanReasons_67 : decode cX12_meanReasons 67 = .ok (.goto 8, 3) := by decide +kernel
theorem dX12_meanReasons_70 : decode cX12_meanReasons 70 = .ok (.iload_n 1, 1) := by decide +kernel
theorem dX12_meanReasons_71 : decode cX12_meanReasons 71 = .ok (.i2d, 1) := by decide +kernel
theorem dX12_meanReasons_72 : decode cX12_meanReasons 72 = .ok (.iload_n 2, 1) := by decide +kernel
theorem dX12_meanReasons_73 : decode cX12_meanReasons 73 = .ok (.i2d, 1) := by decide +kernel
theorem dX12_meanReasons_74 : decode cX12_meanReasons 74 = .ok (.ddiv, 1) := by decide +kernel
theorem dX12_meanReasons_75 : decode cX12_meanReasons 75 = .ok (.dreturn, 1) := by decide +kernel
theorem dX12_factShare_0 : decode cX12_factShare 0 = .ok (.aload_n 0, 1) := by decide +kernel
theorem dX12_factShare_1 : decode cX12_factShare 1 = .ok (.iconst 0, 1) := by decide +kernel
theorem dX12_factShare_2 : decode cX12_factShare 2 = .ok (.putfield 60, 3) := by decide +kernel
theorem dX12_factShare_5 : decode cX12_factShare 5 = .ok (.iconst 0, 1) := by decide +kernel
theorem dX12_factShare_6 : decode cX12_factShare 6 = .ok (.istore_n 1, 1) := by decide +kernel
theorem dX12_factShare_7 : decode cX12_factShare 7 = .ok (.iconst 0, 1) := by decide +kernel
theorem dX12_factShare_8 : decode cX12_factShare 8 = .ok (.istore_n 2, 1) := by decide +kernel
theorem dX12_factShare_9 : decode cX12_factShare 9 = .ok (.iconst 0, 1) := by decide +kernel
theorem dX12_factShare_10 : decode cX12_factShare 10 = .ok (.istore_n 3, 1) := by decide +kernel
theorem dX12_factShare_11 : decode cX12_factShare 11 = .ok (.iload_n 3, 1) := by decide +kernel
theorem dX12_factShare_12 : decode cX12_factShare 12 = .ok (.aload_n 0, 1) := by decide +kernel
theorem dX12_factShare_13 : decode cX12_factShare 13 = .ok (.getfield 9, 3) := by decide +kernel
theorem dX12_factShare_16 : decode cX12_factShare 16 = .ok (.iconst 0, 1) := by decide +kernel
theorem dX12_factShare_17 : decode cX12_factShare 17 = .ok (.iaload, 1) := by decide +kernel
theorem dX12_factShare_18 : decode cX12_factShare 18 = .ok (.if_icmp .ge 25, 3) := by decide +kernel
theorem dX12_factShare_21 : decode cX12_factShare 21 = .ok (.iload_n 1, 1) := by decide +kernel
theorem dX12_factShare_22 : decode cX12_factShare 22 = .ok (.aload_n 0, 1) := by decide +kernel
theorem dX12_factShare_23 : decode cX12_factShare 23 = .ok (.iload_n 3, 1) := by decide +kernel
theorem dX12_factShare_24 : decode cX12_factShare 24 = .ok (.invokevirtual 227, 3) := by decide +kernel
theorem dX12_factShare_27 : decode cX12_factShare 27 = .ok (.iadd, 1) := by decide +kernel
theorem dX12_factShare_28 : decode cX12_factShare 28 = .ok (.istore_n 1, 1) := by decide +kernel
theorem dX12_factShare_29 : decode cX12_factShare 29 = .ok (.iload_n 2, 1) := by decide +kernel
theorem dX12_factShare_30 : decode cX12_factShare 30 = .ok (.aload_n 0, 1) := by decide +kernel
theorem dX12_factShare_31 : decode cX12_factShare 31 = .ok (.iload_n 3, 1) := by decide +kernel
theorem dX12_factShare_32 : decode cX12_factShare 32 = .ok (.invokevirtual 242, 3) := by decide +kernel
theorem dX12_factShare_35 : decode cX12_factShare 35 = .ok (.iadd, 1) := by decide +kernel
theorem dX12_factShare_36 : decode cX12_factShare 36 = .ok (.istore_n 2, 1) := by decide +kernel
theorem dX12_factShare_37 : decode cX12_factShare 37 = .ok (.iinc 3 1, 3) := by decide +kernel
theorem dX12_factShare_40 : decode cX12_factShare 40 = .ok (.goto (-29), 3) := by decide +kernel
theorem dX12_factShare_43 : decode cX12_factShare 43 = .ok (.iload_n 2, 1) := by decide +kernel
theorem dX12_factShare_44 : decode cX12_factShare 44 = .ok (.ifCond .ne 7, 3) := by decide +kernel
theorem dX12_factShare_47 : decode cX12_factShare 47 = .ok (.fconst 0, 1) := by decide +kernel
theorem dX12_factShare_48 : decode cX12_factShare 48 = .ok (.goto 8, 3) := by decide +kernel
theorem dX12_factShare_51 : decode cX12_factShare 51 = .ok (.iload_n 1, 1) := by decide +kernel
theorem dX12_factShare_52 : decode cX12_factShare 52 = .ok (.i2f, 1) := by decide +kernel
theorem dX12_factShare_53 : decode cX12_factShare 53 = .ok (.iload_n 2, 1) := by decide +kernel
theorem dX12_factShare_54 : decode cX12_factShare 54 = .ok (.i2f, 1) := by decide +kernel
theorem dX12_factShare_55 : decode cX12_factShare 55 = .ok (.fdiv, 1) := by decide +kernel
theorem dX12_factShare_56 : decode cX12_factShare 56 = .ok (.freturn, 1) := by decide +kernel
theorem dX12_errors_0 : decode cX12_errors 0 = .ok (.aload_n 0, 1) := by decide +kernel
theorem dX12_errors_1 : decode cX12_errors 1 = .ok (.iconst 0, 1) := by decide +kernel
theorem dX12_errors_2 : decode cX12_errors 2 = .ok (.putfield 60, 3) := by decide +kernel
theorem dX12_errors_5 : decode cX12_errors 5 = .ok (.iconst 0, 1) := by decide +kernel
theorem dX12_errors_6 : decode cX12_errors 6 = .ok (.istore_n 1, 1) := by decide +kernel
theorem dX12_errors_7 : decode cX12_errors 7 = .ok (.iconst 0, 1) := by decide +kernel
theorem dX12_errors_8 : decode cX12_errors 8 = .ok (.istore_n 2, 1) := by decide +kernel
theorem dX12_errors_9 : decode cX12_errors 9 = .ok (.iload_n 2, 1) := by decide +kernel
theorem dX12_errors_10 : decode cX12_errors 10 = .ok (.aload_n 0, 1) := by decide +kernel
theorem dX12_errors_11 : decode cX12_errors 11 = .ok (.getfield 9, 3) := by decide +kernel
theorem dX12_errors_14 : decode cX12_errors 14 = .ok (.iconst 0, 1) := by decide +kernel
theorem dX12_errors_15 : decode cX12_errors 15 = .ok (.iaload, 1) := by decide +kernel
theorem dX12_errors_16 : decode cX12_errors 16 = .ok (.if_icmp .ge 56, 3) := by decide +kernel
theorem dX12_errors_19 : decode cX12_errors 19 = .ok (.iconst 0, 1) := by decide +kernel
theorem dX12_errors_20 : decode cX12_errors 20 = .ok (.istore_n 3, 1) := by decide +kernel
theorem dX12_errors_21 : decode cX12_errors 21 = .ok (.iload_n 3, 1) := by decide +kernel
theorem dX12_errors_22 : decode cX12_errors 22 = .ok (.sipush 512, 3) := by decide +kernel
theorem dX12_errors_25 : decode cX12_errors 25 = .ok (.if_icmp .ge 41, 3) := by decide +kernel
theorem dX12_errors_28 : decode cX12_errors 28 = .ok (.iload_n 1, 1) := by decide +kernel
theorem dX12_errors_29 : decode cX12_errors 29 = .ok (.aload_n 0, 1) := by decide +kernel
theorem dX12_errors_30 : decode cX12_errors 30 = .ok (.getfield 16, 3) := by decide +kernel
theorem dX12_errors_33 : decode cX12_errors 33 = .ok (.sipush 512, 3) := by decide +kernel
theorem dX12_errors_36 : decode cX12_errors 36 = .ok (.iload_n 2, 1) := by decide +kernel
theorem dX12_errors_37 : decode cX12_errors 37 = .ok (.imul, 1) := by decide +kernel
theorem dX12_errors_38 : decode cX12_errors 38 = .ok (.iload_n 3, 1) := by decide +kernel
theorem dX12_errors_39 : decode cX12_errors 39 = .ok (.iadd, 1) := by decide +kernel
theorem dX12_errors_40 : decode cX12_errors 40 = .ok (.baload, 1) := by decide +kernel
theorem dX12_errors_41 : decode cX12_errors 41 = .ok (.ifCond .eq 16, 3) := by decide +kernel
theorem dX12_errors_44 : decode cX12_errors 44 = .ok (.aload_n 0, 1) := by decide +kernel
theorem dX12_errors_45 : decode cX12_errors 45 = .ok (.iload_n 2, 1) := by decide +kernel
theorem dX12_errors_46 : decode cX12_errors 46 = .ok (.iload_n 3, 1) := by decide +kernel
theorem dX12_errors_47 : decode cX12_errors 47 = .ok (.invokevirtual 245, 3) := by decide +kernel
theorem dX12_errors_50 : decode cX12_errors 50 = .ok (.ifCond .ne 7, 3) := by decide +kernel
theorem dX12_errors_53 : decode cX12_errors 53 = .ok (.iconst 1, 1) := by decide +kernel
theorem dX12_errors_54 : decode cX12_errors 54 = .ok (.goto 4, 3) := by decide +kernel
theorem dX12_errors_57 : decode cX12_errors 57 = .ok (.iconst 0, 1) := by decide +kernel
theorem dX12_errors_58 : decode cX12_errors 58 = .ok (.iadd, 1) := by decide +kernel
theorem dX12_errors_59 : decode cX12_errors 59 = .ok (.istore_n 1, 1) := by decide +kernel
theorem dX12_errors_60 : decode cX12_errors 60 = .ok (.iinc 3 1, 3) := by decide +kernel
theorem dX12_errors_63 : decode cX12_errors 63 = .ok (.goto (-42), 3) := by decide +kernel
theorem dX12_errors_66 : decode cX12_errors 66 = .ok (.iinc 2 1, 3) := by decide +kernel
theorem dX12_errors_69 : decode cX12_errors 69 = .ok (.goto (-60), 3) := by decide +kernel
theorem dX12_errors_72 : decode cX12_errors 72 = .ok (.iload_n 1, 1) := by decide +kernel
theorem dX12_errors_73 : decode cX12_errors 73 = .ok (.ireturn, 1) := by decide +kernel
theorem dX12_checksum_0 : decode cX12_checksum 0 = .ok (.aload_n 0, 1) := by decide +kernel
theorem dX12_checksum_1 : decode cX12_checksum 1 = .ok (.iconst 0, 1) := by decide +kernel
theorem dX12_checksum_2 : decode cX12_checksum 2 = .ok (.putfield 60, 3) := by decide +kernel
theorem dX12_checksum_5 : decode cX12_checksum 5 = .ok (.bipush 17, 2) := by decide +kernel
theorem dX12_checksum_7 : decode cX12_checksum 7 = .ok (.istore_n 1, 1) := by decide +kernel
theorem dX12_checksum_8 : decode cX12_checksum 8 = .ok (.iconst 0, 1) := by decide +kernel
theorem dX12_checksum_9 : decode cX12_checksum 9 = .ok (.istore_n 2, 1) := by decide +kernel
theorem dX12_checksum_10 : decode cX12_checksum 10 = .ok (.iload_n 2, 1) := by decide +kernel
theorem dX12_checksum_11 : decode cX12_checksum 11 = .ok (.aload_n 0, 1) := by decide +kernel
theorem dX12_checksum_12 : decode cX12_checksum 12 = .ok (.getfield 9, 3) := by decide +kernel
theorem dX12_checksum_15 : decode cX12_checksum 15 = .ok (.iconst 0, 1) := by decide +kernel
theorem dX12_checksum_16 : decode cX12_checksum 16 = .ok (.iaload, 1) := by decide +kernel
theorem dX12_checksum_17 : decode cX12_checksum 17 = .ok (.if_icmp .ge 70, 3) := by decide +kernel
theorem dX12_checksum_20 : decode cX12_checksum 20 = .ok (.iconst 0, 1) := by decide +kernel
theorem dX12_checksum_21 : decode cX12_checksum 21 = .ok (.istore_n 3, 1) := by decide +kernel
theorem dX12_checksum_22 : decode cX12_checksum 22 = .ok (.iload_n 3, 1) := by decide +kernel
theorem dX12_checksum_23 : decode cX12_checksum 23 = .ok (.sipush 512, 3) := by decide +kernel
theorem dX12_checksum_26 : decode cX12_checksum 26 = .ok (.if_icmp .ge 55, 3) := by decide +kernel
theorem dX12_checksum_29 : decode cX12_checksum 29 = .ok (.iconst 0, 1) := by decide +kernel
theorem dX12_checksum_30 : decode cX12_checksum 30 = .ok (.istore 4, 2) := by decide +kernel
theorem dX12_checksum_32 : decode cX12_checksum 32 = .ok (.iload 4, 2) := by decide +kernel
theorem dX12_checksum_34 : decode cX12_checksum 34 = .ok (.aload_n 0, 1) := by decide +kernel
theorem dX12_checksum_35 : decode cX12_checksum 35 = .ok (.iload_n 2, 1) := by decide +kernel
theorem dX12_checksum_36 : decode cX12_checksum 36 = .ok (.invokevirtual 68, 3) := by decide +kernel
theorem dX12_checksum_39 : decode cX12_checksum 39 = .ok (.if_icmp .ge 36, 3) := by decide +kernel
theorem dX12_checksum_42 : decode cX12_checksum 42 = .ok (.aload_n 0, 1) := by decide +kernel
theorem dX12_checksum_43 : decode cX12_checksum 43 = .ok (.getfield 16, 3) := by decide +kernel
theorem dX12_checksum_46 : decode cX12_checksum 46 = .ok (.sipush 512, 3) := by decide +kernel
theorem dX12_checksum_49 : decode cX12_checksum 49 = .ok (.iload_n 2, 1) := by decide +kernel
theorem dX12_checksum_50 : decode cX12_checksum 50 = .ok (.imul, 1) := by decide +kernel
theorem dX12_checksum_51 : decode cX12_checksum 51 = .ok (.iload_n 3, 1) := by decide +kernel
theorem dX12_checksum_52 : decode cX12_checksum 52 = .ok (.iadd, 1) := by decide +kernel
theorem dX12_checksum_53 : decode cX12_checksum 53 = .ok (.baload, 1) := by decide +kernel
theorem dX12_checksum_54 : decode cX12_checksum 54 = .ok (.ifCond .eq 21, 3) := by decide +kernel
theorem dX12_checksum_57 : decode cX12_checksum 57 = .ok (.bipush 31, 2) := by decide +kernel
theorem dX12_checksum_59 : decode cX12_checksum 59 = .ok (.iload_n 1, 1) := by decide +kernel
theorem dX12_checksum_60 : decode cX12_checksum 60 = .ok (.imul, 1) := by decide +kernel
theorem dX12_checksum_61 : decode cX12_checksum 61 = .ok (.iload_n 3, 1) := by decide +kernel
theorem dX12_checksum_62 : decode cX12_checksum 62 = .ok (.iload 4, 2) := by decide +kernel
theorem dX12_checksum_64 : decode cX12_checksum 64 = .ok (.invokestatic 172, 3) := by decide +kernel
theorem dX12_checksum_67 : decode cX12_checksum 67 = .ok (.iadd, 1) := by decide +kernel
theorem dX12_checksum_68 : decode cX12_checksum 68 = .ok (.istore_n 1, 1) := by decide +kernel
theorem dX12_checksum_69 : decode cX12_checksum 69 = .ok (.iinc 4 1, 3) := by decide +kernel
theorem dX12_checksum_72 : decode cX12_checksum 72 = .ok (.goto (-40), 3) := by decide +kernel
theorem dX12_checksum_75 : decode cX12_checksum 75 = .ok (.iinc 3 1, 3) := by decide +kernel
theorem dX12_checksum_78 : decode cX12_checksum 78 = .ok (.goto (-56), 3) := by decide +kernel
theorem dX12_checksum_81 : decode cX12_checksum 81 = .ok (.iinc 2 1, 3) := by decide +kernel
theorem dX12_checksum_84 : decode cX12_checksum 84 = .ok (.goto (-74), 3) := by decide +kernel
theorem dX12_checksum_87 : decode cX12_checksum 87 = .ok (.iconst 0, 1) := by decide +kernel
theorem dX12_checksum_88 : decode cX12_checksum 88 = .ok (.istore_n 2, 1) := by decide +kernel
theorem dX12_checksum_89 : decode cX12_checksum 89 = .ok (.iload_n 2, 1) := by decide +kernel
theorem dX12_checksum_90 : decode cX12_checksum 90 = .ok (.iconst 4, 1) := by decide +kernel
theorem dX12_checksum_91 : decode cX12_checksum 91 = .ok (.if_icmp .ge 20, 3) := by decide +kernel
theorem dX12_checksum_94 : decode cX12_checksum 94 = .ok (.bipush 31, 2) := by decide +kernel
theorem dX12_checksum_96 : decode cX12_checksum 96 = .ok (.iload_n 1, 1) := by decide +kernel
theorem dX12_checksum_97 : decode cX12_checksum 97 = .ok (.imul, 1) := by decide +kernel
theorem dX12_checksum_98 : decode cX12_checksum 98 = .ok (.aload_n 0, 1) := by decide +kernel
theorem dX12_checksum_99 : decode cX12_checksum 99 = .ok (.iload_n 2, 1) := by decide +kernel
theorem dX12_checksum_100 : decode cX12_checksum 100 = .ok (.invokevirtual 251, 3) := by decide +kernel
theorem dX12_checksum_103 : decode cX12_checksum 103 = .ok (.iadd, 1) := by decide +kernel
theorem dX12_checksum_104 : decode cX12_checksum 104 = .ok (.istore_n 1, 1) := by decide +kernel
theorem dX12_checksum_105 : decode cX12_checksum 105 = .ok (.iinc 2 1, 3) := by decide +kernel
theorem dX12_checksum_108 : decode cX12_checksum 108 = .ok (.goto (-19), 3) := by decide +kernel
theorem dX12_checksum_111 : decode cX12_checksum 111 = .ok (.iload_n 1, 1) := by decide +kernel
theorem dX12_checksum_112 : decode cX12_checksum 112 = .ok (.ireturn, 1) := by decide +kernel
