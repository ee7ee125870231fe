theorem dL_addTable_0 : decode cL_addTable 0 = .ok (.aload_n 2, 1) := by decide +kernel
theorem dL_addTable_1 : decode cL_addTable 1 = .ok (.iconst 0, 1) := by decide +kernel
theorem dL_addTable_2 : decode cL_addTable 2 = .ok (.aload_n 0, 1) := by decide +kernel
theorem dL_addTable_3 : decode cL_addTable 3 = .ok (.iload_n 1, 1) := by decide +kernel
theorem dL_addTable_4 : decode cL_addTable 4 = .ok (.invokevirtual 7, 3) := by decide +kernel
theorem dL_addTable_7 : decode cL_addTable 7 = .ok (.i2l, 1) := by decide +kernel
theorem dL_addTable_8 : decode cL_addTable 8 = .ok (.lastore, 1) := by decide +kernel
theorem dL_addTable_9 : decode cL_addTable 9 = .ok (.goto 9, 3) := by decide +kernel
theorem dL_addTable_12 : decode cL_addTable 12 = .ok (.astore_n 3, 1) := by decide +kernel
theorem dL_addTable_13 : decode cL_addTable 13 = .ok (.iconst 1, 1) := by decide +kernel
theorem dL_addTable_14 : decode cL_addTable 14 = .ok (.ireturn, 1) := by decide +kernel
theorem dL_addTable_15 : decode cL_addTable 15 = .ok (.astore_n 3, 1) := by decide +kernel
theorem dL_addTable_16 : decode cL_addTable 16 = .ok (.iconst 2, 1) := by decide +kernel
theorem dL_addTable_17 : decode cL_addTable 17 = .ok (.ireturn, 1) := by decide +kernel
theorem dL_addTable_18 : decode cL_addTable 18 = .ok (.iconst 0, 1) := by decide +kernel
theorem dL_addTable_19 : decode cL_addTable 19 = .ok (.ireturn, 1) := by decide +kernel
theorem dL_addFact_0 : decode cL_addFact 0 = .ok (.aload 5, 2) := by decide +kernel
theorem dL_addFact_2 : decode cL_addFact 2 = .ok (.iconst 0, 1) := by decide +kernel
theorem dL_addFact_3 : decode cL_addFact 3 = .ok (.aload_n 0, 1) := by decide +kernel
theorem dL_addFact_4 : decode cL_addFact 4 = .ok (.iload_n 1, 1) := by decide +kernel
theorem dL_addFact_5 : decode cL_addFact 5 = .ok (.iload_n 2, 1) := by decide +kernel
theorem dL_addFact_6 : decode cL_addFact 6 = .ok (.iload_n 3, 1) := by decide +kernel
theorem dL_addFact_7 : decode cL_addFact 7 = .ok (.iload 4, 2) := by decide +kernel
theorem dL_addFact_9 : decode cL_addFact 9 = .ok (.invokevirtual 17, 3) := by decide +kernel
theorem dL_addFact_12 : decode cL_addFact 12 = .ok (.i2l, 1) := by decide +kernel
theorem dL_addFact_13 : decode cL_addFact 13 = .ok (.lastore, 1) := by decide +kernel
theorem dL_addFact_14 : decode cL_addFact 14 = .ok (.goto 15, 3) := by decide +kernel
theorem dL_addFact_17 : decode cL_addFact 17 = .ok (.astore 6, 2) := by decide +kernel
theorem dL_addFact_19 : decode cL_addFact 19 = .ok (.iconst 1, 1) := by decide +kernel
theorem dL_addFact_20 : decode cL_addFact 20 = .ok (.ireturn, 1) := by decide +kernel
theorem dL_addFact_21 : decode cL_addFact 21 = .ok (.astore 6, 2) := by decide +kernel
theorem dL_addFact_23 : decode cL_addFact 23 = .ok (.iconst 2, 1) := by decide +kernel
theorem dL_addFact_24 : decode cL_addFact 24 = .ok (.ireturn, 1) := by decide +kernel
theorem dL_addFact_25 : decode cL_addFact 25 = .ok (.astore 6, 2) := by decide +kernel
theorem dL_addFact_27 : decode cL_addFact 27 = .ok (.iconst 3, 1) := by decide +kernel
theorem dL_addFact_28 : decode cL_addFact 28 = .ok (.ireturn, 1) := by decide +kernel
theorem dL_addFact_29 : decode cL_addFact 29 = .ok (.iconst 0, 1) := by decide +kernel
theorem dL_addFact_30 : decode cL_addFact 30 = .ok (.ireturn, 1) := by decide +kernel
theorem dL_removeFact_0 : decode cL_removeFact 0 = .ok (.aload 5, 2) := by decide +kernel
theorem dL_removeFact_2 : decode cL_removeFact 2 = .ok (.iconst 0, 1) := by decide +kernel
theorem dL_removeFact_3 : decode cL_removeFact 3 = .ok (.aload_n 0, 1) := by decide +kernel
theorem dL_removeFact_4 : decode cL_removeFact 4 = .ok (.iload_n 1, 1) := by decide +kernel
theorem dL_removeFact_5 : decode cL_removeFact 5 = .ok (.iload_n 2, 1) := by decide +kernel
theorem dL_removeFact_6 : decode cL_removeFact 6 = .ok (.iload_n 3, 1) := by decide +kernel
theorem dL_removeFact_7 : decode cL_removeFact 7 = .ok (.iload 4, 2) := by decide +kernel
theorem dL_removeFact_9 : decode cL_removeFact 9 = .ok (.invokevirtual 23, 3) := by decide +kernel
theorem dL_removeFact_12 : decode cL_removeFact 12 = .ok (.i2l, 1) := by decide +kernel
theorem dL_removeFact_13 : decode cL_removeFact 13 = .ok (.lastore, 1) := by decide +kernel
theorem dL_removeFact_14 : decode cL_removeFact 14 = .ok (.goto 15, 3) := by decide +kernel
theorem dL_removeFact_17 : decode cL_removeFact 17 = .ok (.astore 6, 2) := by decide +kernel
theorem dL_removeFact_19 : decode cL_removeFact 19 = .ok (.iconst 1, 1) := by decide +kernel
theorem dL_removeFact_20 : decode cL_removeFact 20 = .ok (.ireturn, 1) := by decide +kernel
theorem dL_removeFact_21 : decode cL_removeFact 21 = .ok (.astore 6, 2) := by decide +kernel
theorem dL_removeFact_23 : decode cL_removeFact 23 = .ok (.iconst 2, 1) := by decide +kernel
theorem dL_removeFact_24 : decode cL_removeFact 24 = .ok (.ireturn, 1) := by decide +kernel
theorem dL_removeFact_25 : decode cL_removeFact 25 = .ok (.astore 6, 2) := by decide +kernel
theorem dL_removeFact_27 : decode cL_removeFact 27 = .ok (.iconst 3, 1) := by decide +kernel
theorem dL_removeFact_28 : decode cL_removeFact 28 = .ok (.ireturn, 1) := by decide +kernel
theorem dL_removeFact_29 : decode cL_removeFact 29 = .ok (.iconst 0, 1) := by decide +kernel
theorem dL_removeFact_30 : decode cL_removeFact 30 = .ok (.ireturn, 1) := by decide +kernel
theorem dL_addAtom_0 : decode cL_addAtom 0 = .ok (.aload 6, 2) := by decide +kernel
theorem dL_addAtom_2 : decode cL_addAtom 2 = .ok (.iconst 0, 1) := by decide +kernel
theorem dL_addAtom_3 : decode cL_addAtom 3 = .ok (.aload_n 0, 1) := by decide +kernel
theorem dL_addAtom_4 : decode cL_addAtom 4 = .ok (.iload_n 1, 1) := by decide +kernel
theorem dL_addAtom_5 : decode cL_addAtom 5 = .ok (.iload_n 2, 1) := by decide +kernel
theorem dL_addAtom_6 : decode cL_addAtom 6 = .ok (.iload_n 3, 1) := by decide +kernel
theorem dL_addAtom_7 : decode cL_addAtom 7 = .ok (.iload 4, 2) := by decide +kernel
theorem dL_addAtom_9 : decode cL_addAtom 9 = .ok (.iload 5, 2) := by decide +kernel
theorem dL_addAtom_11 : decode cL_addAtom 11 = .ok (.invokevirtual 28, 3) := by decide +kernel
theorem dL_addAtom_14 : decode cL_addAtom 14 = .ok (.i2l, 1) := by decide +kernel
theorem dL_addAtom_15 : decode cL_addAtom 15 = .ok (.lastore, 1) := by decide +kernel
theorem dL_addAtom_16 : decode cL_addAtom 16 = .ok (.goto 15, 3) := by decide +kernel
theorem dL_addAtom_19 : decode cL_addAtom 19 = .ok (.astore 7, 2) := by decide +kernel
theorem dL_addAtom_21 : decode cL_addAtom 21 = .ok (.iconst 1, 1) := by decide +kernel
theorem dL_addAtom_22 : decode cL_addAtom 22 = .ok (.ireturn, 1) := by decide +kernel
theorem dL_addAtom_23 : decode cL_addAtom 23 = .ok (.astore 7, 2) := by decide +kernel
theorem dL_addAtom_25 : decode cL_addAtom 25 = .ok (.iconst 2, 1) := by decide +kernel
theorem dL_addAtom_26 : decode cL_addAtom 26 = .ok (.ireturn, 1) := by decide +kernel
theorem dL_addAtom_27 : decode cL_addAtom 27 = .ok (.astore 7, 2) := by decide +kernel
theorem dL_addAtom_29 : decode cL_addAtom 29 = .ok (.iconst 3, 1) := by decide +kernel
theorem dL_addAtom_30 : decode cL_addAtom 30 = .ok (.ireturn, 1) := by decide +kernel
theorem dL_addAtom_31 : decode cL_addAtom 31 = .ok (.iconst 0, 1) := by decide +kernel
theorem dL_addAtom_32 : decode cL_addAtom 32 = .ok (.ireturn, 1) := by decide +kernel
theorem dL_clearQuery_0 : decode cL_clearQuery 0 = .ok (.aload_n 2, 1) := by decide +kernel
theorem dL_clearQuery_1 : decode cL_clearQuery 1 = .ok (.iconst 0, 1) := by decide +kernel
theorem dL_clearQuery_2 : decode cL_clearQuery 2 = .ok (.aload_n 0, 1) := by decide +kernel
theorem dL_clearQuery_3 : decode cL_clearQuery 3 = .ok (.iload_n 1, 1) := by decide +kernel
theorem dL_clearQuery_4 : decode cL_clearQuery 4 = .ok (.invokevirtual 32, 3) := by decide +kernel
theorem dL_clearQuery_7 : decode cL_clearQuery 7 = .ok (.i2l, 1) := by decide +kernel
theorem dL_clearQuery_8 : decode cL_clearQuery 8 = .ok (.lastore, 1) := by decide +kernel
theorem dL_clearQuery_9 : decode cL_clearQuery 9 = .ok (.goto 6, 3) := by decide +kernel
theorem dL_clearQuery_12 : decode cL_clearQuery 12 = .ok (.astore_n 3, 1) := by decide +kernel
theorem dL_clearQuery_13 : decode cL_clearQuery 13 = .ok (.iconst 1, 1) := by decide +kernel
theorem dL_clearQuery_14 : decode cL_clearQuery 14 = .ok (.ireturn, 1) := by decide +kernel
theorem dL_clearQuery_15 : decode cL_clearQuery 15 = .ok (.iconst 0, 1) := by decide +kernel
theorem dL_clearQuery_16 : decode cL_clearQuery 16 = .ok (.ireturn, 1) := by decide +kernel
theorem dL_setOrder_0 : decode cL_setOrder 0 = .ok (.aload_n 3, 1) := by decide +kernel
theorem dL_setOrder_1 : decode cL_setOrder 1 = .ok (.iconst 0, 1) := by decide +kernel
theorem dL_setOrder_2 : decode cL_setOrder 2 = .ok (.aload_n 0, 1) := by decide +kernel
theorem dL_setOrder_3 : decode cL_setOrder 3 = .ok (.iload_n 1, 1) := by decide +kernel
theorem dL_setOrder_4 : decode cL_setOrder 4 = .ok (.iload_n 2, 1) := by decide +kernel
theorem dL_setOrder_5 : decode cL_setOrder 5 = .ok (.invokevirtual 35, 3) := by decide +kernel
theorem dL_setOrder_8 : decode cL_setOrder 8 = .ok (.i2l, 1) := by decide +kernel
theorem dL_setOrder_9 : decode cL_setOrder 9 = .ok (.lastore, 1) := by decide +kernel
theorem dL_setOrder_10 : decode cL_setOrder 10 = .ok (.goto 11, 3) := by decide +kernel
theorem dL_setOrder_13 : decode cL_setOrder 13 = .ok (.astore 4, 2) := by decide +kernel
theorem dL_setOrder_15 : decode cL_setOrder 15 = .ok (.iconst 1, 1) := by decide +kernel
theorem dL_setOrder_16 : decode cL_setOrder 16 = .ok (.ireturn, 1) := by decide +kernel
theorem dL_setOrder_17 : decode cL_setOrder 17 = .ok (.astore 4, 2) := by decide +kernel
theorem dL_setOrder_19 : decode cL_setOrder 19 = .ok (.iconst 2, 1) := by decide +kernel
theorem dL_setOrder_20 : decode cL_setOrder 20 = .ok (.ireturn, 1) := by decide +kernel
theorem dL_setOrder_21 : decode cL_setOrder 21 = .ok (.iconst 0, 1) := by decide +kernel
theorem dL_setOrder_22 : decode cL_setOrder 22 = .ok (.ireturn, 1) := by decide +kernel
theorem dL_clearIdle_0 : decode cL_clearIdle 0 = .ok (.aload_n 3, 1) := by decide +kernel
theorem dL_clearIdle_1 : decode cL_clearIdle 1 = .ok (.iconst 0, 1) := by decide +kernel
theorem dL_clearIdle_2 : decode cL_clearIdle 2 = .ok (.aload_n 0, 1) := by decide +kernel
theorem dL_clearIdle_3 : decode cL_clearIdle 3 = .ok (.iload_n 1, 1) := by decide +kernel
theorem dL_clearIdle_4 : decode cL_clearIdle 4 = .ok (.iload_n 2, 1) := by decide +kernel
theorem dL_clearIdle_5 : decode cL_clearIdle 5 = .ok (.invokevirtual 39, 3) := by decide +kernel
theorem dL_clearIdle_8 : decode cL_clearIdle 8 = .ok (.i2l, 1) := by decide +kernel
theorem dL_clearIdle_9 : decode cL_clearIdle 9 = .ok (.lastore, 1) := by decide +kernel
theorem dL_clearIdle_10 : decode cL_clearIdle 10 = .ok (.goto 7, 3) := by decide +kernel
theorem dL_clearIdle_13 : decode cL_clearIdle 13 = .ok (.astore 4, 2) := by decide +kernel
theorem dL_clearIdle_15 : decode cL_clearIdle 15 = .ok (.iconst 1, 1) := by decide +kernel
theorem dL_clearIdle_16 : decode cL_clearIdle 16 = .ok (.ireturn, 1) := by decide +kernel
theorem dL_clearIdle_17 : decode cL_clearIdle 17 = .ok (.iconst 0, 1) := by decide +kernel
theorem dL_clearIdle_18 : decode cL_clearIdle 18 = .ok (.ireturn, 1) := by decide +kernel
theorem dL_addRule_0 : decode cL_addRule 0 = .ok (.aload 5, 2) := by decide +kernel
theorem dL_addRule_2 : decode cL_addRule 2 = .ok (.iconst 0, 1) := by decide +kernel
theorem dL_addRule_3 : decode cL_addRule 3 = .ok (.aload_n 0, 1) := by decide +kernel
theorem dL_addRule_4 : decode cL_addRule 4 = .ok (.iload_n 1, 1) := by decide +kernel
theorem dL_addRule_5 : decode cL_addRule 5 = .ok (.iload_n 2, 1) := by decide +kernel
theorem dL_addRule_6 : decode cL_addRule 6 = .ok (.iload_n 3, 1) := by decide +kernel
theorem dL_addRule_7 : decode cL_addRule 7 = .ok (.iload 4, 2) := by decide +kernel
theorem dL_addRule_9 : decode cL_addRule 9 = .ok (.invokevirtual 42, 3) := by decide +kernel
theorem dL_addRule_12 : decode cL_addRule 12 = .ok (.i2l, 1) := by decide +kernel
theorem dL_addRule_13 : decode cL_addRule 13 = .ok (.lastore, 1) := by decide +kernel
theorem dL_addRule_14 : decode cL_addRule 14 = .ok (.goto 15, 3) := by decide +kernel
theorem dL_addRule_17 : decode cL_addRule 17 = .ok (.astore 6, 2) := by decide +kernel
theorem dL_addRule_19 : decode cL_addRule 19 = .ok (.iconst 1, 1) := by decide +kernel
theorem dL_addRule_20 : decode cL_addRule 20 = .ok (.ireturn, 1) := by decide +kernel
theorem dL_addRule_21 : decode cL_addRule 21 = .ok (.astore 6, 2) := by decide +kernel
theorem dL_addRule_23 : decode cL_addRule 23 = .ok (.iconst 2, 1) := by decide +kernel
theorem dL_addRule_24 : decode cL_addRule 24 = .ok (.ireturn, 1) := by decide +kernel
theorem dL_addRule_25 : decode cL_addRule 25 = .ok (.astore 6, 2) := by decide +kernel
theorem dL_addRule_27 : decode cL_addRule 27 = .ok (.iconst 3, 1) := by decide +kernel
theorem dL_addRule_28 : decode cL_addRule 28 = .ok (.ireturn, 1) := by decide +kernel
theorem dL_addRule_29 : decode cL_addRule 29 = .ok (.iconst 0, 1) := by decide +kernel
theorem dL_addRule_30 : decode cL_addRule 30 = .ok (.ireturn, 1) := by decide +kernel
theorem dL_addRuleAtom_0 : decode cL_addRuleAtom 0 = .ok (.aload 7, 2) := by decide +kernel
theorem dL_addRuleAtom_2 : decode cL_addRuleAtom 2 = .ok (.iconst 0, 1) := by decide +kernel
theorem dL_addRuleAtom_3 : decode cL_addRuleAtom 3 = .ok (.aload_n 0, 1) := by decide +kernel
theorem dL_addRuleAtom_4 : decode cL_addRuleAtom 4 = .ok (.iload_n 1, 1) := by decide +kernel
theorem dL_addRuleAtom_5 : decode cL_addRuleAtom 5 = .ok (.iload_n 2, 1) := by decide +kernel
theorem dL_addRuleAtom_6 : decode cL_addRuleAtom 6 = .ok (.iload_n 3, 1) := by decide +kernel
theorem dL_addRuleAtom_7 : decode cL_addRuleAtom 7 = .ok (.iload 4, 2) := by decide +kernel
theorem dL_addRuleAtom_9 : decode cL_addRuleAtom 9 = .ok (.iload 5, 2) := by decide +kernel
theorem dL_addRuleAtom_11 : decode cL_addRuleAtom 11 = .ok (.iload 6, 2) := by decide +kernel
theorem dL_addRuleAtom_13 : decode cL_addRuleAtom 13 = .ok (.invokevirtual 45, 3) := by decide +kernel
theorem dL_addRuleAtom_16 : decode cL_addRuleAtom 16 = .ok (.i2l, 1) := by decide +kernel
theorem dL_addRuleAtom_17 : decode cL_addRuleAtom 17 = .ok (.lastore, 1) := by decide +kernel
theorem dL_addRuleAtom_18 : decode cL_addRuleAtom 18 = .ok (.goto 15, 3) := by decide +kernel
theorem dL_addRuleAtom_21 : decode cL_addRuleAtom 21 = .ok (.astore 8, 2) := by decide +kernel
theorem dL_addRuleAtom_23 : decode cL_addRuleAtom 23 = .ok (.iconst 1, 1) := by decide +kernel
theorem dL_addRuleAtom_24 : decode cL_addRuleAtom 24 = .ok (.ireturn, 1) := by decide +kernel
theorem dL_addRuleAtom_25 : decode cL_addRuleAtom 25 = .ok (.astore 8, 2) := by decide +kernel
theorem dL_addRuleAtom_27 : decode cL_addRuleAtom 27 = .ok (.iconst 2, 1) := by decide +kernel
theorem dL_addRuleAtom_28 : decode cL_addRuleAtom 28 = .ok (.ireturn, 1) := by decide +kernel
theorem dL_addRuleAtom_29 : decode cL_addRuleAtom 29 = .ok (.astore 8, 2) := by decide +kernel
theorem dL_addRuleAtom_31 : decode cL_addRuleAtom 31 = .ok (.iconst 3, 1) := by decide +kernel
theorem dL_addRuleAtom_32 : decode cL_addRuleAtom 32 = .ok (.ireturn, 1) := by decide +kernel
theorem dL_addRuleAtom_33 : decode cL_addRuleAtom 33 = .ok (.iconst 0, 1) := by decide +kernel
theorem dL_addRuleAtom_34 : decode cL_addRuleAtom 34 = .ok (.ireturn, 1) := by decide +kernel
theorem dL_dropRule_0 : decode cL_dropRule 0 = .ok (.aload_n 2, 1) := by decide +kernel
theorem dL_dropRule_1 : decode cL_dropRule 1 = .ok (.iconst 0, 1) := by decide +kernel
theorem dL_dropRule_2 : decode cL_dropRule 2 = .ok (.aload_n 0, 1) := by decide +kernel
theorem dL_dropRule_3 : decode cL_dropRule 3 = .ok (.iload_n 1, 1) := by decide +kernel
theorem dL_dropRule_4 : decode cL_dropRule 4 = .ok (.invokevirtual 49, 3) := by decide +kernel
theorem dL_dropRule_7 : decode cL_dropRule 7 = .ok (.i2l, 1) := by decide +kernel
theorem dL_dropRule_8 : decode cL_dropRule 8 = .ok (.lastore, 1) := by decide +kernel
theorem dL_dropRule_9 : decode cL_dropRule 9 = .ok (.goto 6, 3) := by decide +kernel
theorem dL_dropRule_12 : decode cL_dropRule 12 = .ok (.astore_n 3, 1) := by decide +kernel
theorem dL_dropRule_13 : decode cL_dropRule 13 = .ok (.iconst 1, 1) := by decide +kernel
theorem dL_dropRule_14 : decode cL_dropRule 14 = .ok (.ireturn, 1) := by decide +kernel
theorem dL_dropRule_15 : decode cL_dropRule 15 = .ok (.iconst 0, 1) := by decide +kernel
theorem dL_dropRule_16 : decode cL_dropRule 16 = .ok (.ireturn, 1) := by decide +kernel
theorem dL_columns_0 : decode cL_columns 0 = .ok (.aload_n 2, 1) := by decide +kernel
theorem dL_columns_1 : decode cL_columns 1 = .ok (.iconst 0, 1) := by decide +kernel
theorem dL_columns_2 : decode cL_columns 2 = .ok (.aload_n 0, 1) := by decide +kernel
theorem dL_columns_3 : decode cL_columns 3 = .ok (.iload_n 1, 1) := by decide +kernel
theorem dL_columns_4 : decode cL_columns 4 = .ok (.invokevirtual 52, 3) := by decide +kernel
theorem dL_columns_7 : decode cL_columns 7 = .ok (.i2l, 1) := by decide +kernel
theorem dL_columns_8 : decode cL_columns 8 = .ok (.lastore, 1) := by decide +kernel
theorem dL_columns_9 : decode cL_columns 9 = .ok (.goto 6, 3) := by decide +kernel
theorem dL_columns_12 : decode cL_columns 12 = .ok (.astore_n 3, 1) := by decide +kernel
theorem dL_columns_13 : decode cL_columns 13 = .ok (.iconst 1, 1) := by decide +kernel
theorem dL_columns_14 : decode cL_columns 14 = .ok (.ireturn, 1) := by decide +kernel
theorem dL_columns_15 : decode cL_columns 15 = .ok (.iconst 0, 1) := by decide +kernel
theorem dL_columns_16 : decode cL_columns 16 = .ok (.ireturn, 1) := by decide +kernel
theorem dL_factCount_0 : decode cL_factCount 0 = .ok (.aload_n 2, 1) := by decide +kernel
theorem dL_factCount_1 : decode cL_factCount 1 = .ok (.iconst 0, 1) := by decide +kernel
theorem dL_factCount_2 : decode cL_factCount 2 = .ok (.aload_n 0, 1) := by decide +kernel
theorem dL_factCount_3 : decode cL_factCount 3 = .ok (.iload_n 1, 1) := by decide +kernel
theorem dL_factCount_4 : decode cL_factCount 4 = .ok (.invokevirtual 55, 3) := by decide +kernel
theorem dL_factCount_7 : decode cL_factCount 7 = .ok (.i2l, 1) := by decide +kernel
theorem dL_factCount_8 : decode cL_factCount 8 = .ok (.lastore, 1) := by decide +kernel
theorem dL_factCount_9 : decode cL_factCount 9 = .ok (.goto 6, 3) := by decide +kernel
theorem dL_factCount_12 : decode cL_factCount 12 = .ok (.astore_n 3, 1) := by decide +kernel
theorem dL_factCount_13 : decode cL_factCount 13 = .ok (.iconst 1, 1) := by decide +kernel
theorem dL_factCount_14 : decode cL_factCount 14 = .ok (.ireturn, 1) := by decide +kernel
theorem dL_factCount_15 : decode cL_factCount 15 = .ok (.iconst 0, 1) := by decide +kernel
theorem dL_factCount_16 : decode cL_factCount 16 = .ok (.ireturn, 1) := by decide +kernel
theorem dL_rowCount_0 : decode cL_rowCount 0 = .ok (.aload_n 2, 1) := by decide +kernel
theorem dL_rowCount_1 : decode cL_rowCount 1 = .ok (.iconst 0, 1) := by decide +kernel
theorem dL_rowCount_2 : decode cL_rowCount 2 = .ok (.aload_n 0, 1) := by decide +kernel
theorem dL_rowCount_3 : decode cL_rowCount 3 = .ok (.iload_n 1, 1) := by decide +kernel
theorem dL_rowCount_4 : decode cL_rowCount 4 = .ok (.invokevirtual 58, 3) := by decide +kernel
theorem dL_rowCount_7 : decode cL_rowCount 7 = .ok (.i2l, 1) := by decide +kernel
theorem dL_rowCount_8 : decode cL_rowCount 8 = .ok (.lastore, 1) := by decide +kernel
theorem dL_rowCount_9 : decode cL_rowCount 9 = .ok (.goto 6, 3) := by decide +kernel
theorem dL_rowCount_12 : decode cL_rowCount 12 = .ok (.astore_n 3, 1) := by decide +kernel
theorem dL_rowCount_13 : decode cL_rowCount 13 = .ok (.iconst 1, 1) := by decide +kernel
theorem dL_rowCount_14 : decode cL_rowCount 14 = .ok (.ireturn, 1) := by decide +kernel
theorem dL_rowCount_15 : decode cL_rowCount 15 = .ok (.iconst 0, 1) := by decide +kernel
theorem dL_rowCount_16 : decode cL_rowCount 16 = .ok (.ireturn, 1) := by decide +kernel
theorem dL_isFact_0 : decode cL_isFact 0 = .ok (.aload 5, 2) := by decide +kernel
theorem dL_isFact_2 : decode cL_isFact 2 = .ok (.iconst 0, 1) := by decide +kernel
theorem dL_isFact_3 : decode cL_isFact 3 = .ok (.aload_n 0, 1) := by decide +kernel
theorem dL_isFact_4 : decode cL_isFact 4 = .ok (.iload_n 1, 1) := by decide +kernel
theorem dL_isFact_5 : decode cL_isFact 5 = .ok (.iload_n 2, 1) := by decide +kernel
theorem dL_isFact_6 : decode cL_isFact 6 = .ok (.iload_n 3, 1) := by decide +kernel
theorem dL_isFact_7 : decode cL_isFact 7 = .ok (.iload 4, 2) := by decide +kernel
theorem dL_isFact_9 : decode cL_isFact 9 = .ok (.invokevirtual 61, 3) := by decide +kernel
theorem dL_isFact_12 : decode cL_isFact 12 = .ok (.ifCond .eq 7, 3) := by decide +kernel
theorem dL_isFact_15 : decode cL_isFact 15 = .ok (.lconst 1, 1) := by decide +kernel
theorem dL_isFact_16 : decode cL_isFact 16 = .ok (.goto 4, 3) := by decide +kernel
theorem dL_isFact_19 : decode cL_isFact 19 = .ok (.lconst 0, 1) := by decide +kernel
theorem dL_isFact_20 : decode cL_isFact 20 = .ok (.lastore, 1) := by decide +kernel
theorem dL_isFact_21 : decode cL_isFact 21 = .ok (.goto 11, 3) := by decide +kernel
theorem dL_isFact_24 : decode cL_isFact 24 = .ok (.astore 6, 2) := by decide +kernel
theorem dL_isFact_26 : decode cL_isFact 26 = .ok (.iconst 1, 1) := by decide +kernel
theorem dL_isFact_27 : decode cL_isFact 27 = .ok (.ireturn, 1) := by decide +kernel
theorem dL_isFact_28 : decode cL_isFact 28 = .ok (.astore 6, 2) := by decide +kernel
theorem dL_isFact_30 : decode cL_isFact 30 = .ok (.iconst 2, 1) := by decide +kernel
theorem dL_isFact_31 : decode cL_isFact 31 = .ok (.ireturn, 1) := by decide +kernel
theorem dL_isFact_32 : decode cL_isFact 32 = .ok (.iconst 0, 1) := by decide +kernel
theorem dL_isFact_33 : decode cL_isFact 33 = .ok (.ireturn, 1) := by decide +kernel
theorem dL_reasons_0 : decode cL_reasons 0 = .ok (.aload 5, 2) := by decide +kernel
theorem dL_reasons_2 : decode cL_reasons 2 = .ok (.iconst 0, 1) := by decide +kernel
theorem dL_reasons_3 : decode cL_reasons 3 = .ok (.aload_n 0, 1) := by decide +kernel
theorem dL_reasons_4 : decode cL_reasons 4 = .ok (.iload_n 1, 1) := by decide +kernel
theorem dL_reasons_5 : decode cL_reasons 5 = .ok (.iload_n 2, 1) := by decide +kernel
theorem dL_reasons_6 : decode cL_reasons 6 = .ok (.iload_n 3, 1) := by decide +kernel
theorem dL_reasons_7 : decode cL_reasons 7 = .ok (.iload 4, 2) := by decide +kernel
theorem dL_reasons_9 : decode cL_reasons 9 = .ok (.invokevirtual 65, 3) := by decide +kernel
theorem dL_reasons_12 : decode cL_reasons 12 = .ok (.i2l, 1) := by decide +kernel
theorem dL_reasons_13 : decode cL_reasons 13 = .ok (.lastore, 1) := by decide +kernel
theorem dL_reasons_14 : decode cL_reasons 14 = .ok (.goto 11, 3) := by decide +kernel
theorem dL_reasons_17 : decode cL_reasons 17 = .ok (.astore 6, 2) := by decide +kernel
theorem dL_reasons_19 : decode cL_reasons 19 = .ok (.iconst 1, 1) := by decide +kernel
theorem dL_reasons_20 : decode cL_reasons 20 = .ok (.ireturn, 1) := by decide +kernel
theorem dL_reasons_21 : decode cL_reasons 21 = .ok (.astore 6, 2) := by decide +kernel
theorem dL_reasons_23 : decode cL_reasons 23 = .ok (.iconst 2, 1) := by decide +kernel
theorem dL_reasons_24 : decode cL_reasons 24 = .ok (.ireturn, 1) := by decide +kernel
theorem dL_reasons_25 : decode cL_reasons 25 = .ok (.iconst 0, 1) := by decide +kernel
theorem dL_reasons_26 : decode cL_reasons 26 = .ok (.ireturn, 1) := by decide +kernel
theorem dL_rowAt_0 : decode cL_rowAt 0 = .ok (.aload 4, 2) := by decide +kernel
theorem dL_rowAt_2 : decode cL_rowAt 2 = .ok (.iconst 0, 1) := by decide +kernel
theorem dL_rowAt_3 : decode cL_rowAt 3 = .ok (.aload_n 0, 1) := by decide +kernel
theorem dL_rowAt_4 : decode cL_rowAt 4 = .ok (.iload_n 1, 1) := by decide +kernel
theorem dL_rowAt_5 : decode cL_rowAt 5 = .ok (.iload_n 2, 1) := by decide +kernel
theorem dL_rowAt_6 : decode cL_rowAt 6 = .ok (.iload_n 3, 1) := by decide +kernel
theorem dL_rowAt_7 : decode cL_rowAt 7 = .ok (.invokevirtual 68, 3) := by decide +kernel
theorem dL_rowAt_10 : decode cL_rowAt 10 = .ok (.i2l, 1) := by decide +kernel
theorem dL_rowAt_11 : decode cL_rowAt 11 = .ok (.lastore, 1) := by decide +kernel
theorem dL_rowAt_12 : decode cL_rowAt 12 = .ok (.goto 7, 3) := by decide +kernel
theorem dL_rowAt_15 : decode cL_rowAt 15 = .ok (.astore 5, 2) := by decide +kernel
theorem dL_rowAt_17 : decode cL_rowAt 17 = .ok (.iconst 1, 1) := by decide +kernel
theorem dL_rowAt_18 : decode cL_rowAt 18 = .ok (.ireturn, 1) := by decide +kernel
theorem dL_rowAt_19 : decode cL_rowAt 19 = .ok (.iconst 0, 1) := by decide +kernel
theorem dL_rowAt_20 : decode cL_rowAt 20 = .ok (.ireturn, 1) := by decide +kernel
theorem dL_firstFrom_0 : decode cL_firstFrom 0 = .ok (.aload 5, 2) := by decide +kernel
theorem dL_firstFrom_2 : decode cL_firstFrom 2 = .ok (.iconst 0, 1) := by decide +kernel
theorem dL_firstFrom_3 : decode cL_firstFrom 3 = .ok (.aload_n 0, 1) := by decide +kernel
theorem dL_firstFrom_4 : decode cL_firstFrom 4 = .ok (.iload_n 1, 1) := by decide +kernel
theorem dL_firstFrom_5 : decode cL_firstFrom 5 = .ok (.iload_n 2, 1) := by decide +kernel
theorem dL_firstFrom_6 : decode cL_firstFrom 6 = .ok (.iload_n 3, 1) := by decide +kernel
theorem dL_firstFrom_7 : decode cL_firstFrom 7 = .ok (.iload 4, 2) := by decide +kernel
theorem dL_firstFrom_9 : decode cL_firstFrom 9 = .ok (.invokevirtual 72, 3) := by decide +kernel
theorem dL_firstFrom_12 : decode cL_firstFrom 12 = .ok (.i2l, 1) := by decide +kernel
theorem dL_firstFrom_13 : decode cL_firstFrom 13 = .ok (.lastore, 1) := by decide +kernel
theorem dL_firstFrom_14 : decode cL_firstFrom 14 = .ok (.goto 15, 3) := by decide +kernel
theorem dL_firstFrom_17 : decode cL_firstFrom 17 = .ok (.astore 6, 2) := by decide +kernel
theorem dL_firstFrom_19 : decode cL_firstFrom 19 = .ok (.iconst 1, 1) := by decide +kernel
theorem dL_firstFrom_20 : decode cL_firstFrom 20 = .ok (.ireturn, 1) := by decide +kernel
theorem dL_firstFrom_21 : decode cL_firstFrom 21 = .ok (.astore 6, 2) := by decide +kernel
theorem dL_firstFrom_23 : decode cL_firstFrom 23 = .ok (.iconst 2, 1) := by decide +kernel
theorem dL_firstFrom_24 : decode cL_firstFrom 24 = .ok (.ireturn, 1) := by decide +kernel
theorem dL_firstFrom_25 : decode cL_firstFrom 25 = .ok (.astore 6, 2) := by decide +kernel
theorem dL_firstFrom_27 : decode cL_firstFrom 27 = .ok (.iconst 3, 1) := by decide +kernel
theorem dL_firstFrom_28 : decode cL_firstFrom 28 = .ok (.ireturn, 1) := by decide +kernel
theorem dL_firstFrom_29 : decode cL_firstFrom 29 = .ok (.iconst 0, 1) := by decide +kernel
theorem dL_firstFrom_30 : decode cL_firstFrom 30 = .ok (.ireturn, 1) := by decide +kernel
theorem dL_values_0 : decode cL_values 0 = .ok (.aload_n 3, 1) := by decide +kernel
theorem dL_values_1 : decode cL_values 1 = .ok (.iconst 0, 1) := by decide +kernel
theorem dL_values_2 : decode cL_values 2 = .ok (.aload_n 0, 1) := by decide +kernel
theorem dL_values_3 : decode cL_values 3 = .ok (.iload_n 1, 1) := by decide +kernel
theorem dL_values_4 : decode cL_values 4 = .ok (.iload_n 2, 1) := by decide +kernel
theorem dL_values_5 : decode cL_values 5 = .ok (.invokevirtual 75, 3) := by decide +kernel
theorem dL_values_8 : decode cL_values 8 = .ok (.i2l, 1) := by decide +kernel
theorem dL_values_9 : decode cL_values 9 = .ok (.lastore, 1) := by decide +kernel
theorem dL_values_10 : decode cL_values 10 = .ok (.goto 7, 3) := by decide +kernel
theorem dL_values_13 : decode cL_values 13 = .ok (.astore 4, 2) := by decide +kernel
theorem dL_values_15 : decode cL_values 15 = .ok (.iconst 1, 1) := by decide +kernel
theorem dL_values_16 : decode cL_values 16 = .ok (.ireturn, 1) := by decide +kernel
theorem dL_values_17 : decode cL_values 17 = .ok (.iconst 0, 1) := by decide +kernel
theorem dL_values_18 : decode cL_values 18 = .ok (.ireturn, 1) := by decide +kernel
theorem dL_lower_0 : decode cL_lower 0 = .ok (.aload_n 3, 1) := by decide +kernel
theorem dL_lower_1 : decode cL_lower 1 = .ok (.iconst 0, 1) := by decide +kernel
theorem dL_lower_2 : decode cL_lower 2 = .ok (.aload_n 0, 1) := by decide +kernel
theorem dL_lower_3 : decode cL_lower 3 = .ok (.iload_n 1, 1) := by decide +kernel
theorem dL_lower_4 : decode cL_lower 4 = .ok (.iload_n 2, 1) := by decide +kernel
theorem dL_lower_5 : decode cL_lower 5 = .ok (.invokevirtual 78, 3) := by decide +kernel
theorem dL_lower_8 : decode cL_lower 8 = .ok (.i2l, 1) := by decide +kernel
theorem dL_lower_9 : decode cL_lower 9 = .ok (.lastore, 1) := by decide +kernel
theorem dL_lower_10 : decode cL_lower 10 = .ok (.goto 15, 3) := by decide +kernel
theorem dL_lower_13 : decode cL_lower 13 = .ok (.astore 4, 2) := by decide +kernel
theorem dL_lower_15 : decode cL_lower 15 = .ok (.iconst 1, 1) := by decide +kernel
theorem dL_lower_16 : decode cL_lower 16 = .ok (.ireturn, 1) := by decide +kernel
theorem dL_lower_17 : decode cL_lower 17 = .ok (.astore 4, 2) := by decide +kernel
theorem dL_lower_19 : decode cL_lower 19 = .ok (.iconst 2, 1) := by decide +kernel
theorem dL_lower_20 : decode cL_lower 20 = .ok (.ireturn, 1) := by decide +kernel
theorem dL_lower_21 : decode cL_lower 21 = .ok (.astore 4, 2) := by decide +kernel
theorem dL_lower_23 : decode cL_lower 23 = .ok (.iconst 3, 1) := by decide +kernel
theorem dL_lower_24 : decode cL_lower 24 = .ok (.ireturn, 1) := by decide +kernel
theorem dL_lower_25 : decode cL_lower 25 = .ok (.iconst 0, 1) := by decide +kernel
theorem dL_lower_26 : decode cL_lower 26 = .ok (.ireturn, 1) := by decide +kernel
theorem dL_atomCount_0 : decode cL_atomCount 0 = .ok (.aload_n 2, 1) := by decide +kernel
theorem dL_atomCount_1 : decode cL_atomCount 1 = .ok (.iconst 0, 1) := by decide +kernel
theorem dL_atomCount_2 : decode cL_atomCount 2 = .ok (.aload_n 0, 1) := by decide +kernel
theorem dL_atomCount_3 : decode cL_atomCount 3 = .ok (.iload_n 1, 1) := by decide +kernel
theorem dL_atomCount_4 : decode cL_atomCount 4 = .ok (.invokevirtual 81, 3) := by decide +kernel
theorem dL_atomCount_7 : decode cL_atomCount 7 = .ok (.i2l, 1) := by decide +kernel
theorem dL_atomCount_8 : decode cL_atomCount 8 = .ok (.lastore, 1) := by decide +kernel
theorem dL_atomCount_9 : decode cL_atomCount 9 = .ok (.goto 6, 3) := by decide +kernel
theorem dL_atomCount_12 : decode cL_atomCount 12 = .ok (.astore_n 3, 1) := by decide +kernel
theorem dL_atomCount_13 : decode cL_atomCount 13 = .ok (.iconst 1, 1) := by decide +kernel
theorem dL_atomCount_14 : decode cL_atomCount 14 = .ok (.ireturn, 1) := by decide +kernel
theorem dL_atomCount_15 : decode cL_atomCount 15 = .ok (.iconst 0, 1) := by decide +kernel
theorem dL_atomCount_16 : decode cL_atomCount 16 = .ok (.ireturn, 1) := by decide +kernel
theorem dL_answers_0 : decode cL_answers 0 = .ok (.aload_n 2, 1) := by decide +kernel
theorem dL_answers_1 : decode cL_answers 1 = .ok (.iconst 0, 1) := by decide +kernel
theorem dL_answers_2 : decode cL_answers 2 = .ok (.aload_n 0, 1) := by decide +kernel
theorem dL_answers_3 : decode cL_answers 3 = .ok (.iload_n 1, 1) := by decide +kernel
theorem dL_answers_4 : decode cL_answers 4 = .ok (.invokevirtual 84, 3) := by decide +kernel
theorem dL_answers_7 : decode cL_answers 7 = .ok (.i2l, 1) := by decide +kernel
theorem dL_answers_8 : decode cL_answers 8 = .ok (.lastore, 1) := by decide +kernel
theorem dL_answers_9 : decode cL_answers 9 = .ok (.goto 6, 3) := by decide +kernel
theorem dL_answers_12 : decode cL_answers 12 = .ok (.astore_n 3, 1) := by decide +kernel
theorem dL_answers_13 : decode cL_answers 13 = .ok (.iconst 1, 1) := by decide +kernel
theorem dL_answers_14 : decode cL_answers 14 = .ok (.ireturn, 1) := by decide +kernel
theorem dL_answers_15 : decode cL_answers 15 = .ok (.iconst 0, 1) := by decide +kernel
theorem dL_answers_16 : decode cL_answers 16 = .ok (.ireturn, 1) := by decide +kernel
theorem dL_answerAt_0 : decode cL_answerAt 0 = .ok (.aload 4, 2) := by decide +kernel
theorem dL_answerAt_2 : decode cL_answerAt 2 = .ok (.iconst 0, 1) := by decide +kernel
theorem dL_answerAt_3 : decode cL_answerAt 3 = .ok (.aload_n 0, 1) := by decide +kernel
theorem dL_answerAt_4 : decode cL_answerAt 4 = .ok (.iload_n 1, 1) := by decide +kernel
theorem dL_answerAt_5 : decode cL_answerAt 5 = .ok (.iload_n 2, 1) := by decide +kernel
theorem dL_answerAt_6 : decode cL_answerAt 6 = .ok (.iload_n 3, 1) := by decide +kernel
theorem dL_answerAt_7 : decode cL_answerAt 7 = .ok (.invokevirtual 87, 3) := by decide +kernel
theorem dL_answerAt_10 : decode cL_answerAt 10 = .ok (.i2l, 1) := by decide +kernel
theorem dL_answerAt_11 : decode cL_answerAt 11 = .ok (.lastore, 1) := by decide +kernel
theorem dL_answerAt_12 : decode cL_answerAt 12 = .ok (.goto 7, 3) := by decide +kernel
theorem dL_answerAt_15 : decode cL_answerAt 15 = .ok (.astore 5, 2) := by decide +kernel
theorem dL_answerAt_17 : decode cL_answerAt 17 = .ok (.iconst 1, 1) := by decide +kernel
theorem dL_answerAt_18 : decode cL_answerAt 18 = .ok (.ireturn, 1) := by decide +kernel
theorem dL_answerAt_19 : decode cL_answerAt 19 = .ok (.iconst 0, 1) := by decide +kernel
theorem dL_answerAt_20 : decode cL_answerAt 20 = .ok (.ireturn, 1) := by decide +kernel
theorem dL_seek_0 : decode cL_seek 0 = .ok (.aload 6, 2) := by decide +kernel
theorem dL_seek_2 : decode cL_seek 2 = .ok (.iconst 0, 1) := by decide +kernel
theorem dL_seek_3 : decode cL_seek 3 = .ok (.aload_n 0, 1) := by decide +kernel
theorem dL_seek_4 : decode cL_seek 4 = .ok (.iload_n 1, 1) := by decide +kernel
theorem dL_seek_5 : decode cL_seek 5 = .ok (.iload_n 2, 1) := by decide +kernel
theorem dL_seek_6 : decode cL_seek 6 = .ok (.iload_n 3, 1) := by decide +kernel
theorem dL_seek_7 : decode cL_seek 7 = .ok (.iload 4, 2) := by decide +kernel
theorem dL_seek_9 : decode cL_seek 9 = .ok (.iload 5, 2) := by decide +kernel
theorem dL_seek_11 : decode cL_seek 11 = .ok (.invokevirtual 90, 3) := by decide +kernel
theorem dL_seek_14 : decode cL_seek 14 = .ok (.i2l, 1) := by decide +kernel
theorem dL_seek_15 : decode cL_seek 15 = .ok (.lastore, 1) := by decide +kernel
theorem dL_seek_16 : decode cL_seek 16 = .ok (.goto 15, 3) := by decide +kernel
theorem dL_seek_19 : decode cL_seek 19 = .ok (.astore 7, 2) := by decide +kernel
theorem dL_seek_21 : decode cL_seek 21 = .ok (.iconst 1, 1) := by decide +kernel
theorem dL_seek_22 : decode cL_seek 22 = .ok (.ireturn, 1) := by decide +kernel
theorem dL_seek_23 : decode cL_seek 23 = .ok (.astore 7, 2) := by decide +kernel
theorem dL_seek_25 : decode cL_seek 25 = .ok (.iconst 2, 1) := by decide +kernel
theorem dL_seek_26 : decode cL_seek 26 = .ok (.ireturn, 1) := by decide +kernel
theorem dL_seek_27 : decode cL_seek 27 = .ok (.astore 7, 2) := by decide +kernel
theorem dL_seek_29 : decode cL_seek 29 = .ok (.iconst 3, 1) := by decide +kernel
theorem dL_seek_30 : decode cL_seek 30 = .ok (.ireturn, 1) := by decide +kernel
theorem dL_seek_31 : decode cL_seek 31 = .ok (.iconst 0, 1) := by decide +kernel
theorem dL_seek_32 : decode cL_seek 32 = .ok (.ireturn, 1) := by decide +kernel
theorem dL_leaps_0 : decode cL_leaps 0 = .ok (.aload_n 2, 1) := by decide +kernel
theorem dL_leaps_1 : decode cL_leaps 1 = .ok (.iconst 0, 1) := by decide +kernel
theorem dL_leaps_2 : decode cL_leaps 2 = .ok (.aload_n 0, 1) := by decide +kernel
theorem dL_leaps_3 : decode cL_leaps 3 = .ok (.iload_n 1, 1) := by decide +kernel
theorem dL_leaps_4 : decode cL_leaps 4 = .ok (.invokevirtual 93, 3) := by decide +kernel
theorem dL_leaps_7 : decode cL_leaps 7 = .ok (.i2l, 1) := by decide +kernel
theorem dL_leaps_8 : decode cL_leaps 8 = .ok (.lastore, 1) := by decide +kernel
theorem dL_leaps_9 : decode cL_leaps 9 = .ok (.goto 6, 3) := by decide +kernel
theorem dL_leaps_12 : decode cL_leaps 12 = .ok (.astore_n 3, 1) := by decide +kernel
theorem dL_leaps_13 : decode cL_leaps 13 = .ok (.iconst 1, 1) := by decide +kernel
theorem dL_leaps_14 : decode cL_leaps 14 = .ok (.ireturn, 1) := by decide +kernel
theorem dL_leaps_15 : decode cL_leaps 15 = .ok (.iconst 0, 1) := by decide +kernel
theorem dL_leaps_16 : decode cL_leaps 16 = .ok (.ireturn, 1) := by decide +kernel
theorem dL_groups_0 : decode cL_groups 0 = .ok (.aload_n 3, 1) := by decide +kernel
theorem dL_groups_1 : decode cL_groups 1 = .ok (.iconst 0, 1) := by decide +kernel
theorem dL_groups_2 : decode cL_groups 2 = .ok (.aload_n 0, 1) := by decide +kernel
theorem dL_groups_3 : decode cL_groups 3 = .ok (.iload_n 1, 1) := by decide +kernel
theorem dL_groups_4 : decode cL_groups 4 = .ok (.iload_n 2, 1) := by decide +kernel
theorem dL_groups_5 : decode cL_groups 5 = .ok (.invokevirtual 96, 3) := by decide +kernel
theorem dL_groups_8 : decode cL_groups 8 = .ok (.i2l, 1) := by decide +kernel
theorem dL_groups_9 : decode cL_groups 9 = .ok (.lastore, 1) := by decide +kernel
theorem dL_groups_10 : decode cL_groups 10 = .ok (.goto 7, 3) := by decide +kernel
theorem dL_groups_13 : decode cL_groups 13 = .ok (.astore 4, 2) := by decide +kernel
theorem dL_groups_15 : decode cL_groups 15 = .ok (.iconst 1, 1) := by decide +kernel
theorem dL_groups_16 : decode cL_groups 16 = .ok (.ireturn, 1) := by decide +kernel
theorem dL_groups_17 : decode cL_groups 17 = .ok (.iconst 0, 1) := by decide +kernel
theorem dL_groups_18 : decode cL_groups 18 = .ok (.ireturn, 1) := by decide +kernel
theorem dL_groupSize_0 : decode cL_groupSize 0 = .ok (.aload 4, 2) := by decide +kernel
theorem dL_groupSize_2 : decode cL_groupSize 2 = .ok (.iconst 0, 1) := by decide +kernel
theorem dL_groupSize_3 : decode cL_groupSize 3 = .ok (.aload_n 0, 1) := by decide +kernel
theorem dL_groupSize_4 : decode cL_groupSize 4 = .ok (.iload_n 1, 1) := by decide +kernel
theorem dL_groupSize_5 : decode cL_groupSize 5 = .ok (.iload_n 2, 1) := by decide +kernel
theorem dL_groupSize_6 : decode cL_groupSize 6 = .ok (.iload_n 3, 1) := by decide +kernel
theorem dL_groupSize_7 : decode cL_groupSize 7 = .ok (.invokevirtual 99, 3) := by decide +kernel
theorem dL_groupSize_10 : decode cL_groupSize 10 = .ok (.i2l, 1) := by decide +kernel
theorem dL_groupSize_11 : decode cL_groupSize 11 = .ok (.lastore, 1) := by decide +kernel
theorem dL_groupSize_12 : decode cL_groupSize 12 = .ok (.goto 11, 3) := by decide +kernel
theorem dL_groupSize_15 : decode cL_groupSize 15 = .ok (.astore 5, 2) := by decide +kernel
theorem dL_groupSize_17 : decode cL_groupSize 17 = .ok (.iconst 1, 1) := by decide +kernel
theorem dL_groupSize_18 : decode cL_groupSize 18 = .ok (.ireturn, 1) := by decide +kernel
theorem dL_groupSize_19 : decode cL_groupSize 19 = .ok (.astore 5, 2) := by decide +kernel
theorem dL_groupSize_21 : decode cL_groupSize 21 = .ok (.iconst 2, 1) := by decide +kernel
theorem dL_groupSize_22 : decode cL_groupSize 22 = .ok (.ireturn, 1) := by decide +kernel
theorem dL_groupSize_23 : decode cL_groupSize 23 = .ok (.iconst 0, 1) := by decide +kernel
theorem dL_groupSize_24 : decode cL_groupSize 24 = .ok (.ireturn, 1) := by decide +kernel
theorem dL_idleRows_0 : decode cL_idleRows 0 = .ok (.aload_n 3, 1) := by decide +kernel
theorem dL_idleRows_1 : decode cL_idleRows 1 = .ok (.iconst 0, 1) := by decide +kernel
theorem dL_idleRows_2 : decode cL_idleRows 2 = .ok (.aload_n 0, 1) := by decide +kernel
theorem dL_idleRows_3 : decode cL_idleRows 3 = .ok (.iload_n 1, 1) := by decide +kernel
theorem dL_idleRows_4 : decode cL_idleRows 4 = .ok (.iload_n 2, 1) := by decide +kernel
theorem dL_idleRows_5 : decode cL_idleRows 5 = .ok (.invokevirtual 102, 3) := by decide +kernel
theorem dL_idleRows_8 : decode cL_idleRows 8 = .ok (.i2l, 1) := by decide +kernel
theorem dL_idleRows_9 : decode cL_idleRows 9 = .ok (.lastore, 1) := by decide +kernel
theorem dL_idleRows_10 : decode cL_idleRows 10 = .ok (.goto 7, 3) := by decide +kernel
theorem dL_idleRows_13 : decode cL_idleRows 13 = .ok (.astore 4, 2) := by decide +kernel
theorem dL_idleRows_15 : decode cL_idleRows 15 = .ok (.iconst 1, 1) := by decide +kernel
theorem dL_idleRows_16 : decode cL_idleRows 16 = .ok (.ireturn, 1) := by decide +kernel
theorem dL_idleRows_17 : decode cL_idleRows 17 = .ok (.iconst 0, 1) := by decide +kernel
theorem dL_idleRows_18 : decode cL_idleRows 18 = .ok (.ireturn, 1) := by decide +kernel
theorem dL_isTree_0 : decode cL_isTree 0 = .ok (.aload_n 2, 1) := by decide +kernel
theorem dL_isTree_1 : decode cL_isTree 1 = .ok (.iconst 0, 1) := by decide +kernel
theorem dL_isTree_2 : decode cL_isTree 2 = .ok (.aload_n 0, 1) := by decide +kernel
theorem dL_isTree_3 : decode cL_isTree 3 = .ok (.iload_n 1, 1) := by decide +kernel
theorem dL_isTree_4 : decode cL_isTree 4 = .ok (.invokevirtual 105, 3) := by decide +kernel
theorem dL_isTree_7 : decode cL_isTree 7 = .ok (.ifCond .eq 7, 3) := by decide +kernel
theorem dL_isTree_10 : decode cL_isTree 10 = .ok (.lconst 1, 1) := by decide +kernel
theorem dL_isTree_11 : decode cL_isTree 11 = .ok (.goto 4, 3) := by decide +kernel
theorem dL_isTree_14 : decode cL_isTree 14 = .ok (.lconst 0, 1) := by decide +kernel
theorem dL_isTree_15 : decode cL_isTree 15 = .ok (.lastore, 1) := by decide +kernel
theorem dL_isTree_16 : decode cL_isTree 16 = .ok (.goto 6, 3) := by decide +kernel
theorem dL_isTree_19 : decode cL_isTree 19 = .ok (.astore_n 3, 1) := by decide +kernel
theorem dL_isTree_20 : decode cL_isTree 20 = .ok (.iconst 1, 1) := by decide +kernel
theorem dL_isTree_21 : decode cL_isTree 21 = .ok (.ireturn, 1) := by decide +kernel
theorem dL_isTree_22 : decode cL_isTree 22 = .ok (.iconst 0, 1) := by decide +kernel
theorem dL_isTree_23 : decode cL_isTree 23 = .ok (.ireturn, 1) := by decide +kernel
theorem dL_cover_0 : decode cL_cover 0 = .ok (.aload_n 2, 1) := by decide +kernel
theorem dL_cover_1 : decode cL_cover 1 = .ok (.iconst 0, 1) := by decide +kernel
theorem dL_cover_2 : decode cL_cover 2 = .ok (.aload_n 0, 1) := by decide +kernel
theorem dL_cover_3 : decode cL_cover 3 = .ok (.iload_n 1, 1) := by decide +kernel
theorem dL_cover_4 : decode cL_cover 4 = .ok (.invokevirtual 109, 3) := by decide +kernel
theorem dL_cover_7 : decode cL_cover 7 = .ok (.i2l, 1) := by decide +kernel
theorem dL_cover_8 : decode cL_cover 8 = .ok (.lastore, 1) := by decide +kernel
theorem dL_cover_9 : decode cL_cover 9 = .ok (.goto 6, 3) := by decide +kernel
theorem dL_cover_12 : decode cL_cover 12 = .ok (.astore_n 3, 1) := by decide +kernel
theorem dL_cover_13 : decode cL_cover 13 = .ok (.iconst 1, 1) := by decide +kernel
theorem dL_cover_14 : decode cL_cover 14 = .ok (.ireturn, 1) := by decide +kernel
theorem dL_cover_15 : decode cL_cover 15 = .ok (.iconst 0, 1) := by decide +kernel
theorem dL_cover_16 : decode cL_cover 16 = .ok (.ireturn, 1) := by decide +kernel
theorem dL_bound_0 : decode cL_bound 0 = .ok (.aload_n 2, 1) := by decide +kernel
theorem dL_bound_1 : decode cL_bound 1 = .ok (.iconst 0, 1) := by decide +kernel
theorem dL_bound_2 : decode cL_bound 2 = .ok (.aload_n 0, 1) := by decide +kernel
theorem dL_bound_3 : decode cL_bound 3 = .ok (.iload_n 1, 1) := by decide +kernel
theorem dL_bound_4 : decode cL_bound 4 = .ok (.invokevirtual 112, 3) := by decide +kernel
theorem dL_bound_7 : decode cL_bound 7 = .ok (.lastore, 1) := by decide +kernel
theorem dL_bound_8 : decode cL_bound 8 = .ok (.goto 6, 3) := by decide +kernel
theorem dL_bound_11 : decode cL_bound 11 = .ok (.astore_n 3, 1) := by decide +kernel
theorem dL_bound_12 : decode cL_bound 12 = .ok (.iconst 1, 1) := by decide +kernel
theorem dL_bound_13 : decode cL_bound 13 = .ok (.ireturn, 1) := by decide +kernel
theorem dL_bound_14 : decode cL_bound 14 = .ok (.iconst 0, 1) := by decide +kernel
theorem dL_bound_15 : decode cL_bound 15 = .ok (.ireturn, 1) := by decide +kernel
theorem dL_isIdle_0 : decode cL_isIdle 0 = .ok (.aload_n 2, 1) := by decide +kernel
theorem dL_isIdle_1 : decode cL_isIdle 1 = .ok (.iconst 0, 1) := by decide +kernel
theorem dL_isIdle_2 : decode cL_isIdle 2 = .ok (.aload_n 0, 1) := by decide +kernel
theorem dL_isIdle_3 : decode cL_isIdle 3 = .ok (.iload_n 1, 1) := by decide +kernel
theorem dL_isIdle_4 : decode cL_isIdle 4 = .ok (.invokevirtual 116, 3) := by decide +kernel
theorem dL_isIdle_7 : decode cL_isIdle 7 = .ok (.ifCond .eq 7, 3) := by decide +kernel
theorem dL_isIdle_10 : decode cL_isIdle 10 = .ok (.lconst 1, 1) := by decide +kernel
theorem dL_isIdle_11 : decode cL_isIdle 11 = .ok (.goto 4, 3) := by decide +kernel
theorem dL_isIdle_14 : decode cL_isIdle 14 = .ok (.lconst 0, 1) := by decide +kernel
theorem dL_isIdle_15 : decode cL_isIdle 15 = .ok (.lastore, 1) := by decide +kernel
theorem dL_isIdle_16 : decode cL_isIdle 16 = .ok (.goto 6, 3) := by decide +kernel
theorem dL_isIdle_19 : decode cL_isIdle 19 = .ok (.astore_n 3, 1) := by decide +kernel
theorem dL_isIdle_20 : decode cL_isIdle 20 = .ok (.iconst 1, 1) := by decide +kernel
theorem dL_isIdle_21 : decode cL_isIdle 21 = .ok (.ireturn, 1) := by decide +kernel
theorem dL_isIdle_22 : decode cL_isIdle 22 = .ok (.iconst 0, 1) := by decide +kernel
theorem dL_isIdle_23 : decode cL_isIdle 23 = .ok (.ireturn, 1) := by decide +kernel
theorem dL_layerOf_0 : decode cL_layerOf 0 = .ok (.aload_n 2, 1) := by decide +kernel
theorem dL_layerOf_1 : decode cL_layerOf 1 = .ok (.iconst 0, 1) := by decide +kernel
theorem dL_layerOf_2 : decode cL_layerOf 2 = .ok (.aload_n 0, 1) := by decide +kernel
theorem dL_layerOf_3 : decode cL_layerOf 3 = .ok (.iload_n 1, 1) := by decide +kernel
theorem dL_layerOf_4 : decode cL_layerOf 4 = .ok (.invokevirtual 119, 3) := by decide +kernel
theorem dL_layerOf_7 : decode cL_layerOf 7 = .ok (.i2l, 1) := by decide +kernel
theorem dL_layerOf_8 : decode cL_layerOf 8 = .ok (.lastore, 1) := by decide +kernel
theorem dL_layerOf_9 : decode cL_layerOf 9 = .ok (.goto 6, 3) := by decide +kernel
theorem dL_layerOf_12 : decode cL_layerOf 12 = .ok (.astore_n 3, 1) := by decide +kernel
theorem dL_layerOf_13 : decode cL_layerOf 13 = .ok (.iconst 1, 1) := by decide +kernel
theorem dL_layerOf_14 : decode cL_layerOf 14 = .ok (.ireturn, 1) := by decide +kernel
theorem dL_layerOf_15 : decode cL_layerOf 15 = .ok (.iconst 0, 1) := by decide +kernel
theorem dL_layerOf_16 : decode cL_layerOf 16 = .ok (.ireturn, 1) := by decide +kernel
theorem dL_firings_0 : decode cL_firings 0 = .ok (.aload_n 2, 1) := by decide +kernel
theorem dL_firings_1 : decode cL_firings 1 = .ok (.iconst 0, 1) := by decide +kernel
theorem dL_firings_2 : decode cL_firings 2 = .ok (.aload_n 0, 1) := by decide +kernel
theorem dL_firings_3 : decode cL_firings 3 = .ok (.iload_n 1, 1) := by decide +kernel
theorem dL_firings_4 : decode cL_firings 4 = .ok (.invokevirtual 122, 3) := by decide +kernel
theorem dL_firings_7 : decode cL_firings 7 = .ok (.i2l, 1) := by decide +kernel
theorem dL_firings_8 : decode cL_firings 8 = .ok (.lastore, 1) := by decide +kernel
theorem dL_firings_9 : decode cL_firings 9 = .ok (.goto 6, 3) := by decide +kernel
theorem dL_firings_12 : decode cL_firings 12 = .ok (.astore_n 3, 1) := by decide +kernel
theorem dL_firings_13 : decode cL_firings 13 = .ok (.iconst 1, 1) := by decide +kernel
theorem dL_firings_14 : decode cL_firings 14 = .ok (.ireturn, 1) := by decide +kernel
theorem dL_firings_15 : decode cL_firings 15 = .ok (.iconst 0, 1) := by decide +kernel
theorem dL_firings_16 : decode cL_firings 16 = .ok (.ireturn, 1) := by decide +kernel
