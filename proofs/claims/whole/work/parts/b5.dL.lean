theorem dL_addTable_0 : decode cL_addTable 0 = .ok (.aload_n 2, 1) := sorry
theorem dL_addTable_1 : decode cL_addTable 1 = .ok (.iconst 0, 1) := sorry
theorem dL_addTable_2 : decode cL_addTable 2 = .ok (.aload_n 0, 1) := sorry
theorem dL_addTable_3 : decode cL_addTable 3 = .ok (.iload_n 1, 1) := sorry
theorem dL_addTable_4 : decode cL_addTable 4 = .ok (.invokevirtual 7, 3) := sorry
theorem dL_addTable_7 : decode cL_addTable 7 = .ok (.i2l, 1) := sorry
theorem dL_addTable_8 : decode cL_addTable 8 = .ok (.lastore, 1) := sorry
theorem dL_addTable_9 : decode cL_addTable 9 = .ok (.goto 9, 3) := sorry
theorem dL_addTable_12 : decode cL_addTable 12 = .ok (.astore_n 3, 1) := sorry
theorem dL_addTable_13 : decode cL_addTable 13 = .ok (.iconst 1, 1) := sorry
theorem dL_addTable_14 : decode cL_addTable 14 = .ok (.ireturn, 1) := sorry
theorem dL_addTable_15 : decode cL_addTable 15 = .ok (.astore_n 3, 1) := sorry
theorem dL_addTable_16 : decode cL_addTable 16 = .ok (.iconst 2, 1) := sorry
theorem dL_addTable_17 : decode cL_addTable 17 = .ok (.ireturn, 1) := sorry
theorem dL_addTable_18 : decode cL_addTable 18 = .ok (.iconst 0, 1) := sorry
theorem dL_addTable_19 : decode cL_addTable 19 = .ok (.ireturn, 1) := sorry
theorem dL_addFact_0 : decode cL_addFact 0 = .ok (.aload 5, 2) := sorry
theorem dL_addFact_2 : decode cL_addFact 2 = .ok (.iconst 0, 1) := sorry
theorem dL_addFact_3 : decode cL_addFact 3 = .ok (.aload_n 0, 1) := sorry
theorem dL_addFact_4 : decode cL_addFact 4 = .ok (.iload_n 1, 1) := sorry
theorem dL_addFact_5 : decode cL_addFact 5 = .ok (.iload_n 2, 1) := sorry
theorem dL_addFact_6 : decode cL_addFact 6 = .ok (.iload_n 3, 1) := sorry
theorem dL_addFact_7 : decode cL_addFact 7 = .ok (.iload 4, 2) := sorry
theorem dL_addFact_9 : decode cL_addFact 9 = .ok (.invokevirtual 17, 3) := sorry
theorem dL_addFact_12 : decode cL_addFact 12 = .ok (.i2l, 1) := sorry
theorem dL_addFact_13 : decode cL_addFact 13 = .ok (.lastore, 1) := sorry
theorem dL_addFact_14 : decode cL_addFact 14 = .ok (.goto 15, 3) := sorry
theorem dL_addFact_17 : decode cL_addFact 17 = .ok (.astore 6, 2) := sorry
theorem dL_addFact_19 : decode cL_addFact 19 = .ok (.iconst 1, 1) := sorry
theorem dL_addFact_20 : decode cL_addFact 20 = .ok (.ireturn, 1) := sorry
theorem dL_addFact_21 : decode cL_addFact 21 = .ok (.astore 6, 2) := sorry
theorem dL_addFact_23 : decode cL_addFact 23 = .ok (.iconst 2, 1) := sorry
theorem dL_addFact_24 : decode cL_addFact 24 = .ok (.ireturn, 1) := sorry
theorem dL_addFact_25 : decode cL_addFact 25 = .ok (.astore 6, 2) := sorry
theorem dL_addFact_27 : decode cL_addFact 27 = .ok (.iconst 3, 1) := sorry
theorem dL_addFact_28 : decode cL_addFact 28 = .ok (.ireturn, 1) := sorry
theorem dL_addFact_29 : decode cL_addFact 29 = .ok (.iconst 0, 1) := sorry
theorem dL_addFact_30 : decode cL_addFact 30 = .ok (.ireturn, 1) := sorry
theorem dL_removeFact_0 : decode cL_removeFact 0 = .ok (.aload 5, 2) := sorry
theorem dL_removeFact_2 : decode cL_removeFact 2 = .ok (.iconst 0, 1) := sorry
theorem dL_removeFact_3 : decode cL_removeFact 3 = .ok (.aload_n 0, 1) := sorry
theorem dL_removeFact_4 : decode cL_removeFact 4 = .ok (.iload_n 1, 1) := sorry
theorem dL_removeFact_5 : decode cL_removeFact 5 = .ok (.iload_n 2, 1) := sorry
theorem dL_removeFact_6 : decode cL_removeFact 6 = .ok (.iload_n 3, 1) := sorry
theorem dL_removeFact_7 : decode cL_removeFact 7 = .ok (.iload 4, 2) := sorry
theorem dL_removeFact_9 : decode cL_removeFact 9 = .ok (.invokevirtual 23, 3) := sorry
theorem dL_removeFact_12 : decode cL_removeFact 12 = .ok (.i2l, 1) := sorry
theorem dL_removeFact_13 : decode cL_removeFact 13 = .ok (.lastore, 1) := sorry
theorem dL_removeFact_14 : decode cL_removeFact 14 = .ok (.goto 15, 3) := sorry
theorem dL_removeFact_17 : decode cL_removeFact 17 = .ok (.astore 6, 2) := sorry
theorem dL_removeFact_19 : decode cL_removeFact 19 = .ok (.iconst 1, 1) := sorry
theorem dL_removeFact_20 : decode cL_removeFact 20 = .ok (.ireturn, 1) := sorry
theorem dL_removeFact_21 : decode cL_removeFact 21 = .ok (.astore 6, 2) := sorry
theorem dL_removeFact_23 : decode cL_removeFact 23 = .ok (.iconst 2, 1) := sorry
theorem dL_removeFact_24 : decode cL_removeFact 24 = .ok (.ireturn, 1) := sorry
theorem dL_removeFact_25 : decode cL_removeFact 25 = .ok (.astore 6, 2) := sorry
theorem dL_removeFact_27 : decode cL_removeFact 27 = .ok (.iconst 3, 1) := sorry
theorem dL_removeFact_28 : decode cL_removeFact 28 = .ok (.ireturn, 1) := sorry
theorem dL_removeFact_29 : decode cL_removeFact 29 = .ok (.iconst 0, 1) := sorry
theorem dL_removeFact_30 : decode cL_removeFact 30 = .ok (.ireturn, 1) := sorry
theorem dL_addAtom_0 : decode cL_addAtom 0 = .ok (.aload 6, 2) := sorry
theorem dL_addAtom_2 : decode cL_addAtom 2 = .ok (.iconst 0, 1) := sorry
theorem dL_addAtom_3 : decode cL_addAtom 3 = .ok (.aload_n 0, 1) := sorry
theorem dL_addAtom_4 : decode cL_addAtom 4 = .ok (.iload_n 1, 1) := sorry
theorem dL_addAtom_5 : decode cL_addAtom 5 = .ok (.iload_n 2, 1) := sorry
theorem dL_addAtom_6 : decode cL_addAtom 6 = .ok (.iload_n 3, 1) := sorry
theorem dL_addAtom_7 : decode cL_addAtom 7 = .ok (.iload 4, 2) := sorry
theorem dL_addAtom_9 : decode cL_addAtom 9 = .ok (.iload 5, 2) := sorry
theorem dL_addAtom_11 : decode cL_addAtom 11 = .ok (.invokevirtual 28, 3) := sorry
theorem dL_addAtom_14 : decode cL_addAtom 14 = .ok (.i2l, 1) := sorry
theorem dL_addAtom_15 : decode cL_addAtom 15 = .ok (.lastore, 1) := sorry
theorem dL_addAtom_16 : decode cL_addAtom 16 = .ok (.goto 15, 3) := sorry
theorem dL_addAtom_19 : decode cL_addAtom 19 = .ok (.astore 7, 2) := sorry
theorem dL_addAtom_21 : decode cL_addAtom 21 = .ok (.iconst 1, 1) := sorry
theorem dL_addAtom_22 : decode cL_addAtom 22 = .ok (.ireturn, 1) := sorry
theorem dL_addAtom_23 : decode cL_addAtom 23 = .ok (.astore 7, 2) := sorry
theorem dL_addAtom_25 : decode cL_addAtom 25 = .ok (.iconst 2, 1) := sorry
theorem dL_addAtom_26 : decode cL_addAtom 26 = .ok (.ireturn, 1) := sorry
theorem dL_addAtom_27 : decode cL_addAtom 27 = .ok (.astore 7, 2) := sorry
theorem dL_addAtom_29 : decode cL_addAtom 29 = .ok (.iconst 3, 1) := sorry
theorem dL_addAtom_30 : decode cL_addAtom 30 = .ok (.ireturn, 1) := sorry
theorem dL_addAtom_31 : decode cL_addAtom 31 = .ok (.iconst 0, 1) := sorry
theorem dL_addAtom_32 : decode cL_addAtom 32 = .ok (.ireturn, 1) := sorry
theorem dL_clearQuery_0 : decode cL_clearQuery 0 = .ok (.aload_n 2, 1) := sorry
theorem dL_clearQuery_1 : decode cL_clearQuery 1 = .ok (.iconst 0, 1) := sorry
theorem dL_clearQuery_2 : decode cL_clearQuery 2 = .ok (.aload_n 0, 1) := sorry
theorem dL_clearQuery_3 : decode cL_clearQuery 3 = .ok (.iload_n 1, 1) := sorry
theorem dL_clearQuery_4 : decode cL_clearQuery 4 = .ok (.invokevirtual 32, 3) := sorry
theorem dL_clearQuery_7 : decode cL_clearQuery 7 = .ok (.i2l, 1) := sorry
theorem dL_clearQuery_8 : decode cL_clearQuery 8 = .ok (.lastore, 1) := sorry
theorem dL_clearQuery_9 : decode cL_clearQuery 9 = .ok (.goto 6, 3) := sorry
theorem dL_clearQuery_12 : decode cL_clearQuery 12 = .ok (.astore_n 3, 1) := sorry
theorem dL_clearQuery_13 : decode cL_clearQuery 13 = .ok (.iconst 1, 1) := sorry
theorem dL_clearQuery_14 : decode cL_clearQuery 14 = .ok (.ireturn, 1) := sorry
theorem dL_clearQuery_15 : decode cL_clearQuery 15 = .ok (.iconst 0, 1) := sorry
theorem dL_clearQuery_16 : decode cL_clearQuery 16 = .ok (.ireturn, 1) := sorry
theorem dL_setOrder_0 : decode cL_setOrder 0 = .ok (.aload_n 3, 1) := sorry
theorem dL_setOrder_1 : decode cL_setOrder 1 = .ok (.iconst 0, 1) := sorry
theorem dL_setOrder_2 : decode cL_setOrder 2 = .ok (.aload_n 0, 1) := sorry
theorem dL_setOrder_3 : decode cL_setOrder 3 = .ok (.iload_n 1, 1) := sorry
theorem dL_setOrder_4 : decode cL_setOrder 4 = .ok (.iload_n 2, 1) := sorry
theorem dL_setOrder_5 : decode cL_setOrder 5 = .ok (.invokevirtual 35, 3) := sorry
theorem dL_setOrder_8 : decode cL_setOrder 8 = .ok (.i2l, 1) := sorry
theorem dL_setOrder_9 : decode cL_setOrder 9 = .ok (.lastore, 1) := sorry
theorem dL_setOrder_10 : decode cL_setOrder 10 = .ok (.goto 11, 3) := sorry
theorem dL_setOrder_13 : decode cL_setOrder 13 = .ok (.astore 4, 2) := sorry
theorem dL_setOrder_15 : decode cL_setOrder 15 = .ok (.iconst 1, 1) := sorry
theorem dL_setOrder_16 : decode cL_setOrder 16 = .ok (.ireturn, 1) := sorry
theorem dL_setOrder_17 : decode cL_setOrder 17 = .ok (.astore 4, 2) := sorry
theorem dL_setOrder_19 : decode cL_setOrder 19 = .ok (.iconst 2, 1) := sorry
theorem dL_setOrder_20 : decode cL_setOrder 20 = .ok (.ireturn, 1) := sorry
theorem dL_setOrder_21 : decode cL_setOrder 21 = .ok (.iconst 0, 1) := sorry
theorem dL_setOrder_22 : decode cL_setOrder 22 = .ok (.ireturn, 1) := sorry
theorem dL_clearIdle_0 : decode cL_clearIdle 0 = .ok (.aload_n 3, 1) := sorry
theorem dL_clearIdle_1 : decode cL_clearIdle 1 = .ok (.iconst 0, 1) := sorry
theorem dL_clearIdle_2 : decode cL_clearIdle 2 = .ok (.aload_n 0, 1) := sorry
theorem dL_clearIdle_3 : decode cL_clearIdle 3 = .ok (.iload_n 1, 1) := sorry
theorem dL_clearIdle_4 : decode cL_clearIdle 4 = .ok (.iload_n 2, 1) := sorry
theorem dL_clearIdle_5 : decode cL_clearIdle 5 = .ok (.invokevirtual 39, 3) := sorry
theorem dL_clearIdle_8 : decode cL_clearIdle 8 = .ok (.i2l, 1) := sorry
theorem dL_clearIdle_9 : decode cL_clearIdle 9 = .ok (.lastore, 1) := sorry
theorem dL_clearIdle_10 : decode cL_clearIdle 10 = .ok (.goto 7, 3) := sorry
theorem dL_clearIdle_13 : decode cL_clearIdle 13 = .ok (.astore 4, 2) := sorry
theorem dL_clearIdle_15 : decode cL_clearIdle 15 = .ok (.iconst 1, 1) := sorry
theorem dL_clearIdle_16 : decode cL_clearIdle 16 = .ok (.ireturn, 1) := sorry
theorem dL_clearIdle_17 : decode cL_clearIdle 17 = .ok (.iconst 0, 1) := sorry
theorem dL_clearIdle_18 : decode cL_clearIdle 18 = .ok (.ireturn, 1) := sorry
theorem dL_addRule_0 : decode cL_addRule 0 = .ok (.aload 5, 2) := sorry
theorem dL_addRule_2 : decode cL_addRule 2 = .ok (.iconst 0, 1) := sorry
theorem dL_addRule_3 : decode cL_addRule 3 = .ok (.aload_n 0, 1) := sorry
theorem dL_addRule_4 : decode cL_addRule 4 = .ok (.iload_n 1, 1) := sorry
theorem dL_addRule_5 : decode cL_addRule 5 = .ok (.iload_n 2, 1) := sorry
theorem dL_addRule_6 : decode cL_addRule 6 = .ok (.iload_n 3, 1) := sorry
theorem dL_addRule_7 : decode cL_addRule 7 = .ok (.iload 4, 2) := sorry
theorem dL_addRule_9 : decode cL_addRule 9 = .ok (.invokevirtual 42, 3) := sorry
theorem dL_addRule_12 : decode cL_addRule 12 = .ok (.i2l, 1) := sorry
theorem dL_addRule_13 : decode cL_addRule 13 = .ok (.lastore, 1) := sorry
theorem dL_addRule_14 : decode cL_addRule 14 = .ok (.goto 15, 3) := sorry
theorem dL_addRule_17 : decode cL_addRule 17 = .ok (.astore 6, 2) := sorry
theorem dL_addRule_19 : decode cL_addRule 19 = .ok (.iconst 1, 1) := sorry
theorem dL_addRule_20 : decode cL_addRule 20 = .ok (.ireturn, 1) := sorry
theorem dL_addRule_21 : decode cL_addRule 21 = .ok (.astore 6, 2) := sorry
theorem dL_addRule_23 : decode cL_addRule 23 = .ok (.iconst 2, 1) := sorry
theorem dL_addRule_24 : decode cL_addRule 24 = .ok (.ireturn, 1) := sorry
theorem dL_addRule_25 : decode cL_addRule 25 = .ok (.astore 6, 2) := sorry
theorem dL_addRule_27 : decode cL_addRule 27 = .ok (.iconst 3, 1) := sorry
theorem dL_addRule_28 : decode cL_addRule 28 = .ok (.ireturn, 1) := sorry
theorem dL_addRule_29 : decode cL_addRule 29 = .ok (.iconst 0, 1) := sorry
theorem dL_addRule_30 : decode cL_addRule 30 = .ok (.ireturn, 1) := sorry
theorem dL_addRuleAtom_0 : decode cL_addRuleAtom 0 = .ok (.aload 7, 2) := sorry
theorem dL_addRuleAtom_2 : decode cL_addRuleAtom 2 = .ok (.iconst 0, 1) := sorry
theorem dL_addRuleAtom_3 : decode cL_addRuleAtom 3 = .ok (.aload_n 0, 1) := sorry
theorem dL_addRuleAtom_4 : decode cL_addRuleAtom 4 = .ok (.iload_n 1, 1) := sorry
theorem dL_addRuleAtom_5 : decode cL_addRuleAtom 5 = .ok (.iload_n 2, 1) := sorry
theorem dL_addRuleAtom_6 : decode cL_addRuleAtom 6 = .ok (.iload_n 3, 1) := sorry
theorem dL_addRuleAtom_7 : decode cL_addRuleAtom 7 = .ok (.iload 4, 2) := sorry
theorem dL_addRuleAtom_9 : decode cL_addRuleAtom 9 = .ok (.iload 5, 2) := sorry
theorem dL_addRuleAtom_11 : decode cL_addRuleAtom 11 = .ok (.iload 6, 2) := sorry
theorem dL_addRuleAtom_13 : decode cL_addRuleAtom 13 = .ok (.invokevirtual 45, 3) := sorry
theorem dL_addRuleAtom_16 : decode cL_addRuleAtom 16 = .ok (.i2l, 1) := sorry
theorem dL_addRuleAtom_17 : decode cL_addRuleAtom 17 = .ok (.lastore, 1) := sorry
theorem dL_addRuleAtom_18 : decode cL_addRuleAtom 18 = .ok (.goto 15, 3) := sorry
theorem dL_addRuleAtom_21 : decode cL_addRuleAtom 21 = .ok (.astore 8, 2) := sorry
theorem dL_addRuleAtom_23 : decode cL_addRuleAtom 23 = .ok (.iconst 1, 1) := sorry
theorem dL_addRuleAtom_24 : decode cL_addRuleAtom 24 = .ok (.ireturn, 1) := sorry
theorem dL_addRuleAtom_25 : decode cL_addRuleAtom 25 = .ok (.astore 8, 2) := sorry
theorem dL_addRuleAtom_27 : decode cL_addRuleAtom 27 = .ok (.iconst 2, 1) := sorry
theorem dL_addRuleAtom_28 : decode cL_addRuleAtom 28 = .ok (.ireturn, 1) := sorry
theorem dL_addRuleAtom_29 : decode cL_addRuleAtom 29 = .ok (.astore 8, 2) := sorry
theorem dL_addRuleAtom_31 : decode cL_addRuleAtom 31 = .ok (.iconst 3, 1) := sorry
theorem dL_addRuleAtom_32 : decode cL_addRuleAtom 32 = .ok (.ireturn, 1) := sorry
theorem dL_addRuleAtom_33 : decode cL_addRuleAtom 33 = .ok (.iconst 0, 1) := sorry
theorem dL_addRuleAtom_34 : decode cL_addRuleAtom 34 = .ok (.ireturn, 1) := sorry
theorem dL_dropRule_0 : decode cL_dropRule 0 = .ok (.aload_n 2, 1) := sorry
theorem dL_dropRule_1 : decode cL_dropRule 1 = .ok (.iconst 0, 1) := sorry
theorem dL_dropRule_2 : decode cL_dropRule 2 = .ok (.aload_n 0, 1) := sorry
theorem dL_dropRule_3 : decode cL_dropRule 3 = .ok (.iload_n 1, 1) := sorry
theorem dL_dropRule_4 : decode cL_dropRule 4 = .ok (.invokevirtual 49, 3) := sorry
theorem dL_dropRule_7 : decode cL_dropRule 7 = .ok (.i2l, 1) := sorry
theorem dL_dropRule_8 : decode cL_dropRule 8 = .ok (.lastore, 1) := sorry
theorem dL_dropRule_9 : decode cL_dropRule 9 = .ok (.goto 6, 3) := sorry
theorem dL_dropRule_12 : decode cL_dropRule 12 = .ok (.astore_n 3, 1) := sorry
theorem dL_dropRule_13 : decode cL_dropRule 13 = .ok (.iconst 1, 1) := sorry
theorem dL_dropRule_14 : decode cL_dropRule 14 = .ok (.ireturn, 1) := sorry
theorem dL_dropRule_15 : decode cL_dropRule 15 = .ok (.iconst 0, 1) := sorry
theorem dL_dropRule_16 : decode cL_dropRule 16 = .ok (.ireturn, 1) := sorry
theorem dL_columns_0 : decode cL_columns 0 = .ok (.aload_n 2, 1) := sorry
theorem dL_columns_1 : decode cL_columns 1 = .ok (.iconst 0, 1) := sorry
theorem dL_columns_2 : decode cL_columns 2 = .ok (.aload_n 0, 1) := sorry
theorem dL_columns_3 : decode cL_columns 3 = .ok (.iload_n 1, 1) := sorry
theorem dL_columns_4 : decode cL_columns 4 = .ok (.invokevirtual 52, 3) := sorry
theorem dL_columns_7 : decode cL_columns 7 = .ok (.i2l, 1) := sorry
theorem dL_columns_8 : decode cL_columns 8 = .ok (.lastore, 1) := sorry
theorem dL_columns_9 : decode cL_columns 9 = .ok (.goto 6, 3) := sorry
theorem dL_columns_12 : decode cL_columns 12 = .ok (.astore_n 3, 1) := sorry
theorem dL_columns_13 : decode cL_columns 13 = .ok (.iconst 1, 1) := sorry
theorem dL_columns_14 : decode cL_columns 14 = .ok (.ireturn, 1) := sorry
theorem dL_columns_15 : decode cL_columns 15 = .ok (.iconst 0, 1) := sorry
theorem dL_columns_16 : decode cL_columns 16 = .ok (.ireturn, 1) := sorry
theorem dL_factCount_0 : decode cL_factCount 0 = .ok (.aload_n 2, 1) := sorry
theorem dL_factCount_1 : decode cL_factCount 1 = .ok (.iconst 0, 1) := sorry
theorem dL_factCount_2 : decode cL_factCount 2 = .ok (.aload_n 0, 1) := sorry
theorem dL_factCount_3 : decode cL_factCount 3 = .ok (.iload_n 1, 1) := sorry
theorem dL_factCount_4 : decode cL_factCount 4 = .ok (.invokevirtual 55, 3) := sorry
theorem dL_factCount_7 : decode cL_factCount 7 = .ok (.i2l, 1) := sorry
theorem dL_factCount_8 : decode cL_factCount 8 = .ok (.lastore, 1) := sorry
theorem dL_factCount_9 : decode cL_factCount 9 = .ok (.goto 6, 3) := sorry
theorem dL_factCount_12 : decode cL_factCount 12 = .ok (.astore_n 3, 1) := sorry
theorem dL_factCount_13 : decode cL_factCount 13 = .ok (.iconst 1, 1) := sorry
theorem dL_factCount_14 : decode cL_factCount 14 = .ok (.ireturn, 1) := sorry
theorem dL_factCount_15 : decode cL_factCount 15 = .ok (.iconst 0, 1) := sorry
theorem dL_factCount_16 : decode cL_factCount 16 = .ok (.ireturn, 1) := sorry
theorem dL_rowCount_0 : decode cL_rowCount 0 = .ok (.aload_n 2, 1) := sorry
theorem dL_rowCount_1 : decode cL_rowCount 1 = .ok (.iconst 0, 1) := sorry
theorem dL_rowCount_2 : decode cL_rowCount 2 = .ok (.aload_n 0, 1) := sorry
theorem dL_rowCount_3 : decode cL_rowCount 3 = .ok (.iload_n 1, 1) := sorry
theorem dL_rowCount_4 : decode cL_rowCount 4 = .ok (.invokevirtual 58, 3) := sorry
theorem dL_rowCount_7 : decode cL_rowCount 7 = .ok (.i2l, 1) := sorry
theorem dL_rowCount_8 : decode cL_rowCount 8 = .ok (.lastore, 1) := sorry
theorem dL_rowCount_9 : decode cL_rowCount 9 = .ok (.goto 6, 3) := sorry
theorem dL_rowCount_12 : decode cL_rowCount 12 = .ok (.astore_n 3, 1) := sorry
theorem dL_rowCount_13 : decode cL_rowCount 13 = .ok (.iconst 1, 1) := sorry
theorem dL_rowCount_14 : decode cL_rowCount 14 = .ok (.ireturn, 1) := sorry
theorem dL_rowCount_15 : decode cL_rowCount 15 = .ok (.iconst 0, 1) := sorry
theorem dL_rowCount_16 : decode cL_rowCount 16 = .ok (.ireturn, 1) := sorry
theorem dL_isFact_0 : decode cL_isFact 0 = .ok (.aload 5, 2) := sorry
theorem dL_isFact_2 : decode cL_isFact 2 = .ok (.iconst 0, 1) := sorry
theorem dL_isFact_3 : decode cL_isFact 3 = .ok (.aload_n 0, 1) := sorry
theorem dL_isFact_4 : decode cL_isFact 4 = .ok (.iload_n 1, 1) := sorry
theorem dL_isFact_5 : decode cL_isFact 5 = .ok (.iload_n 2, 1) := sorry
theorem dL_isFact_6 : decode cL_isFact 6 = .ok (.iload_n 3, 1) := sorry
theorem dL_isFact_7 : decode cL_isFact 7 = .ok (.iload 4, 2) := sorry
theorem dL_isFact_9 : decode cL_isFact 9 = .ok (.invokevirtual 61, 3) := sorry
theorem dL_isFact_12 : decode cL_isFact 12 = .ok (.ifCond .eq 7, 3) := sorry
theorem dL_isFact_15 : decode cL_isFact 15 = .ok (.lconst 1, 1) := sorry
theorem dL_isFact_16 : decode cL_isFact 16 = .ok (.goto 4, 3) := sorry
theorem dL_isFact_19 : decode cL_isFact 19 = .ok (.lconst 0, 1) := sorry
theorem dL_isFact_20 : decode cL_isFact 20 = .ok (.lastore, 1) := sorry
theorem dL_isFact_21 : decode cL_isFact 21 = .ok (.goto 11, 3) := sorry
theorem dL_isFact_24 : decode cL_isFact 24 = .ok (.astore 6, 2) := sorry
theorem dL_isFact_26 : decode cL_isFact 26 = .ok (.iconst 1, 1) := sorry
theorem dL_isFact_27 : decode cL_isFact 27 = .ok (.ireturn, 1) := sorry
theorem dL_isFact_28 : decode cL_isFact 28 = .ok (.astore 6, 2) := sorry
theorem dL_isFact_30 : decode cL_isFact 30 = .ok (.iconst 2, 1) := sorry
theorem dL_isFact_31 : decode cL_isFact 31 = .ok (.ireturn, 1) := sorry
theorem dL_isFact_32 : decode cL_isFact 32 = .ok (.iconst 0, 1) := sorry
theorem dL_isFact_33 : decode cL_isFact 33 = .ok (.ireturn, 1) := sorry
theorem dL_reasons_0 : decode cL_reasons 0 = .ok (.aload 5, 2) := sorry
theorem dL_reasons_2 : decode cL_reasons 2 = .ok (.iconst 0, 1) := sorry
theorem dL_reasons_3 : decode cL_reasons 3 = .ok (.aload_n 0, 1) := sorry
theorem dL_reasons_4 : decode cL_reasons 4 = .ok (.iload_n 1, 1) := sorry
theorem dL_reasons_5 : decode cL_reasons 5 = .ok (.iload_n 2, 1) := sorry
theorem dL_reasons_6 : decode cL_reasons 6 = .ok (.iload_n 3, 1) := sorry
theorem dL_reasons_7 : decode cL_reasons 7 = .ok (.iload 4, 2) := sorry
theorem dL_reasons_9 : decode cL_reasons 9 = .ok (.invokevirtual 65, 3) := sorry
theorem dL_reasons_12 : decode cL_reasons 12 = .ok (.i2l, 1) := sorry
theorem dL_reasons_13 : decode cL_reasons 13 = .ok (.lastore, 1) := sorry
theorem dL_reasons_14 : decode cL_reasons 14 = .ok (.goto 11, 3) := sorry
theorem dL_reasons_17 : decode cL_reasons 17 = .ok (.astore 6, 2) := sorry
theorem dL_reasons_19 : decode cL_reasons 19 = .ok (.iconst 1, 1) := sorry
theorem dL_reasons_20 : decode cL_reasons 20 = .ok (.ireturn, 1) := sorry
theorem dL_reasons_21 : decode cL_reasons 21 = .ok (.astore 6, 2) := sorry
theorem dL_reasons_23 : decode cL_reasons 23 = .ok (.iconst 2, 1) := sorry
theorem dL_reasons_24 : decode cL_reasons 24 = .ok (.ireturn, 1) := sorry
theorem dL_reasons_25 : decode cL_reasons 25 = .ok (.iconst 0, 1) := sorry
theorem dL_reasons_26 : decode cL_reasons 26 = .ok (.ireturn, 1) := sorry
theorem dL_rowAt_0 : decode cL_rowAt 0 = .ok (.aload 4, 2) := sorry
theorem dL_rowAt_2 : decode cL_rowAt 2 = .ok (.iconst 0, 1) := sorry
theorem dL_rowAt_3 : decode cL_rowAt 3 = .ok (.aload_n 0, 1) := sorry
theorem dL_rowAt_4 : decode cL_rowAt 4 = .ok (.iload_n 1, 1) := sorry
theorem dL_rowAt_5 : decode cL_rowAt 5 = .ok (.iload_n 2, 1) := sorry
theorem dL_rowAt_6 : decode cL_rowAt 6 = .ok (.iload_n 3, 1) := sorry
theorem dL_rowAt_7 : decode cL_rowAt 7 = .ok (.invokevirtual 68, 3) := sorry
theorem dL_rowAt_10 : decode cL_rowAt 10 = .ok (.i2l, 1) := sorry
theorem dL_rowAt_11 : decode cL_rowAt 11 = .ok (.lastore, 1) := sorry
theorem dL_rowAt_12 : decode cL_rowAt 12 = .ok (.goto 7, 3) := sorry
theorem dL_rowAt_15 : decode cL_rowAt 15 = .ok (.astore 5, 2) := sorry
theorem dL_rowAt_17 : decode cL_rowAt 17 = .ok (.iconst 1, 1) := sorry
theorem dL_rowAt_18 : decode cL_rowAt 18 = .ok (.ireturn, 1) := sorry
theorem dL_rowAt_19 : decode cL_rowAt 19 = .ok (.iconst 0, 1) := sorry
theorem dL_rowAt_20 : decode cL_rowAt 20 = .ok (.ireturn, 1) := sorry
theorem dL_firstFrom_0 : decode cL_firstFrom 0 = .ok (.aload 5, 2) := sorry
theorem dL_firstFrom_2 : decode cL_firstFrom 2 = .ok (.iconst 0, 1) := sorry
theorem dL_firstFrom_3 : decode cL_firstFrom 3 = .ok (.aload_n 0, 1) := sorry
theorem dL_firstFrom_4 : decode cL_firstFrom 4 = .ok (.iload_n 1, 1) := sorry
theorem dL_firstFrom_5 : decode cL_firstFrom 5 = .ok (.iload_n 2, 1) := sorry
theorem dL_firstFrom_6 : decode cL_firstFrom 6 = .ok (.iload_n 3, 1) := sorry
theorem dL_firstFrom_7 : decode cL_firstFrom 7 = .ok (.iload 4, 2) := sorry
theorem dL_firstFrom_9 : decode cL_firstFrom 9 = .ok (.invokevirtual 72, 3) := sorry
theorem dL_firstFrom_12 : decode cL_firstFrom 12 = .ok (.i2l, 1) := sorry
theorem dL_firstFrom_13 : decode cL_firstFrom 13 = .ok (.lastore, 1) := sorry
theorem dL_firstFrom_14 : decode cL_firstFrom 14 = .ok (.goto 15, 3) := sorry
theorem dL_firstFrom_17 : decode cL_firstFrom 17 = .ok (.astore 6, 2) := sorry
theorem dL_firstFrom_19 : decode cL_firstFrom 19 = .ok (.iconst 1, 1) := sorry
theorem dL_firstFrom_20 : decode cL_firstFrom 20 = .ok (.ireturn, 1) := sorry
theorem dL_firstFrom_21 : decode cL_firstFrom 21 = .ok (.astore 6, 2) := sorry
theorem dL_firstFrom_23 : decode cL_firstFrom 23 = .ok (.iconst 2, 1) := sorry
theorem dL_firstFrom_24 : decode cL_firstFrom 24 = .ok (.ireturn, 1) := sorry
theorem dL_firstFrom_25 : decode cL_firstFrom 25 = .ok (.astore 6, 2) := sorry
theorem dL_firstFrom_27 : decode cL_firstFrom 27 = .ok (.iconst 3, 1) := sorry
theorem dL_firstFrom_28 : decode cL_firstFrom 28 = .ok (.ireturn, 1) := sorry
theorem dL_firstFrom_29 : decode cL_firstFrom 29 = .ok (.iconst 0, 1) := sorry
theorem dL_firstFrom_30 : decode cL_firstFrom 30 = .ok (.ireturn, 1) := sorry
theorem dL_values_0 : decode cL_values 0 = .ok (.aload_n 3, 1) := sorry
theorem dL_values_1 : decode cL_values 1 = .ok (.iconst 0, 1) := sorry
theorem dL_values_2 : decode cL_values 2 = .ok (.aload_n 0, 1) := sorry
theorem dL_values_3 : decode cL_values 3 = .ok (.iload_n 1, 1) := sorry
theorem dL_values_4 : decode cL_values 4 = .ok (.iload_n 2, 1) := sorry
theorem dL_values_5 : decode cL_values 5 = .ok (.invokevirtual 75, 3) := sorry
theorem dL_values_8 : decode cL_values 8 = .ok (.i2l, 1) := sorry
theorem dL_values_9 : decode cL_values 9 = .ok (.lastore, 1) := sorry
theorem dL_values_10 : decode cL_values 10 = .ok (.goto 7, 3) := sorry
theorem dL_values_13 : decode cL_values 13 = .ok (.astore 4, 2) := sorry
theorem dL_values_15 : decode cL_values 15 = .ok (.iconst 1, 1) := sorry
theorem dL_values_16 : decode cL_values 16 = .ok (.ireturn, 1) := sorry
theorem dL_values_17 : decode cL_values 17 = .ok (.iconst 0, 1) := sorry
theorem dL_values_18 : decode cL_values 18 = .ok (.ireturn, 1) := sorry
theorem dL_lower_0 : decode cL_lower 0 = .ok (.aload_n 3, 1) := sorry
theorem dL_lower_1 : decode cL_lower 1 = .ok (.iconst 0, 1) := sorry
theorem dL_lower_2 : decode cL_lower 2 = .ok (.aload_n 0, 1) := sorry
theorem dL_lower_3 : decode cL_lower 3 = .ok (.iload_n 1, 1) := sorry
theorem dL_lower_4 : decode cL_lower 4 = .ok (.iload_n 2, 1) := sorry
theorem dL_lower_5 : decode cL_lower 5 = .ok (.invokevirtual 78, 3) := sorry
theorem dL_lower_8 : decode cL_lower 8 = .ok (.i2l, 1) := sorry
theorem dL_lower_9 : decode cL_lower 9 = .ok (.lastore, 1) := sorry
theorem dL_lower_10 : decode cL_lower 10 = .ok (.goto 15, 3) := sorry
theorem dL_lower_13 : decode cL_lower 13 = .ok (.astore 4, 2) := sorry
theorem dL_lower_15 : decode cL_lower 15 = .ok (.iconst 1, 1) := sorry
theorem dL_lower_16 : decode cL_lower 16 = .ok (.ireturn, 1) := sorry
theorem dL_lower_17 : decode cL_lower 17 = .ok (.astore 4, 2) := sorry
theorem dL_lower_19 : decode cL_lower 19 = .ok (.iconst 2, 1) := sorry
theorem dL_lower_20 : decode cL_lower 20 = .ok (.ireturn, 1) := sorry
theorem dL_lower_21 : decode cL_lower 21 = .ok (.astore 4, 2) := sorry
theorem dL_lower_23 : decode cL_lower 23 = .ok (.iconst 3, 1) := sorry
theorem dL_lower_24 : decode cL_lower 24 = .ok (.ireturn, 1) := sorry
theorem dL_lower_25 : decode cL_lower 25 = .ok (.iconst 0, 1) := sorry
theorem dL_lower_26 : decode cL_lower 26 = .ok (.ireturn, 1) := sorry
theorem dL_atomCount_0 : decode cL_atomCount 0 = .ok (.aload_n 2, 1) := sorry
theorem dL_atomCount_1 : decode cL_atomCount 1 = .ok (.iconst 0, 1) := sorry
theorem dL_atomCount_2 : decode cL_atomCount 2 = .ok (.aload_n 0, 1) := sorry
theorem dL_atomCount_3 : decode cL_atomCount 3 = .ok (.iload_n 1, 1) := sorry
theorem dL_atomCount_4 : decode cL_atomCount 4 = .ok (.invokevirtual 81, 3) := sorry
theorem dL_atomCount_7 : decode cL_atomCount 7 = .ok (.i2l, 1) := sorry
theorem dL_atomCount_8 : decode cL_atomCount 8 = .ok (.lastore, 1) := sorry
theorem dL_atomCount_9 : decode cL_atomCount 9 = .ok (.goto 6, 3) := sorry
theorem dL_atomCount_12 : decode cL_atomCount 12 = .ok (.astore_n 3, 1) := sorry
theorem dL_atomCount_13 : decode cL_atomCount 13 = .ok (.iconst 1, 1) := sorry
theorem dL_atomCount_14 : decode cL_atomCount 14 = .ok (.ireturn, 1) := sorry
theorem dL_atomCount_15 : decode cL_atomCount 15 = .ok (.iconst 0, 1) := sorry
theorem dL_atomCount_16 : decode cL_atomCount 16 = .ok (.ireturn, 1) := sorry
theorem dL_answers_0 : decode cL_answers 0 = .ok (.aload_n 2, 1) := sorry
theorem dL_answers_1 : decode cL_answers 1 = .ok (.iconst 0, 1) := sorry
theorem dL_answers_2 : decode cL_answers 2 = .ok (.aload_n 0, 1) := sorry
theorem dL_answers_3 : decode cL_answers 3 = .ok (.iload_n 1, 1) := sorry
theorem dL_answers_4 : decode cL_answers 4 = .ok (.invokevirtual 84, 3) := sorry
theorem dL_answers_7 : decode cL_answers 7 = .ok (.i2l, 1) := sorry
theorem dL_answers_8 : decode cL_answers 8 = .ok (.lastore, 1) := sorry
theorem dL_answers_9 : decode cL_answers 9 = .ok (.goto 6, 3) := sorry
theorem dL_answers_12 : decode cL_answers 12 = .ok (.astore_n 3, 1) := sorry
theorem dL_answers_13 : decode cL_answers 13 = .ok (.iconst 1, 1) := sorry
theorem dL_answers_14 : decode cL_answers 14 = .ok (.ireturn, 1) := sorry
theorem dL_answers_15 : decode cL_answers 15 = .ok (.iconst 0, 1) := sorry
theorem dL_answers_16 : decode cL_answers 16 = .ok (.ireturn, 1) := sorry
theorem dL_answerAt_0 : decode cL_answerAt 0 = .ok (.aload 4, 2) := sorry
theorem dL_answerAt_2 : decode cL_answerAt 2 = .ok (.iconst 0, 1) := sorry
theorem dL_answerAt_3 : decode cL_answerAt 3 = .ok (.aload_n 0, 1) := sorry
theorem dL_answerAt_4 : decode cL_answerAt 4 = .ok (.iload_n 1, 1) := sorry
theorem dL_answerAt_5 : decode cL_answerAt 5 = .ok (.iload_n 2, 1) := sorry
theorem dL_answerAt_6 : decode cL_answerAt 6 = .ok (.iload_n 3, 1) := sorry
theorem dL_answerAt_7 : decode cL_answerAt 7 = .ok (.invokevirtual 87, 3) := sorry
theorem dL_answerAt_10 : decode cL_answerAt 10 = .ok (.i2l, 1) := sorry
theorem dL_answerAt_11 : decode cL_answerAt 11 = .ok (.lastore, 1) := sorry
theorem dL_answerAt_12 : decode cL_answerAt 12 = .ok (.goto 7, 3) := sorry
theorem dL_answerAt_15 : decode cL_answerAt 15 = .ok (.astore 5, 2) := sorry
theorem dL_answerAt_17 : decode cL_answerAt 17 = .ok (.iconst 1, 1) := sorry
theorem dL_answerAt_18 : decode cL_answerAt 18 = .ok (.ireturn, 1) := sorry
theorem dL_answerAt_19 : decode cL_answerAt 19 = .ok (.iconst 0, 1) := sorry
theorem dL_answerAt_20 : decode cL_answerAt 20 = .ok (.ireturn, 1) := sorry
theorem dL_seek_0 : decode cL_seek 0 = .ok (.aload 6, 2) := sorry
theorem dL_seek_2 : decode cL_seek 2 = .ok (.iconst 0, 1) := sorry
theorem dL_seek_3 : decode cL_seek 3 = .ok (.aload_n 0, 1) := sorry
theorem dL_seek_4 : decode cL_seek 4 = .ok (.iload_n 1, 1) := sorry
theorem dL_seek_5 : decode cL_seek 5 = .ok (.iload_n 2, 1) := sorry
theorem dL_seek_6 : decode cL_seek 6 = .ok (.iload_n 3, 1) := sorry
theorem dL_seek_7 : decode cL_seek 7 = .ok (.iload 4, 2) := sorry
theorem dL_seek_9 : decode cL_seek 9 = .ok (.iload 5, 2) := sorry
theorem dL_seek_11 : decode cL_seek 11 = .ok (.invokevirtual 90, 3) := sorry
theorem dL_seek_14 : decode cL_seek 14 = .ok (.i2l, 1) := sorry
theorem dL_seek_15 : decode cL_seek 15 = .ok (.lastore, 1) := sorry
theorem dL_seek_16 : decode cL_seek 16 = .ok (.goto 15, 3) := sorry
theorem dL_seek_19 : decode cL_seek 19 = .ok (.astore 7, 2) := sorry
theorem dL_seek_21 : decode cL_seek 21 = .ok (.iconst 1, 1) := sorry
theorem dL_seek_22 : decode cL_seek 22 = .ok (.ireturn, 1) := sorry
theorem dL_seek_23 : decode cL_seek 23 = .ok (.astore 7, 2) := sorry
theorem dL_seek_25 : decode cL_seek 25 = .ok (.iconst 2, 1) := sorry
theorem dL_seek_26 : decode cL_seek 26 = .ok (.ireturn, 1) := sorry
theorem dL_seek_27 : decode cL_seek 27 = .ok (.astore 7, 2) := sorry
theorem dL_seek_29 : decode cL_seek 29 = .ok (.iconst 3, 1) := sorry
theorem dL_seek_30 : decode cL_seek 30 = .ok (.ireturn, 1) := sorry
theorem dL_seek_31 : decode cL_seek 31 = .ok (.iconst 0, 1) := sorry
theorem dL_seek_32 : decode cL_seek 32 = .ok (.ireturn, 1) := sorry
theorem dL_leaps_0 : decode cL_leaps 0 = .ok (.aload_n 2, 1) := sorry
theorem dL_leaps_1 : decode cL_leaps 1 = .ok (.iconst 0, 1) := sorry
theorem dL_leaps_2 : decode cL_leaps 2 = .ok (.aload_n 0, 1) := sorry
theorem dL_leaps_3 : decode cL_leaps 3 = .ok (.iload_n 1, 1) := sorry
theorem dL_leaps_4 : decode cL_leaps 4 = .ok (.invokevirtual 93, 3) := sorry
theorem dL_leaps_7 : decode cL_leaps 7 = .ok (.i2l, 1) := sorry
theorem dL_leaps_8 : decode cL_leaps 8 = .ok (.lastore, 1) := sorry
theorem dL_leaps_9 : decode cL_leaps 9 = .ok (.goto 6, 3) := sorry
theorem dL_leaps_12 : decode cL_leaps 12 = .ok (.astore_n 3, 1) := sorry
theorem dL_leaps_13 : decode cL_leaps 13 = .ok (.iconst 1, 1) := sorry
theorem dL_leaps_14 : decode cL_leaps 14 = .ok (.ireturn, 1) := sorry
theorem dL_leaps_15 : decode cL_leaps 15 = .ok (.iconst 0, 1) := sorry
theorem dL_leaps_16 : decode cL_leaps 16 = .ok (.ireturn, 1) := sorry
theorem dL_groups_0 : decode cL_groups 0 = .ok (.aload_n 3, 1) := sorry
theorem dL_groups_1 : decode cL_groups 1 = .ok (.iconst 0, 1) := sorry
theorem dL_groups_2 : decode cL_groups 2 = .ok (.aload_n 0, 1) := sorry
theorem dL_groups_3 : decode cL_groups 3 = .ok (.iload_n 1, 1) := sorry
theorem dL_groups_4 : decode cL_groups 4 = .ok (.iload_n 2, 1) := sorry
theorem dL_groups_5 : decode cL_groups 5 = .ok (.invokevirtual 96, 3) := sorry
theorem dL_groups_8 : decode cL_groups 8 = .ok (.i2l, 1) := sorry
theorem dL_groups_9 : decode cL_groups 9 = .ok (.lastore, 1) := sorry
theorem dL_groups_10 : decode cL_groups 10 = .ok (.goto 7, 3) := sorry
theorem dL_groups_13 : decode cL_groups 13 = .ok (.astore 4, 2) := sorry
theorem dL_groups_15 : decode cL_groups 15 = .ok (.iconst 1, 1) := sorry
theorem dL_groups_16 : decode cL_groups 16 = .ok (.ireturn, 1) := sorry
theorem dL_groups_17 : decode cL_groups 17 = .ok (.iconst 0, 1) := sorry
theorem dL_groups_18 : decode cL_groups 18 = .ok (.ireturn, 1) := sorry
theorem dL_groupSize_0 : decode cL_groupSize 0 = .ok (.aload 4, 2) := sorry
theorem dL_groupSize_2 : decode cL_groupSize 2 = .ok (.iconst 0, 1) := sorry
theorem dL_groupSize_3 : decode cL_groupSize 3 = .ok (.aload_n 0, 1) := sorry
theorem dL_groupSize_4 : decode cL_groupSize 4 = .ok (.iload_n 1, 1) := sorry
theorem dL_groupSize_5 : decode cL_groupSize 5 = .ok (.iload_n 2, 1) := sorry
theorem dL_groupSize_6 : decode cL_groupSize 6 = .ok (.iload_n 3, 1) := sorry
theorem dL_groupSize_7 : decode cL_groupSize 7 = .ok (.invokevirtual 99, 3) := sorry
theorem dL_groupSize_10 : decode cL_groupSize 10 = .ok (.i2l, 1) := sorry
theorem dL_groupSize_11 : decode cL_groupSize 11 = .ok (.lastore, 1) := sorry
theorem dL_groupSize_12 : decode cL_groupSize 12 = .ok (.goto 11, 3) := sorry
theorem dL_groupSize_15 : decode cL_groupSize 15 = .ok (.astore 5, 2) := sorry
theorem dL_groupSize_17 : decode cL_groupSize 17 = .ok (.iconst 1, 1) := sorry
theorem dL_groupSize_18 : decode cL_groupSize 18 = .ok (.ireturn, 1) := sorry
theorem dL_groupSize_19 : decode cL_groupSize 19 = .ok (.astore 5, 2) := sorry
theorem dL_groupSize_21 : decode cL_groupSize 21 = .ok (.iconst 2, 1) := sorry
theorem dL_groupSize_22 : decode cL_groupSize 22 = .ok (.ireturn, 1) := sorry
theorem dL_groupSize_23 : decode cL_groupSize 23 = .ok (.iconst 0, 1) := sorry
theorem dL_groupSize_24 : decode cL_groupSize 24 = .ok (.ireturn, 1) := sorry
theorem dL_idleRows_0 : decode cL_idleRows 0 = .ok (.aload_n 3, 1) := sorry
theorem dL_idleRows_1 : decode cL_idleRows 1 = .ok (.iconst 0, 1) := sorry
theorem dL_idleRows_2 : decode cL_idleRows 2 = .ok (.aload_n 0, 1) := sorry
theorem dL_idleRows_3 : decode cL_idleRows 3 = .ok (.iload_n 1, 1) := sorry
theorem dL_idleRows_4 : decode cL_idleRows 4 = .ok (.iload_n 2, 1) := sorry
theorem dL_idleRows_5 : decode cL_idleRows 5 = .ok (.invokevirtual 102, 3) := sorry
theorem dL_idleRows_8 : decode cL_idleRows 8 = .ok (.i2l, 1) := sorry
theorem dL_idleRows_9 : decode cL_idleRows 9 = .ok (.lastore, 1) := sorry
theorem dL_idleRows_10 : decode cL_idleRows 10 = .ok (.goto 7, 3) := sorry
theorem dL_idleRows_13 : decode cL_idleRows 13 = .ok (.astore 4, 2) := sorry
theorem dL_idleRows_15 : decode cL_idleRows 15 = .ok (.iconst 1, 1) := sorry
theorem dL_idleRows_16 : decode cL_idleRows 16 = .ok (.ireturn, 1) := sorry
theorem dL_idleRows_17 : decode cL_idleRows 17 = .ok (.iconst 0, 1) := sorry
theorem dL_idleRows_18 : decode cL_idleRows 18 = .ok (.ireturn, 1) := sorry
theorem dL_isTree_0 : decode cL_isTree 0 = .ok (.aload_n 2, 1) := sorry
theorem dL_isTree_1 : decode cL_isTree 1 = .ok (.iconst 0, 1) := sorry
theorem dL_isTree_2 : decode cL_isTree 2 = .ok (.aload_n 0, 1) := sorry
theorem dL_isTree_3 : decode cL_isTree 3 = .ok (.iload_n 1, 1) := sorry
theorem dL_isTree_4 : decode cL_isTree 4 = .ok (.invokevirtual 105, 3) := sorry
theorem dL_isTree_7 : decode cL_isTree 7 = .ok (.ifCond .eq 7, 3) := sorry
theorem dL_isTree_10 : decode cL_isTree 10 = .ok (.lconst 1, 1) := sorry
theorem dL_isTree_11 : decode cL_isTree 11 = .ok (.goto 4, 3) := sorry
theorem dL_isTree_14 : decode cL_isTree 14 = .ok (.lconst 0, 1) := sorry
theorem dL_isTree_15 : decode cL_isTree 15 = .ok (.lastore, 1) := sorry
theorem dL_isTree_16 : decode cL_isTree 16 = .ok (.goto 6, 3) := sorry
theorem dL_isTree_19 : decode cL_isTree 19 = .ok (.astore_n 3, 1) := sorry
theorem dL_isTree_20 : decode cL_isTree 20 = .ok (.iconst 1, 1) := sorry
theorem dL_isTree_21 : decode cL_isTree 21 = .ok (.ireturn, 1) := sorry
theorem dL_isTree_22 : decode cL_isTree 22 = .ok (.iconst 0, 1) := sorry
theorem dL_isTree_23 : decode cL_isTree 23 = .ok (.ireturn, 1) := sorry
theorem dL_cover_0 : decode cL_cover 0 = .ok (.aload_n 2, 1) := sorry
theorem dL_cover_1 : decode cL_cover 1 = .ok (.iconst 0, 1) := sorry
theorem dL_cover_2 : decode cL_cover 2 = .ok (.aload_n 0, 1) := sorry
theorem dL_cover_3 : decode cL_cover 3 = .ok (.iload_n 1, 1) := sorry
theorem dL_cover_4 : decode cL_cover 4 = .ok (.invokevirtual 109, 3) := sorry
theorem dL_cover_7 : decode cL_cover 7 = .ok (.i2l, 1) := sorry
theorem dL_cover_8 : decode cL_cover 8 = .ok (.lastore, 1) := sorry
theorem dL_cover_9 : decode cL_cover 9 = .ok (.goto 6, 3) := sorry
theorem dL_cover_12 : decode cL_cover 12 = .ok (.astore_n 3, 1) := sorry
theorem dL_cover_13 : decode cL_cover 13 = .ok (.iconst 1, 1) := sorry
theorem dL_cover_14 : decode cL_cover 14 = .ok (.ireturn, 1) := sorry
theorem dL_cover_15 : decode cL_cover 15 = .ok (.iconst 0, 1) := sorry
theorem dL_cover_16 : decode cL_cover 16 = .ok (.ireturn, 1) := sorry
theorem dL_bound_0 : decode cL_bound 0 = .ok (.aload_n 2, 1) := sorry
theorem dL_bound_1 : decode cL_bound 1 = .ok (.iconst 0, 1) := sorry
theorem dL_bound_2 : decode cL_bound 2 = .ok (.aload_n 0, 1) := sorry
theorem dL_bound_3 : decode cL_bound 3 = .ok (.iload_n 1, 1) := sorry
theorem dL_bound_4 : decode cL_bound 4 = .ok (.invokevirtual 112, 3) := sorry
theorem dL_bound_7 : decode cL_bound 7 = .ok (.lastore, 1) := sorry
theorem dL_bound_8 : decode cL_bound 8 = .ok (.goto 6, 3) := sorry
theorem dL_bound_11 : decode cL_bound 11 = .ok (.astore_n 3, 1) := sorry
theorem dL_bound_12 : decode cL_bound 12 = .ok (.iconst 1, 1) := sorry
theorem dL_bound_13 : decode cL_bound 13 = .ok (.ireturn, 1) := sorry
theorem dL_bound_14 : decode cL_bound 14 = .ok (.iconst 0, 1) := sorry
theorem dL_bound_15 : decode cL_bound 15 = .ok (.ireturn, 1) := sorry
theorem dL_isIdle_0 : decode cL_isIdle 0 = .ok (.aload_n 2, 1) := sorry
theorem dL_isIdle_1 : decode cL_isIdle 1 = .ok (.iconst 0, 1) := sorry
theorem dL_isIdle_2 : decode cL_isIdle 2 = .ok (.aload_n 0, 1) := sorry
theorem dL_isIdle_3 : decode cL_isIdle 3 = .ok (.iload_n 1, 1) := sorry
theorem dL_isIdle_4 : decode cL_isIdle 4 = .ok (.invokevirtual 116, 3) := sorry
theorem dL_isIdle_7 : decode cL_isIdle 7 = .ok (.ifCond .eq 7, 3) := sorry
theorem dL_isIdle_10 : decode cL_isIdle 10 = .ok (.lconst 1, 1) := sorry
theorem dL_isIdle_11 : decode cL_isIdle 11 = .ok (.goto 4, 3) := sorry
theorem dL_isIdle_14 : decode cL_isIdle 14 = .ok (.lconst 0, 1) := sorry
theorem dL_isIdle_15 : decode cL_isIdle 15 = .ok (.lastore, 1) := sorry
theorem dL_isIdle_16 : decode cL_isIdle 16 = .ok (.goto 6, 3) := sorry
theorem dL_isIdle_19 : decode cL_isIdle 19 = .ok (.astore_n 3, 1) := sorry
theorem dL_isIdle_20 : decode cL_isIdle 20 = .ok (.iconst 1, 1) := sorry
theorem dL_isIdle_21 : decode cL_isIdle 21 = .ok (.ireturn, 1) := sorry
theorem dL_isIdle_22 : decode cL_isIdle 22 = .ok (.iconst 0, 1) := sorry
theorem dL_isIdle_23 : decode cL_isIdle 23 = .ok (.ireturn, 1) := sorry
theorem dL_layerOf_0 : decode cL_layerOf 0 = .ok (.aload_n 2, 1) := sorry
theorem dL_layerOf_1 : decode cL_layerOf 1 = .ok (.iconst 0, 1) := sorry
theorem dL_layerOf_2 : decode cL_layerOf 2 = .ok (.aload_n 0, 1) := sorry
theorem dL_layerOf_3 : decode cL_layerOf 3 = .ok (.iload_n 1, 1) := sorry
theorem dL_layerOf_4 : decode cL_layerOf 4 = .ok (.invokevirtual 119, 3) := sorry
theorem dL_layerOf_7 : decode cL_layerOf 7 = .ok (.i2l, 1) := sorry
theorem dL_layerOf_8 : decode cL_layerOf 8 = .ok (.lastore, 1) := sorry
theorem dL_layerOf_9 : decode cL_layerOf 9 = .ok (.goto 6, 3) := sorry
theorem dL_layerOf_12 : decode cL_layerOf 12 = .ok (.astore_n 3, 1) := sorry
theorem dL_layerOf_13 : decode cL_layerOf 13 = .ok (.iconst 1, 1) := sorry
theorem dL_layerOf_14 : decode cL_layerOf 14 = .ok (.ireturn, 1) := sorry
theorem dL_layerOf_15 : decode cL_layerOf 15 = .ok (.iconst 0, 1) := sorry
theorem dL_layerOf_16 : decode cL_layerOf 16 = .ok (.ireturn, 1) := sorry
theorem dL_firings_0 : decode cL_firings 0 = .ok (.aload_n 2, 1) := sorry
theorem dL_firings_1 : decode cL_firings 1 = .ok (.iconst 0, 1) := sorry
theorem dL_firings_2 : decode cL_firings 2 = .ok (.aload_n 0, 1) := sorry
theorem dL_firings_3 : decode cL_firings 3 = .ok (.iload_n 1, 1) := sorry
theorem dL_firings_4 : decode cL_firings 4 = .ok (.invokevirtual 122, 3) := sorry
theorem dL_firings_7 : decode cL_firings 7 = .ok (.i2l, 1) := sorry
theorem dL_firings_8 : decode cL_firings 8 = .ok (.lastore, 1) := sorry
theorem dL_firings_9 : decode cL_firings 9 = .ok (.goto 6, 3) := sorry
theorem dL_firings_12 : decode cL_firings 12 = .ok (.astore_n 3, 1) := sorry
theorem dL_firings_13 : decode cL_firings 13 = .ok (.iconst 1, 1) := sorry
theorem dL_firings_14 : decode cL_firings 14 = .ok (.ireturn, 1) := sorry
theorem dL_firings_15 : decode cL_firings 15 = .ok (.iconst 0, 1) := sorry
theorem dL_firings_16 : decode cL_firings 16 = .ok (.ireturn, 1) := sorry
theorem dL_law_0 : decode cL_law 0 = .ok (.new 8, 3) := sorry
theorem dL_law_3 : decode cL_law 3 = .ok (.dup, 1) := sorry
theorem dL_law_4 : decode cL_law 4 = .ok (.invokespecial 125, 3) := sorry
theorem dL_law_7 : decode cL_law 7 = .ok (.astore_n 1, 1) := sorry
theorem dL_law_8 : decode cL_law 8 = .ok (.new 126, 3) := sorry
theorem dL_law_11 : decode cL_law 11 = .ok (.dup, 1) := sorry
theorem dL_law_12 : decode cL_law 12 = .ok (.invokespecial 128, 3) := sorry
theorem dL_law_15 : decode cL_law 15 = .ok (.astore_n 2, 1) := sorry
theorem dL_law_16 : decode cL_law 16 = .ok (.iconst 1, 1) := sorry
theorem dL_law_17 : decode cL_law 17 = .ok (.newarray .long, 2) := sorry
theorem dL_law_19 : decode cL_law 19 = .ok (.astore_n 3, 1) := sorry
theorem dL_law_20 : decode cL_law 20 = .ok (.iconst 0, 1) := sorry
theorem dL_law_21 : decode cL_law 21 = .ok (.istore 4, 2) := sorry
theorem dL_law_23 : decode cL_law 23 = .ok (.iload 4, 2) := sorry
theorem dL_law_25 : decode cL_law 25 = .ok (.aload_n 0, 1) := sorry
theorem dL_law_26 : decode cL_law 26 = .ok (.arraylength, 1) := sorry
theorem dL_law_27 : decode cL_law 27 = .ok (.bipush 7, 2) := sorry
theorem dL_law_29 : decode cL_law 29 = .ok (.isub, 1) := sorry
theorem dL_law_30 : decode cL_law 30 = .ok (.if_icmp .gt 2760, 3) := sorry
theorem dL_law_33 : decode cL_law 33 = .ok (.aload_n 0, 1) := sorry
theorem dL_law_34 : decode cL_law 34 = .ok (.iload 4, 2) := sorry
theorem dL_law_36 : decode cL_law 36 = .ok (.iaload, 1) := sorry
theorem dL_law_37 : decode cL_law 37 = .ok (.bipush 63, 2) := sorry
theorem dL_law_39 : decode cL_law 39 = .ok (.iand, 1) := sorry
theorem dL_law_40 : decode cL_law 40 = .ok (.tableswitch 2744 0 40 #[180, 236, 328, 420, 524, 580, 648, 716, 808, 942, 998, 1011, 1024, 1080, 1136, 1192, 1291, 1383, 1463, 1555, 1623, 1691, 1747, 1803, 1883, 1987, 2043, 2111, 2191, 2259, 2322, 2378, 2433, 2446, 2509, 2565, 2578, 2634, 2675, 2718, 2731], 180) := sorry
theorem dL_law_220 : decode cL_law 220 = .ok (.aload_n 1, 1) := sorry
theorem dL_law_221 : decode cL_law 221 = .ok (.aload_n 0, 1) := sorry
theorem dL_law_222 : decode cL_law 222 = .ok (.iload 4, 2) := sorry
theorem dL_law_224 : decode cL_law 224 = .ok (.iconst 1, 1) := sorry
theorem dL_law_225 : decode cL_law 225 = .ok (.iadd, 1) := sorry
theorem dL_law_226 : decode cL_law 226 = .ok (.iaload, 1) := sorry
theorem dL_law_227 : decode cL_law 227 = .ok (.aload_n 3, 1) := sorry
theorem dL_law_228 : decode cL_law 228 = .ok (.invokestatic 129, 3) := sorry
theorem dL_law_231 : decode cL_law 231 = .ok (.istore 5, 2) := sorry
theorem dL_law_233 : decode cL_law 233 = .ok (.aload_n 2, 1) := sorry
theorem dL_law_234 : decode cL_law 234 = .ok (.aload_n 0, 1) := sorry
theorem dL_law_235 : decode cL_law 235 = .ok (.iload 4, 2) := sorry
theorem dL_law_237 : decode cL_law 237 = .ok (.iconst 1, 1) := sorry
theorem dL_law_238 : decode cL_law 238 = .ok (.iadd, 1) := sorry
theorem dL_law_239 : decode cL_law 239 = .ok (.iaload, 1) := sorry
theorem dL_law_240 : decode cL_law 240 = .ok (.invokevirtual 134, 3) := sorry
theorem dL_law_243 : decode cL_law 243 = .ok (.istore 6, 2) := sorry
theorem dL_law_245 : decode cL_law 245 = .ok (.aload_n 2, 1) := sorry
theorem dL_law_246 : decode cL_law 246 = .ok (.invokevirtual 135, 3) := sorry
theorem dL_law_249 : decode cL_law 249 = .ok (.iload 5, 2) := sorry
theorem dL_law_251 : decode cL_law 251 = .ok (.if_icmp .eq 5, 3) := sorry
theorem dL_law_254 : decode cL_law 254 = .ok (.iconst 0, 1) := sorry
theorem dL_law_255 : decode cL_law 255 = .ok (.ireturn, 1) := sorry
theorem dL_law_256 : decode cL_law 256 = .ok (.iload 5, 2) := sorry
theorem dL_law_258 : decode cL_law 258 = .ok (.ifCond .ne 15, 3) := sorry
theorem dL_law_261 : decode cL_law 261 = .ok (.aload_n 3, 1) := sorry
theorem dL_law_262 : decode cL_law 262 = .ok (.iconst 0, 1) := sorry
theorem dL_law_263 : decode cL_law 263 = .ok (.laload, 1) := sorry
theorem dL_law_264 : decode cL_law 264 = .ok (.iload 6, 2) := sorry
theorem dL_law_266 : decode cL_law 266 = .ok (.i2l, 1) := sorry
theorem dL_law_267 : decode cL_law 267 = .ok (.lcmp, 1) := sorry
theorem dL_law_268 : decode cL_law 268 = .ok (.ifCond .eq 5, 3) := sorry
theorem dL_law_271 : decode cL_law 271 = .ok (.iconst 0, 1) := sorry
theorem dL_law_272 : decode cL_law 272 = .ok (.ireturn, 1) := sorry
theorem dL_law_273 : decode cL_law 273 = .ok (.goto 2511, 3) := sorry
theorem dL_law_276 : decode cL_law 276 = .ok (.aload_n 1, 1) := sorry
theorem dL_law_277 : decode cL_law 277 = .ok (.aload_n 0, 1) := sorry
theorem dL_law_278 : decode cL_law 278 = .ok (.iload 4, 2) := sorry
theorem dL_law_280 : decode cL_law 280 = .ok (.iconst 1, 1) := sorry
theorem dL_law_281 : decode cL_law 281 = .ok (.iadd, 1) := sorry
theorem dL_law_282 : decode cL_law 282 = .ok (.iaload, 1) := sorry
theorem dL_law_283 : decode cL_law 283 = .ok (.aload_n 0, 1) := sorry
theorem dL_law_284 : decode cL_law 284 = .ok (.iload 4, 2) := sorry
theorem dL_law_286 : decode cL_law 286 = .ok (.iconst 2, 1) := sorry
theorem dL_law_287 : decode cL_law 287 = .ok (.iadd, 1) := sorry
theorem dL_law_288 : decode cL_law 288 = .ok (.iaload, 1) := sorry
theorem dL_law_289 : decode cL_law 289 = .ok (.aload_n 0, 1) := sorry
theorem dL_law_290 : decode cL_law 290 = .ok (.iload 4, 2) := sorry
theorem dL_law_292 : decode cL_law 292 = .ok (.iconst 3, 1) := sorry
theorem dL_law_293 : decode cL_law 293 = .ok (.iadd, 1) := sorry
theorem dL_law_294 : decode cL_law 294 = .ok (.iaload, 1) := sorry
theorem dL_law_295 : decode cL_law 295 = .ok (.aload_n 0, 1) := sorry
theorem dL_law_296 : decode cL_law 296 = .ok (.iload 4, 2) := sorry
theorem dL_law_298 : decode cL_law 298 = .ok (.iconst 4, 1) := sorry
theorem dL_law_299 : decode cL_law 299 = .ok (.iadd, 1) := sorry
theorem dL_law_300 : decode cL_law 300 = .ok (.iaload, 1) := sorry
theorem dL_law_301 : decode cL_law 301 = .ok (.aload_n 3, 1) := sorry
theorem dL_law_302 : decode cL_law 302 = .ok (.invokestatic 139, 3) := sorry
theorem dL_law_305 : decode cL_law 305 = .ok (.istore 5, 2) := sorry
theorem dL_law_307 : decode cL_law 307 = .ok (.aload_n 2, 1) := sorry
theorem dL_law_308 : decode cL_law 308 = .ok (.aload_n 0, 1) := sorry
theorem dL_law_309 : decode cL_law 309 = .ok (.iload 4, 2) := sorry
theorem dL_law_311 : decode cL_law 311 = .ok (.iconst 1, 1) := sorry
theorem dL_law_312 : decode cL_law 312 = .ok (.iadd, 1) := sorry
theorem dL_law_313 : decode cL_law 313 = .ok (.iaload, 1) := sorry
theorem dL_law_314 : decode cL_law 314 = .ok (.aload_n 0, 1) := sorry
theorem dL_law_315 : decode cL_law 315 = .ok (.iload 4, 2) := sorry
theorem dL_law_317 : decode cL_law 317 = .ok (.iconst 2, 1) := sorry
theorem dL_law_318 : decode cL_law 318 = .ok (.iadd, 1) := sorry
theorem dL_law_319 : decode cL_law 319 = .ok (.iaload, 1) := sorry
theorem dL_law_320 : decode cL_law 320 = .ok (.aload_n 0, 1) := sorry
theorem dL_law_321 : decode cL_law 321 = .ok (.iload 4, 2) := sorry
theorem dL_law_323 : decode cL_law 323 = .ok (.iconst 3, 1) := sorry
theorem dL_law_324 : decode cL_law 324 = .ok (.iadd, 1) := sorry
theorem dL_law_325 : decode cL_law 325 = .ok (.iaload, 1) := sorry
theorem dL_law_326 : decode cL_law 326 = .ok (.aload_n 0, 1) := sorry
theorem dL_law_327 : decode cL_law 327 = .ok (.iload 4, 2) := sorry
theorem dL_law_329 : decode cL_law 329 = .ok (.iconst 4, 1) := sorry
theorem dL_law_330 : decode cL_law 330 = .ok (.iadd, 1) := sorry
theorem dL_law_331 : decode cL_law 331 = .ok (.iaload, 1) := sorry
theorem dL_law_332 : decode cL_law 332 = .ok (.invokevirtual 142, 3) := sorry
theorem dL_law_335 : decode cL_law 335 = .ok (.istore 6, 2) := sorry
theorem dL_law_337 : decode cL_law 337 = .ok (.aload_n 2, 1) := sorry
theorem dL_law_338 : decode cL_law 338 = .ok (.invokevirtual 135, 3) := sorry
theorem dL_law_341 : decode cL_law 341 = .ok (.iload 5, 2) := sorry
theorem dL_law_343 : decode cL_law 343 = .ok (.if_icmp .eq 5, 3) := sorry
theorem dL_law_346 : decode cL_law 346 = .ok (.iconst 0, 1) := sorry
theorem dL_law_347 : decode cL_law 347 = .ok (.ireturn, 1) := sorry
theorem dL_law_348 : decode cL_law 348 = .ok (.iload 5, 2) := sorry
theorem dL_law_350 : decode cL_law 350 = .ok (.ifCond .ne 15, 3) := sorry
theorem dL_law_353 : decode cL_law 353 = .ok (.aload_n 3, 1) := sorry
theorem dL_law_354 : decode cL_law 354 = .ok (.iconst 0, 1) := sorry
theorem dL_law_355 : decode cL_law 355 = .ok (.laload, 1) := sorry
theorem dL_law_356 : decode cL_law 356 = .ok (.iload 6, 2) := sorry
theorem dL_law_358 : decode cL_law 358 = .ok (.i2l, 1) := sorry
theorem dL_law_359 : decode cL_law 359 = .ok (.lcmp, 1) := sorry
theorem dL_law_360 : decode cL_law 360 = .ok (.ifCond .eq 5, 3) := sorry
theorem dL_law_363 : decode cL_law 363 = .ok (.iconst 0, 1) := sorry
theorem dL_law_364 : decode cL_law 364 = .ok (.ireturn, 1) := sorry
theorem dL_law_365 : decode cL_law 365 = .ok (.goto 2419, 3) := sorry
theorem dL_law_368 : decode cL_law 368 = .ok (.aload_n 1, 1) := sorry
theorem dL_law_369 : decode cL_law 369 = .ok (.aload_n 0, 1) := sorry
theorem dL_law_370 : decode cL_law 370 = .ok (.iload 4, 2) := sorry
theorem dL_law_372 : decode cL_law 372 = .ok (.iconst 1, 1) := sorry
theorem dL_law_373 : decode cL_law 373 = .ok (.iadd, 1) := sorry
theorem dL_law_374 : decode cL_law 374 = .ok (.iaload, 1) := sorry
theorem dL_law_375 : decode cL_law 375 = .ok (.aload_n 0, 1) := sorry
theorem dL_law_376 : decode cL_law 376 = .ok (.iload 4, 2) := sorry
theorem dL_law_378 : decode cL_law 378 = .ok (.iconst 2, 1) := sorry
theorem dL_law_379 : decode cL_law 379 = .ok (.iadd, 1) := sorry
theorem dL_law_380 : decode cL_law 380 = .ok (.iaload, 1) := sorry
theorem dL_law_381 : decode cL_law 381 = .ok (.aload_n 0, 1) := sorry
theorem dL_law_382 : decode cL_law 382 = .ok (.iload 4, 2) := sorry
theorem dL_law_384 : decode cL_law 384 = .ok (.iconst 3, 1) := sorry
theorem dL_law_385 : decode cL_law 385 = .ok (.iadd, 1) := sorry
theorem dL_law_386 : decode cL_law 386 = .ok (.iaload, 1) := sorry
theorem dL_law_387 : decode cL_law 387 = .ok (.aload_n 0, 1) := sorry
theorem dL_law_388 : decode cL_law 388 = .ok (.iload 4, 2) := sorry
theorem dL_law_390 : decode cL_law 390 = .ok (.iconst 4, 1) := sorry
theorem dL_law_391 : decode cL_law 391 = .ok (.iadd, 1) := sorry
theorem dL_law_392 : decode cL_law 392 = .ok (.iaload, 1) := sorry
theorem dL_law_393 : decode cL_law 393 = .ok (.aload_n 3, 1) := sorry
theorem dL_law_394 : decode cL_law 394 = .ok (.invokestatic 143, 3) := sorry
theorem dL_law_397 : decode cL_law 397 = .ok (.istore 5, 2) := sorry
theorem dL_law_399 : decode cL_law 399 = .ok (.aload_n 2, 1) := sorry
theorem dL_law_400 : decode cL_law 400 = .ok (.aload_n 0, 1) := sorry
theorem dL_law_401 : decode cL_law 401 = .ok (.iload 4, 2) := sorry
theorem dL_law_403 : decode cL_law 403 = .ok (.iconst 1, 1) := sorry
theorem dL_law_404 : decode cL_law 404 = .ok (.iadd, 1) := sorry
theorem dL_law_405 : decode cL_law 405 = .ok (.iaload, 1) := sorry
theorem dL_law_406 : decode cL_law 406 = .ok (.aload_n 0, 1) := sorry
theorem dL_law_407 : decode cL_law 407 = .ok (.iload 4, 2) := sorry
theorem dL_law_409 : decode cL_law 409 = .ok (.iconst 2, 1) := sorry
theorem dL_law_410 : decode cL_law 410 = .ok (.iadd, 1) := sorry
theorem dL_law_411 : decode cL_law 411 = .ok (.iaload, 1) := sorry
theorem dL_law_412 : decode cL_law 412 = .ok (.aload_n 0, 1) := sorry
theorem dL_law_413 : decode cL_law 413 = .ok (.iload 4, 2) := sorry
theorem dL_law_415 : decode cL_law 415 = .ok (.iconst 3, 1) := sorry
theorem dL_law_416 : decode cL_law 416 = .ok (.iadd, 1) := sorry
theorem dL_law_417 : decode cL_law 417 = .ok (.iaload, 1) := sorry
theorem dL_law_418 : decode cL_law 418 = .ok (.aload_n 0, 1) := sorry
theorem dL_law_419 : decode cL_law 419 = .ok (.iload 4, 2) := sorry
theorem dL_law_421 : decode cL_law 421 = .ok (.iconst 4, 1) := sorry
theorem dL_law_422 : decode cL_law 422 = .ok (.iadd, 1) := sorry
theorem dL_law_423 : decode cL_law 423 = .ok (.iaload, 1) := sorry
theorem dL_law_424 : decode cL_law 424 = .ok (.invokevirtual 145, 3) := sorry
theorem dL_law_427 : decode cL_law 427 = .ok (.istore 6, 2) := sorry
theorem dL_law_429 : decode cL_law 429 = .ok (.aload_n 2, 1) := sorry
theorem dL_law_430 : decode cL_law 430 = .ok (.invokevirtual 135, 3) := sorry
theorem dL_law_433 : decode cL_law 433 = .ok (.iload 5, 2) := sorry
theorem dL_law_435 : decode cL_law 435 = .ok (.if_icmp .eq 5, 3) := sorry
theorem dL_law_438 : decode cL_law 438 = .ok (.iconst 0, 1) := sorry
theorem dL_law_439 : decode cL_law 439 = .ok (.ireturn, 1) := sorry
theorem dL_law_440 : decode cL_law 440 = .ok (.iload 5, 2) := sorry
theorem dL_law_442 : decode cL_law 442 = .ok (.ifCond .ne 15, 3) := sorry
theorem dL_law_445 : decode cL_law 445 = .ok (.aload_n 3, 1) := sorry
theorem dL_law_446 : decode cL_law 446 = .ok (.iconst 0, 1) := sorry
theorem dL_law_447 : decode cL_law 447 = .ok (.laload, 1) := sorry
theorem dL_law_448 : decode cL_law 448 = .ok (.iload 6, 2) := sorry
theorem dL_law_450 : decode cL_law 450 = .ok (.i2l, 1) := sorry
theorem dL_law_451 : decode cL_law 451 = .ok (.lcmp, 1) := sorry
theorem dL_law_452 : decode cL_law 452 = .ok (.ifCond .eq 5, 3) := sorry
theorem dL_law_455 : decode cL_law 455 = .ok (.iconst 0, 1) := sorry
theorem dL_law_456 : decode cL_law 456 = .ok (.ireturn, 1) := sorry
theorem dL_law_457 : decode cL_law 457 = .ok (.goto 2327, 3) := sorry
theorem dL_law_460 : decode cL_law 460 = .ok (.aload_n 1, 1) := sorry
theorem dL_law_461 : decode cL_law 461 = .ok (.aload_n 0, 1) := sorry
theorem dL_law_462 : decode cL_law 462 = .ok (.iload 4, 2) := sorry
theorem dL_law_464 : decode cL_law 464 = .ok (.iconst 1, 1) := sorry
theorem dL_law_465 : decode cL_law 465 = .ok (.iadd, 1) := sorry
theorem dL_law_466 : decode cL_law 466 = .ok (.iaload, 1) := sorry
theorem dL_law_467 : decode cL_law 467 = .ok (.aload_n 0, 1) := sorry
theorem dL_law_468 : decode cL_law 468 = .ok (.iload 4, 2) := sorry
theorem dL_law_470 : decode cL_law 470 = .ok (.iconst 2, 1) := sorry
theorem dL_law_471 : decode cL_law 471 = .ok (.iadd, 1) := sorry
theorem dL_law_472 : decode cL_law 472 = .ok (.iaload, 1) := sorry
theorem dL_law_473 : decode cL_law 473 = .ok (.aload_n 0, 1) := sorry
theorem dL_law_474 : decode cL_law 474 = .ok (.iload 4, 2) := sorry
theorem dL_law_476 : decode cL_law 476 = .ok (.iconst 3, 1) := sorry
theorem dL_law_477 : decode cL_law 477 = .ok (.iadd, 1) := sorry
theorem dL_law_478 : decode cL_law 478 = .ok (.iaload, 1) := sorry
theorem dL_law_479 : decode cL_law 479 = .ok (.aload_n 0, 1) := sorry
theorem dL_law_480 : decode cL_law 480 = .ok (.iload 4, 2) := sorry
theorem dL_law_482 : decode cL_law 482 = .ok (.iconst 4, 1) := sorry
theorem dL_law_483 : decode cL_law 483 = .ok (.iadd, 1) := sorry
theorem dL_law_484 : decode cL_law 484 = .ok (.iaload, 1) := sorry
theorem dL_law_485 : decode cL_law 485 = .ok (.aload_n 0, 1) := sorry
theorem dL_law_486 : decode cL_law 486 = .ok (.iload 4, 2) := sorry
theorem dL_law_488 : decode cL_law 488 = .ok (.iconst 5, 1) := sorry
theorem dL_law_489 : decode cL_law 489 = .ok (.iadd, 1) := sorry
theorem dL_law_490 : decode cL_law 490 = .ok (.iaload, 1) := sorry
theorem dL_law_491 : decode cL_law 491 = .ok (.aload_n 3, 1) := sorry
theorem dL_law_492 : decode cL_law 492 = .ok (.invokestatic 146, 3) := sorry
theorem dL_law_495 : decode cL_law 495 = .ok (.istore 5, 2) := sorry
theorem dL_law_497 : decode cL_law 497 = .ok (.aload_n 2, 1) := sorry
theorem dL_law_498 : decode cL_law 498 = .ok (.aload_n 0, 1) := sorry
theorem dL_law_499 : decode cL_law 499 = .ok (.iload 4, 2) := sorry
theorem dL_law_501 : decode cL_law 501 = .ok (.iconst 1, 1) := sorry
theorem dL_law_502 : decode cL_law 502 = .ok (.iadd, 1) := sorry
theorem dL_law_503 : decode cL_law 503 = .ok (.iaload, 1) := sorry
theorem dL_law_504 : decode cL_law 504 = .ok (.aload_n 0, 1) := sorry
theorem dL_law_505 : decode cL_law 505 = .ok (.iload 4, 2) := sorry
theorem dL_law_507 : decode cL_law 507 = .ok (.iconst 2, 1) := sorry
theorem dL_law_508 : decode cL_law 508 = .ok (.iadd, 1) := sorry
theorem dL_law_509 : decode cL_law 509 = .ok (.iaload, 1) := sorry
theorem dL_law_510 : decode cL_law 510 = .ok (.aload_n 0, 1) := sorry
theorem dL_law_511 : decode cL_law 511 = .ok (.iload 4, 2) := sorry
theorem dL_law_513 : decode cL_law 513 = .ok (.iconst 3, 1) := sorry
theorem dL_law_514 : decode cL_law 514 = .ok (.iadd, 1) := sorry
theorem dL_law_515 : decode cL_law 515 = .ok (.iaload, 1) := sorry
theorem dL_law_516 : decode cL_law 516 = .ok (.aload_n 0, 1) := sorry
theorem dL_law_517 : decode cL_law 517 = .ok (.iload 4, 2) := sorry
theorem dL_law_519 : decode cL_law 519 = .ok (.iconst 4, 1) := sorry
theorem dL_law_520 : decode cL_law 520 = .ok (.iadd, 1) := sorry
theorem dL_law_521 : decode cL_law 521 = .ok (.iaload, 1) := sorry
theorem dL_law_522 : decode cL_law 522 = .ok (.aload_n 0, 1) := sorry
theorem dL_law_523 : decode cL_law 523 = .ok (.iload 4, 2) := sorry
theorem dL_law_525 : decode cL_law 525 = .ok (.iconst 5, 1) := sorry
theorem dL_law_526 : decode cL_law 526 = .ok (.iadd, 1) := sorry
theorem dL_law_527 : decode cL_law 527 = .ok (.iaload, 1) := sorry
theorem dL_law_528 : decode cL_law 528 = .ok (.invokevirtual 149, 3) := sorry
theorem dL_law_531 : decode cL_law 531 = .ok (.istore 6, 2) := sorry
theorem dL_law_533 : decode cL_law 533 = .ok (.aload_n 2, 1) := sorry
theorem dL_law_534 : decode cL_law 534 = .ok (.invokevirtual 135, 3) := sorry
theorem dL_law_537 : decode cL_law 537 = .ok (.iload 5, 2) := sorry
theorem dL_law_539 : decode cL_law 539 = .ok (.if_icmp .eq 5, 3) := sorry
theorem dL_law_542 : decode cL_law 542 = .ok (.iconst 0, 1) := sorry
theorem dL_law_543 : decode cL_law 543 = .ok (.ireturn, 1) := sorry
theorem dL_law_544 : decode cL_law 544 = .ok (.iload 5, 2) := sorry
theorem dL_law_546 : decode cL_law 546 = .ok (.ifCond .ne 15, 3) := sorry
theorem dL_law_549 : decode cL_law 549 = .ok (.aload_n 3, 1) := sorry
theorem dL_law_550 : decode cL_law 550 = .ok (.iconst 0, 1) := sorry
theorem dL_law_551 : decode cL_law 551 = .ok (.laload, 1) := sorry
theorem dL_law_552 : decode cL_law 552 = .ok (.iload 6, 2) := sorry
theorem dL_law_554 : decode cL_law 554 = .ok (.i2l, 1) := sorry
theorem dL_law_555 : decode cL_law 555 = .ok (.lcmp, 1) := sorry
theorem dL_law_556 : decode cL_law 556 = .ok (.ifCond .eq 5, 3) := sorry
theorem dL_law_559 : decode cL_law 559 = .ok (.iconst 0, 1) := sorry
theorem dL_law_560 : decode cL_law 560 = .ok (.ireturn, 1) := sorry
theorem dL_law_561 : decode cL_law 561 = .ok (.goto 2223, 3) := sorry
theorem dL_law_564 : decode cL_law 564 = .ok (.aload_n 1, 1) := sorry
theorem dL_law_565 : decode cL_law 565 = .ok (.aload_n 0, 1) := sorry
theorem dL_law_566 : decode cL_law 566 = .ok (.iload 4, 2) := sorry
theorem dL_law_568 : decode cL_law 568 = .ok (.iconst 1, 1) := sorry
theorem dL_law_569 : decode cL_law 569 = .ok (.iadd, 1) := sorry
theorem dL_law_570 : decode cL_law 570 = .ok (.iaload, 1) := sorry
theorem dL_law_571 : decode cL_law 571 = .ok (.aload_n 3, 1) := sorry
theorem dL_law_572 : decode cL_law 572 = .ok (.invokestatic 150, 3) := sorry
theorem dL_law_575 : decode cL_law 575 = .ok (.istore 5, 2) := sorry
theorem dL_law_577 : decode cL_law 577 = .ok (.aload_n 2, 1) := sorry
theorem dL_law_578 : decode cL_law 578 = .ok (.aload_n 0, 1) := sorry
theorem dL_law_579 : decode cL_law 579 = .ok (.iload 4, 2) := sorry
theorem dL_law_581 : decode cL_law 581 = .ok (.iconst 1, 1) := sorry
theorem dL_law_582 : decode cL_law 582 = .ok (.iadd, 1) := sorry
theorem dL_law_583 : decode cL_law 583 = .ok (.iaload, 1) := sorry
theorem dL_law_584 : decode cL_law 584 = .ok (.invokevirtual 152, 3) := sorry
theorem dL_law_587 : decode cL_law 587 = .ok (.istore 6, 2) := sorry
theorem dL_law_589 : decode cL_law 589 = .ok (.aload_n 2, 1) := sorry
theorem dL_law_590 : decode cL_law 590 = .ok (.invokevirtual 135, 3) := sorry
theorem dL_law_593 : decode cL_law 593 = .ok (.iload 5, 2) := sorry
theorem dL_law_595 : decode cL_law 595 = .ok (.if_icmp .eq 5, 3) := sorry
theorem dL_law_598 : decode cL_law 598 = .ok (.iconst 0, 1) := sorry
theorem dL_law_599 : decode cL_law 599 = .ok (.ireturn, 1) := sorry
theorem dL_law_600 : decode cL_law 600 = .ok (.iload 5, 2) := sorry
theorem dL_law_602 : decode cL_law 602 = .ok (.ifCond .ne 15, 3) := sorry
theorem dL_law_605 : decode cL_law 605 = .ok (.aload_n 3, 1) := sorry
theorem dL_law_606 : decode cL_law 606 = .ok (.iconst 0, 1) := sorry
theorem dL_law_607 : decode cL_law 607 = .ok (.laload, 1) := sorry
theorem dL_law_608 : decode cL_law 608 = .ok (.iload 6, 2) := sorry
theorem dL_law_610 : decode cL_law 610 = .ok (.i2l, 1) := sorry
theorem dL_law_611 : decode cL_law 611 = .ok (.lcmp, 1) := sorry
theorem dL_law_612 : decode cL_law 612 = .ok (.ifCond .eq 5, 3) := sorry
theorem dL_law_615 : decode cL_law 615 = .ok (.iconst 0, 1) := sorry
theorem dL_law_616 : decode cL_law 616 = .ok (.ireturn, 1) := sorry
theorem dL_law_617 : decode cL_law 617 = .ok (.goto 2167, 3) := sorry
theorem dL_law_620 : decode cL_law 620 = .ok (.aload_n 1, 1) := sorry
theorem dL_law_621 : decode cL_law 621 = .ok (.aload_n 0, 1) := sorry
theorem dL_law_622 : decode cL_law 622 = .ok (.iload 4, 2) := sorry
theorem dL_law_624 : decode cL_law 624 = .ok (.iconst 1, 1) := sorry
theorem dL_law_625 : decode cL_law 625 = .ok (.iadd, 1) := sorry
theorem dL_law_626 : decode cL_law 626 = .ok (.iaload, 1) := sorry
theorem dL_law_627 : decode cL_law 627 = .ok (.aload_n 0, 1) := sorry
theorem dL_law_628 : decode cL_law 628 = .ok (.iload 4, 2) := sorry
theorem dL_law_630 : decode cL_law 630 = .ok (.iconst 2, 1) := sorry
theorem dL_law_631 : decode cL_law 631 = .ok (.iadd, 1) := sorry
theorem dL_law_632 : decode cL_law 632 = .ok (.iaload, 1) := sorry
theorem dL_law_633 : decode cL_law 633 = .ok (.aload_n 3, 1) := sorry
theorem dL_law_634 : decode cL_law 634 = .ok (.invokestatic 153, 3) := sorry
theorem dL_law_637 : decode cL_law 637 = .ok (.istore 5, 2) := sorry
theorem dL_law_639 : decode cL_law 639 = .ok (.aload_n 2, 1) := sorry
theorem dL_law_640 : decode cL_law 640 = .ok (.aload_n 0, 1) := sorry
theorem dL_law_641 : decode cL_law 641 = .ok (.iload 4, 2) := sorry
theorem dL_law_643 : decode cL_law 643 = .ok (.iconst 1, 1) := sorry
theorem dL_law_644 : decode cL_law 644 = .ok (.iadd, 1) := sorry
theorem dL_law_645 : decode cL_law 645 = .ok (.iaload, 1) := sorry
theorem dL_law_646 : decode cL_law 646 = .ok (.aload_n 0, 1) := sorry
theorem dL_law_647 : decode cL_law 647 = .ok (.iload 4, 2) := sorry
theorem dL_law_649 : decode cL_law 649 = .ok (.iconst 2, 1) := sorry
theorem dL_law_650 : decode cL_law 650 = .ok (.iadd, 1) := sorry
theorem dL_law_651 : decode cL_law 651 = .ok (.iaload, 1) := sorry
theorem dL_law_652 : decode cL_law 652 = .ok (.invokevirtual 156, 3) := sorry
theorem dL_law_655 : decode cL_law 655 = .ok (.istore 6, 2) := sorry
theorem dL_law_657 : decode cL_law 657 = .ok (.aload_n 2, 1) := sorry
theorem dL_law_658 : decode cL_law 658 = .ok (.invokevirtual 135, 3) := sorry
theorem dL_law_661 : decode cL_law 661 = .ok (.iload 5, 2) := sorry
theorem dL_law_663 : decode cL_law 663 = .ok (.if_icmp .eq 5, 3) := sorry
theorem dL_law_666 : decode cL_law 666 = .ok (.iconst 0, 1) := sorry
theorem dL_law_667 : decode cL_law 667 = .ok (.ireturn, 1) := sorry
theorem dL_law_668 : decode cL_law 668 = .ok (.iload 5, 2) := sorry
theorem dL_law_670 : decode cL_law 670 = .ok (.ifCond .ne 15, 3) := sorry
theorem dL_law_673 : decode cL_law 673 = .ok (.aload_n 3, 1) := sorry
theorem dL_law_674 : decode cL_law 674 = .ok (.iconst 0, 1) := sorry
theorem dL_law_675 : decode cL_law 675 = .ok (.laload, 1) := sorry
theorem dL_law_676 : decode cL_law 676 = .ok (.iload 6, 2) := sorry
theorem dL_law_678 : decode cL_law 678 = .ok (.i2l, 1) := sorry
theorem dL_law_679 : decode cL_law 679 = .ok (.lcmp, 1) := sorry
theorem dL_law_680 : decode cL_law 680 = .ok (.ifCond .eq 5, 3) := sorry
theorem dL_law_683 : decode cL_law 683 = .ok (.iconst 0, 1) := sorry
theorem dL_law_684 : decode cL_law 684 = .ok (.ireturn, 1) := sorry
theorem dL_law_685 : decode cL_law 685 = .ok (.goto 2099, 3) := sorry
theorem dL_law_688 : decode cL_law 688 = .ok (.aload_n 1, 1) := sorry
theorem dL_law_689 : decode cL_law 689 = .ok (.aload_n 0, 1) := sorry
theorem dL_law_690 : decode cL_law 690 = .ok (.iload 4, 2) := sorry
theorem dL_law_692 : decode cL_law 692 = .ok (.iconst 1, 1) := sorry
theorem dL_law_693 : decode cL_law 693 = .ok (.iadd, 1) := sorry
theorem dL_law_694 : decode cL_law 694 = .ok (.iaload, 1) := sorry
theorem dL_law_695 : decode cL_law 695 = .ok (.aload_n 0, 1) := sorry
theorem dL_law_696 : decode cL_law 696 = .ok (.iload 4, 2) := sorry
theorem dL_law_698 : decode cL_law 698 = .ok (.iconst 2, 1) := sorry
theorem dL_law_699 : decode cL_law 699 = .ok (.iadd, 1) := sorry
theorem dL_law_700 : decode cL_law 700 = .ok (.iaload, 1) := sorry
theorem dL_law_701 : decode cL_law 701 = .ok (.aload_n 3, 1) := sorry
theorem dL_law_702 : decode cL_law 702 = .ok (.invokestatic 157, 3) := sorry
theorem dL_law_705 : decode cL_law 705 = .ok (.istore 5, 2) := sorry
theorem dL_law_707 : decode cL_law 707 = .ok (.aload_n 2, 1) := sorry
theorem dL_law_708 : decode cL_law 708 = .ok (.aload_n 0, 1) := sorry
theorem dL_law_709 : decode cL_law 709 = .ok (.iload 4, 2) := sorry
theorem dL_law_711 : decode cL_law 711 = .ok (.iconst 1, 1) := sorry
theorem dL_law_712 : decode cL_law 712 = .ok (.iadd, 1) := sorry
theorem dL_law_713 : decode cL_law 713 = .ok (.iaload, 1) := sorry
theorem dL_law_714 : decode cL_law 714 = .ok (.aload_n 0, 1) := sorry
theorem dL_law_715 : decode cL_law 715 = .ok (.iload 4, 2) := sorry
theorem dL_law_717 : decode cL_law 717 = .ok (.iconst 2, 1) := sorry
theorem dL_law_718 : decode cL_law 718 = .ok (.iadd, 1) := sorry
theorem dL_law_719 : decode cL_law 719 = .ok (.iaload, 1) := sorry
theorem dL_law_720 : decode cL_law 720 = .ok (.invokevirtual 159, 3) := sorry
theorem dL_law_723 : decode cL_law 723 = .ok (.istore 6, 2) := sorry
theorem dL_law_725 : decode cL_law 725 = .ok (.aload_n 2, 1) := sorry
theorem dL_law_726 : decode cL_law 726 = .ok (.invokevirtual 135, 3) := sorry
theorem dL_law_729 : decode cL_law 729 = .ok (.iload 5, 2) := sorry
theorem dL_law_731 : decode cL_law 731 = .ok (.if_icmp .eq 5, 3) := sorry
theorem dL_law_734 : decode cL_law 734 = .ok (.iconst 0, 1) := sorry
theorem dL_law_735 : decode cL_law 735 = .ok (.ireturn, 1) := sorry
theorem dL_law_736 : decode cL_law 736 = .ok (.iload 5, 2) := sorry
theorem dL_law_738 : decode cL_law 738 = .ok (.ifCond .ne 15, 3) := sorry
theorem dL_law_741 : decode cL_law 741 = .ok (.aload_n 3, 1) := sorry
theorem dL_law_742 : decode cL_law 742 = .ok (.iconst 0, 1) := sorry
theorem dL_law_743 : decode cL_law 743 = .ok (.laload, 1) := sorry
theorem dL_law_744 : decode cL_law 744 = .ok (.iload 6, 2) := sorry
theorem dL_law_746 : decode cL_law 746 = .ok (.i2l, 1) := sorry
theorem dL_law_747 : decode cL_law 747 = .ok (.lcmp, 1) := sorry
theorem dL_law_748 : decode cL_law 748 = .ok (.ifCond .eq 5, 3) := sorry
theorem dL_law_751 : decode cL_law 751 = .ok (.iconst 0, 1) := sorry
theorem dL_law_752 : decode cL_law 752 = .ok (.ireturn, 1) := sorry
theorem dL_law_753 : decode cL_law 753 = .ok (.goto 2031, 3) := sorry
theorem dL_law_756 : decode cL_law 756 = .ok (.aload_n 1, 1) := sorry
theorem dL_law_757 : decode cL_law 757 = .ok (.aload_n 0, 1) := sorry
theorem dL_law_758 : decode cL_law 758 = .ok (.iload 4, 2) := sorry
theorem dL_law_760 : decode cL_law 760 = .ok (.iconst 1, 1) := sorry
theorem dL_law_761 : decode cL_law 761 = .ok (.iadd, 1) := sorry
theorem dL_law_762 : decode cL_law 762 = .ok (.iaload, 1) := sorry
theorem dL_law_763 : decode cL_law 763 = .ok (.aload_n 0, 1) := sorry
theorem dL_law_764 : decode cL_law 764 = .ok (.iload 4, 2) := sorry
theorem dL_law_766 : decode cL_law 766 = .ok (.iconst 2, 1) := sorry
theorem dL_law_767 : decode cL_law 767 = .ok (.iadd, 1) := sorry
theorem dL_law_768 : decode cL_law 768 = .ok (.iaload, 1) := sorry
theorem dL_law_769 : decode cL_law 769 = .ok (.aload_n 0, 1) := sorry
theorem dL_law_770 : decode cL_law 770 = .ok (.iload 4, 2) := sorry
theorem dL_law_772 : decode cL_law 772 = .ok (.iconst 3, 1) := sorry
theorem dL_law_773 : decode cL_law 773 = .ok (.iadd, 1) := sorry
theorem dL_law_774 : decode cL_law 774 = .ok (.iaload, 1) := sorry
theorem dL_law_775 : decode cL_law 775 = .ok (.aload_n 0, 1) := sorry
theorem dL_law_776 : decode cL_law 776 = .ok (.iload 4, 2) := sorry
theorem dL_law_778 : decode cL_law 778 = .ok (.iconst 4, 1) := sorry
theorem dL_law_779 : decode cL_law 779 = .ok (.iadd, 1) := sorry
theorem dL_law_780 : decode cL_law 780 = .ok (.iaload, 1) := sorry
theorem dL_law_781 : decode cL_law 781 = .ok (.aload_n 3, 1) := sorry
theorem dL_law_782 : decode cL_law 782 = .ok (.invokestatic 160, 3) := sorry
theorem dL_law_785 : decode cL_law 785 = .ok (.istore 5, 2) := sorry
theorem dL_law_787 : decode cL_law 787 = .ok (.aload_n 2, 1) := sorry
theorem dL_law_788 : decode cL_law 788 = .ok (.aload_n 0, 1) := sorry
theorem dL_law_789 : decode cL_law 789 = .ok (.iload 4, 2) := sorry
theorem dL_law_791 : decode cL_law 791 = .ok (.iconst 1, 1) := sorry
theorem dL_law_792 : decode cL_law 792 = .ok (.iadd, 1) := sorry
theorem dL_law_793 : decode cL_law 793 = .ok (.iaload, 1) := sorry
theorem dL_law_794 : decode cL_law 794 = .ok (.aload_n 0, 1) := sorry
theorem dL_law_795 : decode cL_law 795 = .ok (.iload 4, 2) := sorry
theorem dL_law_797 : decode cL_law 797 = .ok (.iconst 2, 1) := sorry
theorem dL_law_798 : decode cL_law 798 = .ok (.iadd, 1) := sorry
theorem dL_law_799 : decode cL_law 799 = .ok (.iaload, 1) := sorry
theorem dL_law_800 : decode cL_law 800 = .ok (.aload_n 0, 1) := sorry
theorem dL_law_801 : decode cL_law 801 = .ok (.iload 4, 2) := sorry
theorem dL_law_803 : decode cL_law 803 = .ok (.iconst 3, 1) := sorry
theorem dL_law_804 : decode cL_law 804 = .ok (.iadd, 1) := sorry
theorem dL_law_805 : decode cL_law 805 = .ok (.iaload, 1) := sorry
theorem dL_law_806 : decode cL_law 806 = .ok (.aload_n 0, 1) := sorry
theorem dL_law_807 : decode cL_law 807 = .ok (.iload 4, 2) := sorry
theorem dL_law_809 : decode cL_law 809 = .ok (.iconst 4, 1) := sorry
theorem dL_law_810 : decode cL_law 810 = .ok (.iadd, 1) := sorry
theorem dL_law_811 : decode cL_law 811 = .ok (.iaload, 1) := sorry
theorem dL_law_812 : decode cL_law 812 = .ok (.invokevirtual 162, 3) := sorry
theorem dL_law_815 : decode cL_law 815 = .ok (.istore 6, 2) := sorry
theorem dL_law_817 : decode cL_law 817 = .ok (.aload_n 2, 1) := sorry
theorem dL_law_818 : decode cL_law 818 = .ok (.invokevirtual 135, 3) := sorry
theorem dL_law_821 : decode cL_law 821 = .ok (.iload 5, 2) := sorry
theorem dL_law_823 : decode cL_law 823 = .ok (.if_icmp .eq 5, 3) := sorry
theorem dL_law_826 : decode cL_law 826 = .ok (.iconst 0, 1) := sorry
theorem dL_law_827 : decode cL_law 827 = .ok (.ireturn, 1) := sorry
theorem dL_law_828 : decode cL_law 828 = .ok (.iload 5, 2) := sorry
theorem dL_law_830 : decode cL_law 830 = .ok (.ifCond .ne 15, 3) := sorry
theorem dL_law_833 : decode cL_law 833 = .ok (.aload_n 3, 1) := sorry
theorem dL_law_834 : decode cL_law 834 = .ok (.iconst 0, 1) := sorry
theorem dL_law_835 : decode cL_law 835 = .ok (.laload, 1) := sorry
theorem dL_law_836 : decode cL_law 836 = .ok (.iload 6, 2) := sorry
theorem dL_law_838 : decode cL_law 838 = .ok (.i2l, 1) := sorry
theorem dL_law_839 : decode cL_law 839 = .ok (.lcmp, 1) := sorry
theorem dL_law_840 : decode cL_law 840 = .ok (.ifCond .eq 5, 3) := sorry
theorem dL_law_843 : decode cL_law 843 = .ok (.iconst 0, 1) := sorry
theorem dL_law_844 : decode cL_law 844 = .ok (.ireturn, 1) := sorry
theorem dL_law_845 : decode cL_law 845 = .ok (.goto 1939, 3) := sorry
theorem dL_law_848 : decode cL_law 848 = .ok (.aload_n 1, 1) := sorry
theorem dL_law_849 : decode cL_law 849 = .ok (.aload_n 0, 1) := sorry
theorem dL_law_850 : decode cL_law 850 = .ok (.iload 4, 2) := sorry
theorem dL_law_852 : decode cL_law 852 = .ok (.iconst 1, 1) := sorry
theorem dL_law_853 : decode cL_law 853 = .ok (.iadd, 1) := sorry
theorem dL_law_854 : decode cL_law 854 = .ok (.iaload, 1) := sorry
theorem dL_law_855 : decode cL_law 855 = .ok (.aload_n 0, 1) := sorry
theorem dL_law_856 : decode cL_law 856 = .ok (.iload 4, 2) := sorry
theorem dL_law_858 : decode cL_law 858 = .ok (.iconst 2, 1) := sorry
theorem dL_law_859 : decode cL_law 859 = .ok (.iadd, 1) := sorry
theorem dL_law_860 : decode cL_law 860 = .ok (.iaload, 1) := sorry
theorem dL_law_861 : decode cL_law 861 = .ok (.aload_n 0, 1) := sorry
theorem dL_law_862 : decode cL_law 862 = .ok (.iload 4, 2) := sorry
theorem dL_law_864 : decode cL_law 864 = .ok (.iconst 3, 1) := sorry
theorem dL_law_865 : decode cL_law 865 = .ok (.iadd, 1) := sorry
theorem dL_law_866 : decode cL_law 866 = .ok (.iaload, 1) := sorry
theorem dL_law_867 : decode cL_law 867 = .ok (.aload_n 0, 1) := sorry
theorem dL_law_868 : decode cL_law 868 = .ok (.iload 4, 2) := sorry
theorem dL_law_870 : decode cL_law 870 = .ok (.iconst 4, 1) := sorry
theorem dL_law_871 : decode cL_law 871 = .ok (.iadd, 1) := sorry
theorem dL_law_872 : decode cL_law 872 = .ok (.iaload, 1) := sorry
theorem dL_law_873 : decode cL_law 873 = .ok (.aload_n 0, 1) := sorry
theorem dL_law_874 : decode cL_law 874 = .ok (.iload 4, 2) := sorry
theorem dL_law_876 : decode cL_law 876 = .ok (.iconst 5, 1) := sorry
theorem dL_law_877 : decode cL_law 877 = .ok (.iadd, 1) := sorry
theorem dL_law_878 : decode cL_law 878 = .ok (.iaload, 1) := sorry
theorem dL_law_879 : decode cL_law 879 = .ok (.aload_n 0, 1) := sorry
theorem dL_law_880 : decode cL_law 880 = .ok (.iload 4, 2) := sorry
theorem dL_law_882 : decode cL_law 882 = .ok (.bipush 6, 2) := sorry
theorem dL_law_884 : decode cL_law 884 = .ok (.iadd, 1) := sorry
theorem dL_law_885 : decode cL_law 885 = .ok (.iaload, 1) := sorry
theorem dL_law_886 : decode cL_law 886 = .ok (.ifCond .eq 7, 3) := sorry
theorem dL_law_889 : decode cL_law 889 = .ok (.iconst 1, 1) := sorry
theorem dL_law_890 : decode cL_law 890 = .ok (.goto 4, 3) := sorry
theorem dL_law_893 : decode cL_law 893 = .ok (.iconst 0, 1) := sorry
theorem dL_law_894 : decode cL_law 894 = .ok (.aload_n 3, 1) := sorry
theorem dL_law_895 : decode cL_law 895 = .ok (.invokestatic 163, 3) := sorry
theorem dL_law_898 : decode cL_law 898 = .ok (.istore 5, 2) := sorry
theorem dL_law_900 : decode cL_law 900 = .ok (.aload_n 2, 1) := sorry
theorem dL_law_901 : decode cL_law 901 = .ok (.aload_n 0, 1) := sorry
theorem dL_law_902 : decode cL_law 902 = .ok (.iload 4, 2) := sorry
theorem dL_law_904 : decode cL_law 904 = .ok (.iconst 1, 1) := sorry
theorem dL_law_905 : decode cL_law 905 = .ok (.iadd, 1) := sorry
theorem dL_law_906 : decode cL_law 906 = .ok (.iaload, 1) := sorry
theorem dL_law_907 : decode cL_law 907 = .ok (.aload_n 0, 1) := sorry
theorem dL_law_908 : decode cL_law 908 = .ok (.iload 4, 2) := sorry
theorem dL_law_910 : decode cL_law 910 = .ok (.iconst 2, 1) := sorry
theorem dL_law_911 : decode cL_law 911 = .ok (.iadd, 1) := sorry
theorem dL_law_912 : decode cL_law 912 = .ok (.iaload, 1) := sorry
theorem dL_law_913 : decode cL_law 913 = .ok (.aload_n 0, 1) := sorry
theorem dL_law_914 : decode cL_law 914 = .ok (.iload 4, 2) := sorry
theorem dL_law_916 : decode cL_law 916 = .ok (.iconst 3, 1) := sorry
theorem dL_law_917 : decode cL_law 917 = .ok (.iadd, 1) := sorry
theorem dL_law_918 : decode cL_law 918 = .ok (.iaload, 1) := sorry
theorem dL_law_919 : decode cL_law 919 = .ok (.aload_n 0, 1) := sorry
theorem dL_law_920 : decode cL_law 920 = .ok (.iload 4, 2) := sorry
theorem dL_law_922 : decode cL_law 922 = .ok (.iconst 4, 1) := sorry
theorem dL_law_923 : decode cL_law 923 = .ok (.iadd, 1) := sorry
theorem dL_law_924 : decode cL_law 924 = .ok (.iaload, 1) := sorry
theorem dL_law_925 : decode cL_law 925 = .ok (.aload_n 0, 1) := sorry
theorem dL_law_926 : decode cL_law 926 = .ok (.iload 4, 2) := sorry
theorem dL_law_928 : decode cL_law 928 = .ok (.iconst 5, 1) := sorry
theorem dL_law_929 : decode cL_law 929 = .ok (.iadd, 1) := sorry
theorem dL_law_930 : decode cL_law 930 = .ok (.iaload, 1) := sorry
theorem dL_law_931 : decode cL_law 931 = .ok (.aload_n 0, 1) := sorry
theorem dL_law_932 : decode cL_law 932 = .ok (.iload 4, 2) := sorry
theorem dL_law_934 : decode cL_law 934 = .ok (.bipush 6, 2) := sorry
theorem dL_law_936 : decode cL_law 936 = .ok (.iadd, 1) := sorry
theorem dL_law_937 : decode cL_law 937 = .ok (.iaload, 1) := sorry
theorem dL_law_938 : decode cL_law 938 = .ok (.ifCond .eq 7, 3) := sorry
theorem dL_law_941 : decode cL_law 941 = .ok (.iconst 1, 1) := sorry
theorem dL_law_942 : decode cL_law 942 = .ok (.goto 4, 3) := sorry
theorem dL_law_945 : decode cL_law 945 = .ok (.iconst 0, 1) := sorry
theorem dL_law_946 : decode cL_law 946 = .ok (.invokevirtual 166, 3) := sorry
theorem dL_law_949 : decode cL_law 949 = .ok (.istore 6, 2) := sorry
theorem dL_law_951 : decode cL_law 951 = .ok (.aload_n 2, 1) := sorry
theorem dL_law_952 : decode cL_law 952 = .ok (.invokevirtual 135, 3) := sorry
theorem dL_law_955 : decode cL_law 955 = .ok (.iload 5, 2) := sorry
theorem dL_law_957 : decode cL_law 957 = .ok (.if_icmp .eq 5, 3) := sorry
theorem dL_law_960 : decode cL_law 960 = .ok (.iconst 0, 1) := sorry
theorem dL_law_961 : decode cL_law 961 = .ok (.ireturn, 1) := sorry
theorem dL_law_962 : decode cL_law 962 = .ok (.iload 5, 2) := sorry
theorem dL_law_964 : decode cL_law 964 = .ok (.ifCond .ne 15, 3) := sorry
theorem dL_law_967 : decode cL_law 967 = .ok (.aload_n 3, 1) := sorry
theorem dL_law_968 : decode cL_law 968 = .ok (.iconst 0, 1) := sorry
theorem dL_law_969 : decode cL_law 969 = .ok (.laload, 1) := sorry
theorem dL_law_970 : decode cL_law 970 = .ok (.iload 6, 2) := sorry
theorem dL_law_972 : decode cL_law 972 = .ok (.i2l, 1) := sorry
theorem dL_law_973 : decode cL_law 973 = .ok (.lcmp, 1) := sorry
theorem dL_law_974 : decode cL_law 974 = .ok (.ifCond .eq 5, 3) := sorry
theorem dL_law_977 : decode cL_law 977 = .ok (.iconst 0, 1) := sorry
theorem dL_law_978 : decode cL_law 978 = .ok (.ireturn, 1) := sorry
theorem dL_law_979 : decode cL_law 979 = .ok (.goto 1805, 3) := sorry
theorem dL_law_982 : decode cL_law 982 = .ok (.aload_n 1, 1) := sorry
theorem dL_law_983 : decode cL_law 983 = .ok (.aload_n 0, 1) := sorry
theorem dL_law_984 : decode cL_law 984 = .ok (.iload 4, 2) := sorry
theorem dL_law_986 : decode cL_law 986 = .ok (.iconst 1, 1) := sorry
theorem dL_law_987 : decode cL_law 987 = .ok (.iadd, 1) := sorry
theorem dL_law_988 : decode cL_law 988 = .ok (.iaload, 1) := sorry
theorem dL_law_989 : decode cL_law 989 = .ok (.aload_n 3, 1) := sorry
theorem dL_law_990 : decode cL_law 990 = .ok (.invokestatic 167, 3) := sorry
theorem dL_law_993 : decode cL_law 993 = .ok (.istore 5, 2) := sorry
theorem dL_law_995 : decode cL_law 995 = .ok (.aload_n 2, 1) := sorry
theorem dL_law_996 : decode cL_law 996 = .ok (.aload_n 0, 1) := sorry
theorem dL_law_997 : decode cL_law 997 = .ok (.iload 4, 2) := sorry
theorem dL_law_999 : decode cL_law 999 = .ok (.iconst 1, 1) := sorry
theorem dL_law_1000 : decode cL_law 1000 = .ok (.iadd, 1) := sorry
theorem dL_law_1001 : decode cL_law 1001 = .ok (.iaload, 1) := sorry
theorem dL_law_1002 : decode cL_law 1002 = .ok (.invokevirtual 169, 3) := sorry
theorem dL_law_1005 : decode cL_law 1005 = .ok (.istore 6, 2) := sorry
theorem dL_law_1007 : decode cL_law 1007 = .ok (.aload_n 2, 1) := sorry
theorem dL_law_1008 : decode cL_law 1008 = .ok (.invokevirtual 135, 3) := sorry
theorem dL_law_1011 : decode cL_law 1011 = .ok (.iload 5, 2) := sorry
theorem dL_law_1013 : decode cL_law 1013 = .ok (.if_icmp .eq 5, 3) := sorry
theorem dL_law_1016 : decode cL_law 1016 = .ok (.iconst 0, 1) := sorry
theorem dL_law_1017 : decode cL_law 1017 = .ok (.ireturn, 1) := sorry
theorem dL_law_1018 : decode cL_law 1018 = .ok (.iload 5, 2) := sorry
theorem dL_law_1020 : decode cL_law 1020 = .ok (.ifCond .ne 15, 3) := sorry
theorem dL_law_1023 : decode cL_law 1023 = .ok (.aload_n 3, 1) := sorry
theorem dL_law_1024 : decode cL_law 1024 = .ok (.iconst 0, 1) := sorry
theorem dL_law_1025 : decode cL_law 1025 = .ok (.laload, 1) := sorry
theorem dL_law_1026 : decode cL_law 1026 = .ok (.iload 6, 2) := sorry
theorem dL_law_1028 : decode cL_law 1028 = .ok (.i2l, 1) := sorry
theorem dL_law_1029 : decode cL_law 1029 = .ok (.lcmp, 1) := sorry
theorem dL_law_1030 : decode cL_law 1030 = .ok (.ifCond .eq 5, 3) := sorry
theorem dL_law_1033 : decode cL_law 1033 = .ok (.iconst 0, 1) := sorry
theorem dL_law_1034 : decode cL_law 1034 = .ok (.ireturn, 1) := sorry
theorem dL_law_1035 : decode cL_law 1035 = .ok (.goto 1749, 3) := sorry
theorem dL_law_1038 : decode cL_law 1038 = .ok (.aload_n 1, 1) := sorry
theorem dL_law_1039 : decode cL_law 1039 = .ok (.invokevirtual 170, 3) := sorry
theorem dL_law_1042 : decode cL_law 1042 = .ok (.aload_n 2, 1) := sorry
theorem dL_law_1043 : decode cL_law 1043 = .ok (.invokevirtual 173, 3) := sorry
theorem dL_law_1046 : decode cL_law 1046 = .ok (.if_icmp .eq 1738, 3) := sorry
theorem dL_law_1049 : decode cL_law 1049 = .ok (.iconst 0, 1) := sorry
theorem dL_law_1050 : decode cL_law 1050 = .ok (.ireturn, 1) := sorry
theorem dL_law_1051 : decode cL_law 1051 = .ok (.aload_n 1, 1) := sorry
theorem dL_law_1052 : decode cL_law 1052 = .ok (.invokevirtual 174, 3) := sorry
theorem dL_law_1055 : decode cL_law 1055 = .ok (.aload_n 2, 1) := sorry
theorem dL_law_1056 : decode cL_law 1056 = .ok (.invokevirtual 177, 3) := sorry
theorem dL_law_1059 : decode cL_law 1059 = .ok (.if_icmp .eq 1725, 3) := sorry
theorem dL_law_1062 : decode cL_law 1062 = .ok (.iconst 0, 1) := sorry
theorem dL_law_1063 : decode cL_law 1063 = .ok (.ireturn, 1) := sorry
theorem dL_law_1064 : decode cL_law 1064 = .ok (.aload_n 1, 1) := sorry
theorem dL_law_1065 : decode cL_law 1065 = .ok (.aload_n 0, 1) := sorry
theorem dL_law_1066 : decode cL_law 1066 = .ok (.iload 4, 2) := sorry
theorem dL_law_1068 : decode cL_law 1068 = .ok (.iconst 1, 1) := sorry
theorem dL_law_1069 : decode cL_law 1069 = .ok (.iadd, 1) := sorry
theorem dL_law_1070 : decode cL_law 1070 = .ok (.iaload, 1) := sorry
theorem dL_law_1071 : decode cL_law 1071 = .ok (.aload_n 3, 1) := sorry
theorem dL_law_1072 : decode cL_law 1072 = .ok (.invokestatic 178, 3) := sorry
theorem dL_law_1075 : decode cL_law 1075 = .ok (.istore 5, 2) := sorry
theorem dL_law_1077 : decode cL_law 1077 = .ok (.aload_n 2, 1) := sorry
theorem dL_law_1078 : decode cL_law 1078 = .ok (.aload_n 0, 1) := sorry
theorem dL_law_1079 : decode cL_law 1079 = .ok (.iload 4, 2) := sorry
theorem dL_law_1081 : decode cL_law 1081 = .ok (.iconst 1, 1) := sorry
theorem dL_law_1082 : decode cL_law 1082 = .ok (.iadd, 1) := sorry
theorem dL_law_1083 : decode cL_law 1083 = .ok (.iaload, 1) := sorry
theorem dL_law_1084 : decode cL_law 1084 = .ok (.invokevirtual 180, 3) := sorry
theorem dL_law_1087 : decode cL_law 1087 = .ok (.istore 6, 2) := sorry
theorem dL_law_1089 : decode cL_law 1089 = .ok (.aload_n 2, 1) := sorry
theorem dL_law_1090 : decode cL_law 1090 = .ok (.invokevirtual 135, 3) := sorry
theorem dL_law_1093 : decode cL_law 1093 = .ok (.iload 5, 2) := sorry
theorem dL_law_1095 : decode cL_law 1095 = .ok (.if_icmp .eq 5, 3) := sorry
theorem dL_law_1098 : decode cL_law 1098 = .ok (.iconst 0, 1) := sorry
theorem dL_law_1099 : decode cL_law 1099 = .ok (.ireturn, 1) := sorry
theorem dL_law_1100 : decode cL_law 1100 = .ok (.iload 5, 2) := sorry
theorem dL_law_1102 : decode cL_law 1102 = .ok (.ifCond .ne 15, 3) := sorry
theorem dL_law_1105 : decode cL_law 1105 = .ok (.aload_n 3, 1) := sorry
theorem dL_law_1106 : decode cL_law 1106 = .ok (.iconst 0, 1) := sorry
theorem dL_law_1107 : decode cL_law 1107 = .ok (.laload, 1) := sorry
theorem dL_law_1108 : decode cL_law 1108 = .ok (.iload 6, 2) := sorry
theorem dL_law_1110 : decode cL_law 1110 = .ok (.i2l, 1) := sorry
theorem dL_law_1111 : decode cL_law 1111 = .ok (.lcmp, 1) := sorry
theorem dL_law_1112 : decode cL_law 1112 = .ok (.ifCond .eq 5, 3) := sorry
theorem dL_law_1115 : decode cL_law 1115 = .ok (.iconst 0, 1) := sorry
theorem dL_law_1116 : decode cL_law 1116 = .ok (.ireturn, 1) := sorry
theorem dL_law_1117 : decode cL_law 1117 = .ok (.goto 1667, 3) := sorry
theorem dL_law_1120 : decode cL_law 1120 = .ok (.aload_n 1, 1) := sorry
theorem dL_law_1121 : decode cL_law 1121 = .ok (.aload_n 0, 1) := sorry
theorem dL_law_1122 : decode cL_law 1122 = .ok (.iload 4, 2) := sorry
theorem dL_law_1124 : decode cL_law 1124 = .ok (.iconst 1, 1) := sorry
theorem dL_law_1125 : decode cL_law 1125 = .ok (.iadd, 1) := sorry
theorem dL_law_1126 : decode cL_law 1126 = .ok (.iaload, 1) := sorry
theorem dL_law_1127 : decode cL_law 1127 = .ok (.aload_n 3, 1) := sorry
theorem dL_law_1128 : decode cL_law 1128 = .ok (.invokestatic 181, 3) := sorry
theorem dL_law_1131 : decode cL_law 1131 = .ok (.istore 5, 2) := sorry
theorem dL_law_1133 : decode cL_law 1133 = .ok (.aload_n 2, 1) := sorry
theorem dL_law_1134 : decode cL_law 1134 = .ok (.aload_n 0, 1) := sorry
theorem dL_law_1135 : decode cL_law 1135 = .ok (.iload 4, 2) := sorry
theorem dL_law_1137 : decode cL_law 1137 = .ok (.iconst 1, 1) := sorry
theorem dL_law_1138 : decode cL_law 1138 = .ok (.iadd, 1) := sorry
theorem dL_law_1139 : decode cL_law 1139 = .ok (.iaload, 1) := sorry
theorem dL_law_1140 : decode cL_law 1140 = .ok (.invokevirtual 183, 3) := sorry
theorem dL_law_1143 : decode cL_law 1143 = .ok (.istore 6, 2) := sorry
theorem dL_law_1145 : decode cL_law 1145 = .ok (.aload_n 2, 1) := sorry
theorem dL_law_1146 : decode cL_law 1146 = .ok (.invokevirtual 135, 3) := sorry
theorem dL_law_1149 : decode cL_law 1149 = .ok (.iload 5, 2) := sorry
theorem dL_law_1151 : decode cL_law 1151 = .ok (.if_icmp .eq 5, 3) := sorry
theorem dL_law_1154 : decode cL_law 1154 = .ok (.iconst 0, 1) := sorry
theorem dL_law_1155 : decode cL_law 1155 = .ok (.ireturn, 1) := sorry
theorem dL_law_1156 : decode cL_law 1156 = .ok (.iload 5, 2) := sorry
theorem dL_law_1158 : decode cL_law 1158 = .ok (.ifCond .ne 15, 3) := sorry
theorem dL_law_1161 : decode cL_law 1161 = .ok (.aload_n 3, 1) := sorry
theorem dL_law_1162 : decode cL_law 1162 = .ok (.iconst 0, 1) := sorry
theorem dL_law_1163 : decode cL_law 1163 = .ok (.laload, 1) := sorry
theorem dL_law_1164 : decode cL_law 1164 = .ok (.iload 6, 2) := sorry
theorem dL_law_1166 : decode cL_law 1166 = .ok (.i2l, 1) := sorry
theorem dL_law_1167 : decode cL_law 1167 = .ok (.lcmp, 1) := sorry
theorem dL_law_1168 : decode cL_law 1168 = .ok (.ifCond .eq 5, 3) := sorry
theorem dL_law_1171 : decode cL_law 1171 = .ok (.iconst 0, 1) := sorry
theorem dL_law_1172 : decode cL_law 1172 = .ok (.ireturn, 1) := sorry
theorem dL_law_1173 : decode cL_law 1173 = .ok (.goto 1611, 3) := sorry
theorem dL_law_1176 : decode cL_law 1176 = .ok (.aload_n 1, 1) := sorry
theorem dL_law_1177 : decode cL_law 1177 = .ok (.aload_n 0, 1) := sorry
theorem dL_law_1178 : decode cL_law 1178 = .ok (.iload 4, 2) := sorry
theorem dL_law_1180 : decode cL_law 1180 = .ok (.iconst 1, 1) := sorry
theorem dL_law_1181 : decode cL_law 1181 = .ok (.iadd, 1) := sorry
theorem dL_law_1182 : decode cL_law 1182 = .ok (.iaload, 1) := sorry
theorem dL_law_1183 : decode cL_law 1183 = .ok (.aload_n 3, 1) := sorry
theorem dL_law_1184 : decode cL_law 1184 = .ok (.invokestatic 184, 3) := sorry
theorem dL_law_1187 : decode cL_law 1187 = .ok (.istore 5, 2) := sorry
theorem dL_law_1189 : decode cL_law 1189 = .ok (.aload_n 2, 1) := sorry
theorem dL_law_1190 : decode cL_law 1190 = .ok (.aload_n 0, 1) := sorry
theorem dL_law_1191 : decode cL_law 1191 = .ok (.iload 4, 2) := sorry
theorem dL_law_1193 : decode cL_law 1193 = .ok (.iconst 1, 1) := sorry
theorem dL_law_1194 : decode cL_law 1194 = .ok (.iadd, 1) := sorry
theorem dL_law_1195 : decode cL_law 1195 = .ok (.iaload, 1) := sorry
theorem dL_law_1196 : decode cL_law 1196 = .ok (.invokevirtual 186, 3) := sorry
theorem dL_law_1199 : decode cL_law 1199 = .ok (.istore 6, 2) := sorry
theorem dL_law_1201 : decode cL_law 1201 = .ok (.aload_n 2, 1) := sorry
theorem dL_law_1202 : decode cL_law 1202 = .ok (.invokevirtual 135, 3) := sorry
theorem dL_law_1205 : decode cL_law 1205 = .ok (.iload 5, 2) := sorry
theorem dL_law_1207 : decode cL_law 1207 = .ok (.if_icmp .eq 5, 3) := sorry
theorem dL_law_1210 : decode cL_law 1210 = .ok (.iconst 0, 1) := sorry
theorem dL_law_1211 : decode cL_law 1211 = .ok (.ireturn, 1) := sorry
theorem dL_law_1212 : decode cL_law 1212 = .ok (.iload 5, 2) := sorry
theorem dL_law_1214 : decode cL_law 1214 = .ok (.ifCond .ne 15, 3) := sorry
theorem dL_law_1217 : decode cL_law 1217 = .ok (.aload_n 3, 1) := sorry
theorem dL_law_1218 : decode cL_law 1218 = .ok (.iconst 0, 1) := sorry
theorem dL_law_1219 : decode cL_law 1219 = .ok (.laload, 1) := sorry
theorem dL_law_1220 : decode cL_law 1220 = .ok (.iload 6, 2) := sorry
theorem dL_law_1222 : decode cL_law 1222 = .ok (.i2l, 1) := sorry
theorem dL_law_1223 : decode cL_law 1223 = .ok (.lcmp, 1) := sorry
theorem dL_law_1224 : decode cL_law 1224 = .ok (.ifCond .eq 5, 3) := sorry
theorem dL_law_1227 : decode cL_law 1227 = .ok (.iconst 0, 1) := sorry
theorem dL_law_1228 : decode cL_law 1228 = .ok (.ireturn, 1) := sorry
theorem dL_law_1229 : decode cL_law 1229 = .ok (.goto 1555, 3) := sorry
theorem dL_law_1232 : decode cL_law 1232 = .ok (.aload_n 1, 1) := sorry
theorem dL_law_1233 : decode cL_law 1233 = .ok (.aload_n 0, 1) := sorry
theorem dL_law_1234 : decode cL_law 1234 = .ok (.iload 4, 2) := sorry
theorem dL_law_1236 : decode cL_law 1236 = .ok (.iconst 1, 1) := sorry
theorem dL_law_1237 : decode cL_law 1237 = .ok (.iadd, 1) := sorry
theorem dL_law_1238 : decode cL_law 1238 = .ok (.iaload, 1) := sorry
theorem dL_law_1239 : decode cL_law 1239 = .ok (.aload_n 0, 1) := sorry
theorem dL_law_1240 : decode cL_law 1240 = .ok (.iload 4, 2) := sorry
theorem dL_law_1242 : decode cL_law 1242 = .ok (.iconst 2, 1) := sorry
theorem dL_law_1243 : decode cL_law 1243 = .ok (.iadd, 1) := sorry
theorem dL_law_1244 : decode cL_law 1244 = .ok (.iaload, 1) := sorry
theorem dL_law_1245 : decode cL_law 1245 = .ok (.aload_n 0, 1) := sorry
theorem dL_law_1246 : decode cL_law 1246 = .ok (.iload 4, 2) := sorry
theorem dL_law_1248 : decode cL_law 1248 = .ok (.iconst 3, 1) := sorry
theorem dL_law_1249 : decode cL_law 1249 = .ok (.iadd, 1) := sorry
theorem dL_law_1250 : decode cL_law 1250 = .ok (.iaload, 1) := sorry
theorem dL_law_1251 : decode cL_law 1251 = .ok (.aload_n 0, 1) := sorry
theorem dL_law_1252 : decode cL_law 1252 = .ok (.iload 4, 2) := sorry
theorem dL_law_1254 : decode cL_law 1254 = .ok (.iconst 4, 1) := sorry
theorem dL_law_1255 : decode cL_law 1255 = .ok (.iadd, 1) := sorry
theorem dL_law_1256 : decode cL_law 1256 = .ok (.iaload, 1) := sorry
theorem dL_law_1257 : decode cL_law 1257 = .ok (.aload_n 3, 1) := sorry
theorem dL_law_1258 : decode cL_law 1258 = .ok (.invokestatic 187, 3) := sorry
theorem dL_law_1261 : decode cL_law 1261 = .ok (.istore 5, 2) := sorry
theorem dL_law_1263 : decode cL_law 1263 = .ok (.aload_n 2, 1) := sorry
theorem dL_law_1264 : decode cL_law 1264 = .ok (.aload_n 0, 1) := sorry
theorem dL_law_1265 : decode cL_law 1265 = .ok (.iload 4, 2) := sorry
theorem dL_law_1267 : decode cL_law 1267 = .ok (.iconst 1, 1) := sorry
theorem dL_law_1268 : decode cL_law 1268 = .ok (.iadd, 1) := sorry
theorem dL_law_1269 : decode cL_law 1269 = .ok (.iaload, 1) := sorry
theorem dL_law_1270 : decode cL_law 1270 = .ok (.aload_n 0, 1) := sorry
theorem dL_law_1271 : decode cL_law 1271 = .ok (.iload 4, 2) := sorry
theorem dL_law_1273 : decode cL_law 1273 = .ok (.iconst 2, 1) := sorry
theorem dL_law_1274 : decode cL_law 1274 = .ok (.iadd, 1) := sorry
theorem dL_law_1275 : decode cL_law 1275 = .ok (.iaload, 1) := sorry
theorem dL_law_1276 : decode cL_law 1276 = .ok (.aload_n 0, 1) := sorry
theorem dL_law_1277 : decode cL_law 1277 = .ok (.iload 4, 2) := sorry
theorem dL_law_1279 : decode cL_law 1279 = .ok (.iconst 3, 1) := sorry
theorem dL_law_1280 : decode cL_law 1280 = .ok (.iadd, 1) := sorry
theorem dL_law_1281 : decode cL_law 1281 = .ok (.iaload, 1) := sorry
theorem dL_law_1282 : decode cL_law 1282 = .ok (.aload_n 0, 1) := sorry
theorem dL_law_1283 : decode cL_law 1283 = .ok (.iload 4, 2) := sorry
theorem dL_law_1285 : decode cL_law 1285 = .ok (.iconst 4, 1) := sorry
theorem dL_law_1286 : decode cL_law 1286 = .ok (.iadd, 1) := sorry
theorem dL_law_1287 : decode cL_law 1287 = .ok (.iaload, 1) := sorry
theorem dL_law_1288 : decode cL_law 1288 = .ok (.invokevirtual 189, 3) := sorry
theorem dL_law_1291 : decode cL_law 1291 = .ok (.istore 6, 2) := sorry
theorem dL_law_1293 : decode cL_law 1293 = .ok (.aload_n 2, 1) := sorry
theorem dL_law_1294 : decode cL_law 1294 = .ok (.invokevirtual 135, 3) := sorry
theorem dL_law_1297 : decode cL_law 1297 = .ok (.iload 5, 2) := sorry
theorem dL_law_1299 : decode cL_law 1299 = .ok (.if_icmp .eq 5, 3) := sorry
theorem dL_law_1302 : decode cL_law 1302 = .ok (.iconst 0, 1) := sorry
theorem dL_law_1303 : decode cL_law 1303 = .ok (.ireturn, 1) := sorry
theorem dL_law_1304 : decode cL_law 1304 = .ok (.iload 5, 2) := sorry
theorem dL_law_1306 : decode cL_law 1306 = .ok (.ifCond .ne 22, 3) := sorry
theorem dL_law_1309 : decode cL_law 1309 = .ok (.aload_n 3, 1) := sorry
theorem dL_law_1310 : decode cL_law 1310 = .ok (.iconst 0, 1) := sorry
theorem dL_law_1311 : decode cL_law 1311 = .ok (.laload, 1) := sorry
theorem dL_law_1312 : decode cL_law 1312 = .ok (.iload 6, 2) := sorry
theorem dL_law_1314 : decode cL_law 1314 = .ok (.ifCond .eq 7, 3) := sorry
theorem dL_law_1317 : decode cL_law 1317 = .ok (.lconst 1, 1) := sorry
theorem dL_law_1318 : decode cL_law 1318 = .ok (.goto 4, 3) := sorry
theorem dL_law_1321 : decode cL_law 1321 = .ok (.lconst 0, 1) := sorry
theorem dL_law_1322 : decode cL_law 1322 = .ok (.lcmp, 1) := sorry
theorem dL_law_1323 : decode cL_law 1323 = .ok (.ifCond .eq 5, 3) := sorry
theorem dL_law_1326 : decode cL_law 1326 = .ok (.iconst 0, 1) := sorry
theorem dL_law_1327 : decode cL_law 1327 = .ok (.ireturn, 1) := sorry
theorem dL_law_1328 : decode cL_law 1328 = .ok (.goto 1456, 3) := sorry
theorem dL_law_1331 : decode cL_law 1331 = .ok (.aload_n 1, 1) := sorry
theorem dL_law_1332 : decode cL_law 1332 = .ok (.aload_n 0, 1) := sorry
theorem dL_law_1333 : decode cL_law 1333 = .ok (.iload 4, 2) := sorry
theorem dL_law_1335 : decode cL_law 1335 = .ok (.iconst 1, 1) := sorry
theorem dL_law_1336 : decode cL_law 1336 = .ok (.iadd, 1) := sorry
theorem dL_law_1337 : decode cL_law 1337 = .ok (.iaload, 1) := sorry
theorem dL_law_1338 : decode cL_law 1338 = .ok (.aload_n 0, 1) := sorry
theorem dL_law_1339 : decode cL_law 1339 = .ok (.iload 4, 2) := sorry
theorem dL_law_1341 : decode cL_law 1341 = .ok (.iconst 2, 1) := sorry
theorem dL_law_1342 : decode cL_law 1342 = .ok (.iadd, 1) := sorry
theorem dL_law_1343 : decode cL_law 1343 = .ok (.iaload, 1) := sorry
theorem dL_law_1344 : decode cL_law 1344 = .ok (.aload_n 0, 1) := sorry
theorem dL_law_1345 : decode cL_law 1345 = .ok (.iload 4, 2) := sorry
theorem dL_law_1347 : decode cL_law 1347 = .ok (.iconst 3, 1) := sorry
theorem dL_law_1348 : decode cL_law 1348 = .ok (.iadd, 1) := sorry
theorem dL_law_1349 : decode cL_law 1349 = .ok (.iaload, 1) := sorry
theorem dL_law_1350 : decode cL_law 1350 = .ok (.aload_n 0, 1) := sorry
theorem dL_law_1351 : decode cL_law 1351 = .ok (.iload 4, 2) := sorry
theorem dL_law_1353 : decode cL_law 1353 = .ok (.iconst 4, 1) := sorry
theorem dL_law_1354 : decode cL_law 1354 = .ok (.iadd, 1) := sorry
theorem dL_law_1355 : decode cL_law 1355 = .ok (.iaload, 1) := sorry
theorem dL_law_1356 : decode cL_law 1356 = .ok (.aload_n 3, 1) := sorry
theorem dL_law_1357 : decode cL_law 1357 = .ok (.invokestatic 190, 3) := sorry
theorem dL_law_1360 : decode cL_law 1360 = .ok (.istore 5, 2) := sorry
theorem dL_law_1362 : decode cL_law 1362 = .ok (.aload_n 2, 1) := sorry
theorem dL_law_1363 : decode cL_law 1363 = .ok (.aload_n 0, 1) := sorry
theorem dL_law_1364 : decode cL_law 1364 = .ok (.iload 4, 2) := sorry
theorem dL_law_1366 : decode cL_law 1366 = .ok (.iconst 1, 1) := sorry
theorem dL_law_1367 : decode cL_law 1367 = .ok (.iadd, 1) := sorry
theorem dL_law_1368 : decode cL_law 1368 = .ok (.iaload, 1) := sorry
theorem dL_law_1369 : decode cL_law 1369 = .ok (.aload_n 0, 1) := sorry
theorem dL_law_1370 : decode cL_law 1370 = .ok (.iload 4, 2) := sorry
theorem dL_law_1372 : decode cL_law 1372 = .ok (.iconst 2, 1) := sorry
theorem dL_law_1373 : decode cL_law 1373 = .ok (.iadd, 1) := sorry
theorem dL_law_1374 : decode cL_law 1374 = .ok (.iaload, 1) := sorry
theorem dL_law_1375 : decode cL_law 1375 = .ok (.aload_n 0, 1) := sorry
theorem dL_law_1376 : decode cL_law 1376 = .ok (.iload 4, 2) := sorry
theorem dL_law_1378 : decode cL_law 1378 = .ok (.iconst 3, 1) := sorry
theorem dL_law_1379 : decode cL_law 1379 = .ok (.iadd, 1) := sorry
theorem dL_law_1380 : decode cL_law 1380 = .ok (.iaload, 1) := sorry
theorem dL_law_1381 : decode cL_law 1381 = .ok (.aload_n 0, 1) := sorry
theorem dL_law_1382 : decode cL_law 1382 = .ok (.iload 4, 2) := sorry
theorem dL_law_1384 : decode cL_law 1384 = .ok (.iconst 4, 1) := sorry
theorem dL_law_1385 : decode cL_law 1385 = .ok (.iadd, 1) := sorry
theorem dL_law_1386 : decode cL_law 1386 = .ok (.iaload, 1) := sorry
theorem dL_law_1387 : decode cL_law 1387 = .ok (.invokevirtual 192, 3) := sorry
theorem dL_law_1390 : decode cL_law 1390 = .ok (.istore 6, 2) := sorry
theorem dL_law_1392 : decode cL_law 1392 = .ok (.aload_n 2, 1) := sorry
theorem dL_law_1393 : decode cL_law 1393 = .ok (.invokevirtual 135, 3) := sorry
theorem dL_law_1396 : decode cL_law 1396 = .ok (.iload 5, 2) := sorry
theorem dL_law_1398 : decode cL_law 1398 = .ok (.if_icmp .eq 5, 3) := sorry
theorem dL_law_1401 : decode cL_law 1401 = .ok (.iconst 0, 1) := sorry
theorem dL_law_1402 : decode cL_law 1402 = .ok (.ireturn, 1) := sorry
theorem dL_law_1403 : decode cL_law 1403 = .ok (.iload 5, 2) := sorry
theorem dL_law_1405 : decode cL_law 1405 = .ok (.ifCond .ne 15, 3) := sorry
theorem dL_law_1408 : decode cL_law 1408 = .ok (.aload_n 3, 1) := sorry
theorem dL_law_1409 : decode cL_law 1409 = .ok (.iconst 0, 1) := sorry
theorem dL_law_1410 : decode cL_law 1410 = .ok (.laload, 1) := sorry
theorem dL_law_1411 : decode cL_law 1411 = .ok (.iload 6, 2) := sorry
theorem dL_law_1413 : decode cL_law 1413 = .ok (.i2l, 1) := sorry
theorem dL_law_1414 : decode cL_law 1414 = .ok (.lcmp, 1) := sorry
theorem dL_law_1415 : decode cL_law 1415 = .ok (.ifCond .eq 5, 3) := sorry
theorem dL_law_1418 : decode cL_law 1418 = .ok (.iconst 0, 1) := sorry
theorem dL_law_1419 : decode cL_law 1419 = .ok (.ireturn, 1) := sorry
theorem dL_law_1420 : decode cL_law 1420 = .ok (.goto 1364, 3) := sorry
theorem dL_law_1423 : decode cL_law 1423 = .ok (.aload_n 1, 1) := sorry
theorem dL_law_1424 : decode cL_law 1424 = .ok (.aload_n 0, 1) := sorry
theorem dL_law_1425 : decode cL_law 1425 = .ok (.iload 4, 2) := sorry
theorem dL_law_1427 : decode cL_law 1427 = .ok (.iconst 1, 1) := sorry
theorem dL_law_1428 : decode cL_law 1428 = .ok (.iadd, 1) := sorry
theorem dL_law_1429 : decode cL_law 1429 = .ok (.iaload, 1) := sorry
theorem dL_law_1430 : decode cL_law 1430 = .ok (.aload_n 0, 1) := sorry
theorem dL_law_1431 : decode cL_law 1431 = .ok (.iload 4, 2) := sorry
theorem dL_law_1433 : decode cL_law 1433 = .ok (.iconst 2, 1) := sorry
theorem dL_law_1434 : decode cL_law 1434 = .ok (.iadd, 1) := sorry
theorem dL_law_1435 : decode cL_law 1435 = .ok (.iaload, 1) := sorry
theorem dL_law_1436 : decode cL_law 1436 = .ok (.aload_n 0, 1) := sorry
theorem dL_law_1437 : decode cL_law 1437 = .ok (.iload 4, 2) := sorry
theorem dL_law_1439 : decode cL_law 1439 = .ok (.iconst 3, 1) := sorry
theorem dL_law_1440 : decode cL_law 1440 = .ok (.iadd, 1) := sorry
theorem dL_law_1441 : decode cL_law 1441 = .ok (.iaload, 1) := sorry
theorem dL_law_1442 : decode cL_law 1442 = .ok (.aload_n 3, 1) := sorry
theorem dL_law_1443 : decode cL_law 1443 = .ok (.invokestatic 193, 3) := sorry
theorem dL_law_1446 : decode cL_law 1446 = .ok (.istore 5, 2) := sorry
theorem dL_law_1448 : decode cL_law 1448 = .ok (.aload_n 2, 1) := sorry
theorem dL_law_1449 : decode cL_law 1449 = .ok (.aload_n 0, 1) := sorry
theorem dL_law_1450 : decode cL_law 1450 = .ok (.iload 4, 2) := sorry
theorem dL_law_1452 : decode cL_law 1452 = .ok (.iconst 1, 1) := sorry
theorem dL_law_1453 : decode cL_law 1453 = .ok (.iadd, 1) := sorry
theorem dL_law_1454 : decode cL_law 1454 = .ok (.iaload, 1) := sorry
theorem dL_law_1455 : decode cL_law 1455 = .ok (.aload_n 0, 1) := sorry
theorem dL_law_1456 : decode cL_law 1456 = .ok (.iload 4, 2) := sorry
theorem dL_law_1458 : decode cL_law 1458 = .ok (.iconst 2, 1) := sorry
theorem dL_law_1459 : decode cL_law 1459 = .ok (.iadd, 1) := sorry
theorem dL_law_1460 : decode cL_law 1460 = .ok (.iaload, 1) := sorry
theorem dL_law_1461 : decode cL_law 1461 = .ok (.aload_n 0, 1) := sorry
theorem dL_law_1462 : decode cL_law 1462 = .ok (.iload 4, 2) := sorry
theorem dL_law_1464 : decode cL_law 1464 = .ok (.iconst 3, 1) := sorry
theorem dL_law_1465 : decode cL_law 1465 = .ok (.iadd, 1) := sorry
theorem dL_law_1466 : decode cL_law 1466 = .ok (.iaload, 1) := sorry
theorem dL_law_1467 : decode cL_law 1467 = .ok (.invokevirtual 196, 3) := sorry
theorem dL_law_1470 : decode cL_law 1470 = .ok (.istore 6, 2) := sorry
theorem dL_law_1472 : decode cL_law 1472 = .ok (.aload_n 2, 1) := sorry
theorem dL_law_1473 : decode cL_law 1473 = .ok (.invokevirtual 135, 3) := sorry
theorem dL_law_1476 : decode cL_law 1476 = .ok (.iload 5, 2) := sorry
theorem dL_law_1478 : decode cL_law 1478 = .ok (.if_icmp .eq 5, 3) := sorry
theorem dL_law_1481 : decode cL_law 1481 = .ok (.iconst 0, 1) := sorry
theorem dL_law_1482 : decode cL_law 1482 = .ok (.ireturn, 1) := sorry
theorem dL_law_1483 : decode cL_law 1483 = .ok (.iload 5, 2) := sorry
theorem dL_law_1485 : decode cL_law 1485 = .ok (.ifCond .ne 15, 3) := sorry
theorem dL_law_1488 : decode cL_law 1488 = .ok (.aload_n 3, 1) := sorry
theorem dL_law_1489 : decode cL_law 1489 = .ok (.iconst 0, 1) := sorry
theorem dL_law_1490 : decode cL_law 1490 = .ok (.laload, 1) := sorry
theorem dL_law_1491 : decode cL_law 1491 = .ok (.iload 6, 2) := sorry
theorem dL_law_1493 : decode cL_law 1493 = .ok (.i2l, 1) := sorry
theorem dL_law_1494 : decode cL_law 1494 = .ok (.lcmp, 1) := sorry
theorem dL_law_1495 : decode cL_law 1495 = .ok (.ifCond .eq 5, 3) := sorry
theorem dL_law_1498 : decode cL_law 1498 = .ok (.iconst 0, 1) := sorry
theorem dL_law_1499 : decode cL_law 1499 = .ok (.ireturn, 1) := sorry
theorem dL_law_1500 : decode cL_law 1500 = .ok (.goto 1284, 3) := sorry
theorem dL_law_1503 : decode cL_law 1503 = .ok (.aload_n 1, 1) := sorry
theorem dL_law_1504 : decode cL_law 1504 = .ok (.aload_n 0, 1) := sorry
theorem dL_law_1505 : decode cL_law 1505 = .ok (.iload 4, 2) := sorry
theorem dL_law_1507 : decode cL_law 1507 = .ok (.iconst 1, 1) := sorry
theorem dL_law_1508 : decode cL_law 1508 = .ok (.iadd, 1) := sorry
theorem dL_law_1509 : decode cL_law 1509 = .ok (.iaload, 1) := sorry
theorem dL_law_1510 : decode cL_law 1510 = .ok (.aload_n 0, 1) := sorry
theorem dL_law_1511 : decode cL_law 1511 = .ok (.iload 4, 2) := sorry
theorem dL_law_1513 : decode cL_law 1513 = .ok (.iconst 2, 1) := sorry
theorem dL_law_1514 : decode cL_law 1514 = .ok (.iadd, 1) := sorry
theorem dL_law_1515 : decode cL_law 1515 = .ok (.iaload, 1) := sorry
theorem dL_law_1516 : decode cL_law 1516 = .ok (.aload_n 0, 1) := sorry
theorem dL_law_1517 : decode cL_law 1517 = .ok (.iload 4, 2) := sorry
theorem dL_law_1519 : decode cL_law 1519 = .ok (.iconst 3, 1) := sorry
theorem dL_law_1520 : decode cL_law 1520 = .ok (.iadd, 1) := sorry
theorem dL_law_1521 : decode cL_law 1521 = .ok (.iaload, 1) := sorry
theorem dL_law_1522 : decode cL_law 1522 = .ok (.aload_n 0, 1) := sorry
theorem dL_law_1523 : decode cL_law 1523 = .ok (.iload 4, 2) := sorry
theorem dL_law_1525 : decode cL_law 1525 = .ok (.iconst 4, 1) := sorry
theorem dL_law_1526 : decode cL_law 1526 = .ok (.iadd, 1) := sorry
theorem dL_law_1527 : decode cL_law 1527 = .ok (.iaload, 1) := sorry
theorem dL_law_1528 : decode cL_law 1528 = .ok (.aload_n 3, 1) := sorry
theorem dL_law_1529 : decode cL_law 1529 = .ok (.invokestatic 197, 3) := sorry
theorem dL_law_1532 : decode cL_law 1532 = .ok (.istore 5, 2) := sorry
theorem dL_law_1534 : decode cL_law 1534 = .ok (.aload_n 2, 1) := sorry
theorem dL_law_1535 : decode cL_law 1535 = .ok (.aload_n 0, 1) := sorry
theorem dL_law_1536 : decode cL_law 1536 = .ok (.iload 4, 2) := sorry
theorem dL_law_1538 : decode cL_law 1538 = .ok (.iconst 1, 1) := sorry
theorem dL_law_1539 : decode cL_law 1539 = .ok (.iadd, 1) := sorry
theorem dL_law_1540 : decode cL_law 1540 = .ok (.iaload, 1) := sorry
theorem dL_law_1541 : decode cL_law 1541 = .ok (.aload_n 0, 1) := sorry
theorem dL_law_1542 : decode cL_law 1542 = .ok (.iload 4, 2) := sorry
theorem dL_law_1544 : decode cL_law 1544 = .ok (.iconst 2, 1) := sorry
theorem dL_law_1545 : decode cL_law 1545 = .ok (.iadd, 1) := sorry
theorem dL_law_1546 : decode cL_law 1546 = .ok (.iaload, 1) := sorry
theorem dL_law_1547 : decode cL_law 1547 = .ok (.aload_n 0, 1) := sorry
theorem dL_law_1548 : decode cL_law 1548 = .ok (.iload 4, 2) := sorry
theorem dL_law_1550 : decode cL_law 1550 = .ok (.iconst 3, 1) := sorry
theorem dL_law_1551 : decode cL_law 1551 = .ok (.iadd, 1) := sorry
theorem dL_law_1552 : decode cL_law 1552 = .ok (.iaload, 1) := sorry
theorem dL_law_1553 : decode cL_law 1553 = .ok (.aload_n 0, 1) := sorry
theorem dL_law_1554 : decode cL_law 1554 = .ok (.iload 4, 2) := sorry
theorem dL_law_1556 : decode cL_law 1556 = .ok (.iconst 4, 1) := sorry
theorem dL_law_1557 : decode cL_law 1557 = .ok (.iadd, 1) := sorry
theorem dL_law_1558 : decode cL_law 1558 = .ok (.iaload, 1) := sorry
theorem dL_law_1559 : decode cL_law 1559 = .ok (.invokevirtual 199, 3) := sorry
theorem dL_law_1562 : decode cL_law 1562 = .ok (.istore 6, 2) := sorry
theorem dL_law_1564 : decode cL_law 1564 = .ok (.aload_n 2, 1) := sorry
theorem dL_law_1565 : decode cL_law 1565 = .ok (.invokevirtual 135, 3) := sorry
theorem dL_law_1568 : decode cL_law 1568 = .ok (.iload 5, 2) := sorry
theorem dL_law_1570 : decode cL_law 1570 = .ok (.if_icmp .eq 5, 3) := sorry
theorem dL_law_1573 : decode cL_law 1573 = .ok (.iconst 0, 1) := sorry
theorem dL_law_1574 : decode cL_law 1574 = .ok (.ireturn, 1) := sorry
theorem dL_law_1575 : decode cL_law 1575 = .ok (.iload 5, 2) := sorry
theorem dL_law_1577 : decode cL_law 1577 = .ok (.ifCond .ne 15, 3) := sorry
theorem dL_law_1580 : decode cL_law 1580 = .ok (.aload_n 3, 1) := sorry
theorem dL_law_1581 : decode cL_law 1581 = .ok (.iconst 0, 1) := sorry
theorem dL_law_1582 : decode cL_law 1582 = .ok (.laload, 1) := sorry
theorem dL_law_1583 : decode cL_law 1583 = .ok (.iload 6, 2) := sorry
theorem dL_law_1585 : decode cL_law 1585 = .ok (.i2l, 1) := sorry
theorem dL_law_1586 : decode cL_law 1586 = .ok (.lcmp, 1) := sorry
theorem dL_law_1587 : decode cL_law 1587 = .ok (.ifCond .eq 5, 3) := sorry
theorem dL_law_1590 : decode cL_law 1590 = .ok (.iconst 0, 1) := sorry
theorem dL_law_1591 : decode cL_law 1591 = .ok (.ireturn, 1) := sorry
theorem dL_law_1592 : decode cL_law 1592 = .ok (.goto 1192, 3) := sorry
theorem dL_law_1595 : decode cL_law 1595 = .ok (.aload_n 1, 1) := sorry
theorem dL_law_1596 : decode cL_law 1596 = .ok (.aload_n 0, 1) := sorry
theorem dL_law_1597 : decode cL_law 1597 = .ok (.iload 4, 2) := sorry
theorem dL_law_1599 : decode cL_law 1599 = .ok (.iconst 1, 1) := sorry
theorem dL_law_1600 : decode cL_law 1600 = .ok (.iadd, 1) := sorry
theorem dL_law_1601 : decode cL_law 1601 = .ok (.iaload, 1) := sorry
theorem dL_law_1602 : decode cL_law 1602 = .ok (.aload_n 0, 1) := sorry
theorem dL_law_1603 : decode cL_law 1603 = .ok (.iload 4, 2) := sorry
theorem dL_law_1605 : decode cL_law 1605 = .ok (.iconst 2, 1) := sorry
theorem dL_law_1606 : decode cL_law 1606 = .ok (.iadd, 1) := sorry
theorem dL_law_1607 : decode cL_law 1607 = .ok (.iaload, 1) := sorry
theorem dL_law_1608 : decode cL_law 1608 = .ok (.aload_n 3, 1) := sorry
theorem dL_law_1609 : decode cL_law 1609 = .ok (.invokestatic 200, 3) := sorry
theorem dL_law_1612 : decode cL_law 1612 = .ok (.istore 5, 2) := sorry
theorem dL_law_1614 : decode cL_law 1614 = .ok (.aload_n 2, 1) := sorry
theorem dL_law_1615 : decode cL_law 1615 = .ok (.aload_n 0, 1) := sorry
theorem dL_law_1616 : decode cL_law 1616 = .ok (.iload 4, 2) := sorry
theorem dL_law_1618 : decode cL_law 1618 = .ok (.iconst 1, 1) := sorry
theorem dL_law_1619 : decode cL_law 1619 = .ok (.iadd, 1) := sorry
theorem dL_law_1620 : decode cL_law 1620 = .ok (.iaload, 1) := sorry
theorem dL_law_1621 : decode cL_law 1621 = .ok (.aload_n 0, 1) := sorry
theorem dL_law_1622 : decode cL_law 1622 = .ok (.iload 4, 2) := sorry
theorem dL_law_1624 : decode cL_law 1624 = .ok (.iconst 2, 1) := sorry
theorem dL_law_1625 : decode cL_law 1625 = .ok (.iadd, 1) := sorry
theorem dL_law_1626 : decode cL_law 1626 = .ok (.iaload, 1) := sorry
theorem dL_law_1627 : decode cL_law 1627 = .ok (.invokevirtual 202, 3) := sorry
theorem dL_law_1630 : decode cL_law 1630 = .ok (.istore 6, 2) := sorry
theorem dL_law_1632 : decode cL_law 1632 = .ok (.aload_n 2, 1) := sorry
theorem dL_law_1633 : decode cL_law 1633 = .ok (.invokevirtual 135, 3) := sorry
theorem dL_law_1636 : decode cL_law 1636 = .ok (.iload 5, 2) := sorry
theorem dL_law_1638 : decode cL_law 1638 = .ok (.if_icmp .eq 5, 3) := sorry
theorem dL_law_1641 : decode cL_law 1641 = .ok (.iconst 0, 1) := sorry
theorem dL_law_1642 : decode cL_law 1642 = .ok (.ireturn, 1) := sorry
theorem dL_law_1643 : decode cL_law 1643 = .ok (.iload 5, 2) := sorry
theorem dL_law_1645 : decode cL_law 1645 = .ok (.ifCond .ne 15, 3) := sorry
theorem dL_law_1648 : decode cL_law 1648 = .ok (.aload_n 3, 1) := sorry
theorem dL_law_1649 : decode cL_law 1649 = .ok (.iconst 0, 1) := sorry
theorem dL_law_1650 : decode cL_law 1650 = .ok (.laload, 1) := sorry
theorem dL_law_1651 : decode cL_law 1651 = .ok (.iload 6, 2) := sorry
theorem dL_law_1653 : decode cL_law 1653 = .ok (.i2l, 1) := sorry
theorem dL_law_1654 : decode cL_law 1654 = .ok (.lcmp, 1) := sorry
theorem dL_law_1655 : decode cL_law 1655 = .ok (.ifCond .eq 5, 3) := sorry
theorem dL_law_1658 : decode cL_law 1658 = .ok (.iconst 0, 1) := sorry
theorem dL_law_1659 : decode cL_law 1659 = .ok (.ireturn, 1) := sorry
theorem dL_law_1660 : decode cL_law 1660 = .ok (.goto 1124, 3) := sorry
theorem dL_law_1663 : decode cL_law 1663 = .ok (.aload_n 1, 1) := sorry
theorem dL_law_1664 : decode cL_law 1664 = .ok (.aload_n 0, 1) := sorry
theorem dL_law_1665 : decode cL_law 1665 = .ok (.iload 4, 2) := sorry
theorem dL_law_1667 : decode cL_law 1667 = .ok (.iconst 1, 1) := sorry
theorem dL_law_1668 : decode cL_law 1668 = .ok (.iadd, 1) := sorry
theorem dL_law_1669 : decode cL_law 1669 = .ok (.iaload, 1) := sorry
theorem dL_law_1670 : decode cL_law 1670 = .ok (.aload_n 0, 1) := sorry
theorem dL_law_1671 : decode cL_law 1671 = .ok (.iload 4, 2) := sorry
theorem dL_law_1673 : decode cL_law 1673 = .ok (.iconst 2, 1) := sorry
theorem dL_law_1674 : decode cL_law 1674 = .ok (.iadd, 1) := sorry
theorem dL_law_1675 : decode cL_law 1675 = .ok (.iaload, 1) := sorry
theorem dL_law_1676 : decode cL_law 1676 = .ok (.aload_n 3, 1) := sorry
theorem dL_law_1677 : decode cL_law 1677 = .ok (.invokestatic 203, 3) := sorry
theorem dL_law_1680 : decode cL_law 1680 = .ok (.istore 5, 2) := sorry
theorem dL_law_1682 : decode cL_law 1682 = .ok (.aload_n 2, 1) := sorry
theorem dL_law_1683 : decode cL_law 1683 = .ok (.aload_n 0, 1) := sorry
theorem dL_law_1684 : decode cL_law 1684 = .ok (.iload 4, 2) := sorry
theorem dL_law_1686 : decode cL_law 1686 = .ok (.iconst 1, 1) := sorry
theorem dL_law_1687 : decode cL_law 1687 = .ok (.iadd, 1) := sorry
theorem dL_law_1688 : decode cL_law 1688 = .ok (.iaload, 1) := sorry
theorem dL_law_1689 : decode cL_law 1689 = .ok (.aload_n 0, 1) := sorry
theorem dL_law_1690 : decode cL_law 1690 = .ok (.iload 4, 2) := sorry
theorem dL_law_1692 : decode cL_law 1692 = .ok (.iconst 2, 1) := sorry
theorem dL_law_1693 : decode cL_law 1693 = .ok (.iadd, 1) := sorry
theorem dL_law_1694 : decode cL_law 1694 = .ok (.iaload, 1) := sorry
theorem dL_law_1695 : decode cL_law 1695 = .ok (.invokevirtual 205, 3) := sorry
theorem dL_law_1698 : decode cL_law 1698 = .ok (.istore 6, 2) := sorry
theorem dL_law_1700 : decode cL_law 1700 = .ok (.aload_n 2, 1) := sorry
theorem dL_law_1701 : decode cL_law 1701 = .ok (.invokevirtual 135, 3) := sorry
theorem dL_law_1704 : decode cL_law 1704 = .ok (.iload 5, 2) := sorry
theorem dL_law_1706 : decode cL_law 1706 = .ok (.if_icmp .eq 5, 3) := sorry
theorem dL_law_1709 : decode cL_law 1709 = .ok (.iconst 0, 1) := sorry
theorem dL_law_1710 : decode cL_law 1710 = .ok (.ireturn, 1) := sorry
theorem dL_law_1711 : decode cL_law 1711 = .ok (.iload 5, 2) := sorry
theorem dL_law_1713 : decode cL_law 1713 = .ok (.ifCond .ne 15, 3) := sorry
theorem dL_law_1716 : decode cL_law 1716 = .ok (.aload_n 3, 1) := sorry
theorem dL_law_1717 : decode cL_law 1717 = .ok (.iconst 0, 1) := sorry
theorem dL_law_1718 : decode cL_law 1718 = .ok (.laload, 1) := sorry
theorem dL_law_1719 : decode cL_law 1719 = .ok (.iload 6, 2) := sorry
theorem dL_law_1721 : decode cL_law 1721 = .ok (.i2l, 1) := sorry
theorem dL_law_1722 : decode cL_law 1722 = .ok (.lcmp, 1) := sorry
theorem dL_law_1723 : decode cL_law 1723 = .ok (.ifCond .eq 5, 3) := sorry
theorem dL_law_1726 : decode cL_law 1726 = .ok (.iconst 0, 1) := sorry
theorem dL_law_1727 : decode cL_law 1727 = .ok (.ireturn, 1) := sorry
theorem dL_law_1728 : decode cL_law 1728 = .ok (.goto 1056, 3) := sorry
theorem dL_law_1731 : decode cL_law 1731 = .ok (.aload_n 1, 1) := sorry
theorem dL_law_1732 : decode cL_law 1732 = .ok (.aload_n 0, 1) := sorry
theorem dL_law_1733 : decode cL_law 1733 = .ok (.iload 4, 2) := sorry
theorem dL_law_1735 : decode cL_law 1735 = .ok (.iconst 1, 1) := sorry
theorem dL_law_1736 : decode cL_law 1736 = .ok (.iadd, 1) := sorry
theorem dL_law_1737 : decode cL_law 1737 = .ok (.iaload, 1) := sorry
theorem dL_law_1738 : decode cL_law 1738 = .ok (.aload_n 3, 1) := sorry
theorem dL_law_1739 : decode cL_law 1739 = .ok (.invokestatic 206, 3) := sorry
theorem dL_law_1742 : decode cL_law 1742 = .ok (.istore 5, 2) := sorry
theorem dL_law_1744 : decode cL_law 1744 = .ok (.aload_n 2, 1) := sorry
theorem dL_law_1745 : decode cL_law 1745 = .ok (.aload_n 0, 1) := sorry
theorem dL_law_1746 : decode cL_law 1746 = .ok (.iload 4, 2) := sorry
theorem dL_law_1748 : decode cL_law 1748 = .ok (.iconst 1, 1) := sorry
theorem dL_law_1749 : decode cL_law 1749 = .ok (.iadd, 1) := sorry
theorem dL_law_1750 : decode cL_law 1750 = .ok (.iaload, 1) := sorry
theorem dL_law_1751 : decode cL_law 1751 = .ok (.invokevirtual 208, 3) := sorry
theorem dL_law_1754 : decode cL_law 1754 = .ok (.istore 6, 2) := sorry
theorem dL_law_1756 : decode cL_law 1756 = .ok (.aload_n 2, 1) := sorry
theorem dL_law_1757 : decode cL_law 1757 = .ok (.invokevirtual 135, 3) := sorry
theorem dL_law_1760 : decode cL_law 1760 = .ok (.iload 5, 2) := sorry
theorem dL_law_1762 : decode cL_law 1762 = .ok (.if_icmp .eq 5, 3) := sorry
theorem dL_law_1765 : decode cL_law 1765 = .ok (.iconst 0, 1) := sorry
theorem dL_law_1766 : decode cL_law 1766 = .ok (.ireturn, 1) := sorry
theorem dL_law_1767 : decode cL_law 1767 = .ok (.iload 5, 2) := sorry
theorem dL_law_1769 : decode cL_law 1769 = .ok (.ifCond .ne 15, 3) := sorry
theorem dL_law_1772 : decode cL_law 1772 = .ok (.aload_n 3, 1) := sorry
theorem dL_law_1773 : decode cL_law 1773 = .ok (.iconst 0, 1) := sorry
theorem dL_law_1774 : decode cL_law 1774 = .ok (.laload, 1) := sorry
theorem dL_law_1775 : decode cL_law 1775 = .ok (.iload 6, 2) := sorry
theorem dL_law_1777 : decode cL_law 1777 = .ok (.i2l, 1) := sorry
theorem dL_law_1778 : decode cL_law 1778 = .ok (.lcmp, 1) := sorry
theorem dL_law_1779 : decode cL_law 1779 = .ok (.ifCond .eq 5, 3) := sorry
theorem dL_law_1782 : decode cL_law 1782 = .ok (.iconst 0, 1) := sorry
theorem dL_law_1783 : decode cL_law 1783 = .ok (.ireturn, 1) := sorry
theorem dL_law_1784 : decode cL_law 1784 = .ok (.goto 1000, 3) := sorry
theorem dL_law_1787 : decode cL_law 1787 = .ok (.aload_n 1, 1) := sorry
theorem dL_law_1788 : decode cL_law 1788 = .ok (.aload_n 0, 1) := sorry
theorem dL_law_1789 : decode cL_law 1789 = .ok (.iload 4, 2) := sorry
theorem dL_law_1791 : decode cL_law 1791 = .ok (.iconst 1, 1) := sorry
theorem dL_law_1792 : decode cL_law 1792 = .ok (.iadd, 1) := sorry
theorem dL_law_1793 : decode cL_law 1793 = .ok (.iaload, 1) := sorry
theorem dL_law_1794 : decode cL_law 1794 = .ok (.aload_n 3, 1) := sorry
theorem dL_law_1795 : decode cL_law 1795 = .ok (.invokestatic 209, 3) := sorry
theorem dL_law_1798 : decode cL_law 1798 = .ok (.istore 5, 2) := sorry
theorem dL_law_1800 : decode cL_law 1800 = .ok (.aload_n 2, 1) := sorry
theorem dL_law_1801 : decode cL_law 1801 = .ok (.aload_n 0, 1) := sorry
theorem dL_law_1802 : decode cL_law 1802 = .ok (.iload 4, 2) := sorry
theorem dL_law_1804 : decode cL_law 1804 = .ok (.iconst 1, 1) := sorry
theorem dL_law_1805 : decode cL_law 1805 = .ok (.iadd, 1) := sorry
theorem dL_law_1806 : decode cL_law 1806 = .ok (.iaload, 1) := sorry
theorem dL_law_1807 : decode cL_law 1807 = .ok (.invokevirtual 211, 3) := sorry
theorem dL_law_1810 : decode cL_law 1810 = .ok (.istore 6, 2) := sorry
theorem dL_law_1812 : decode cL_law 1812 = .ok (.aload_n 2, 1) := sorry
theorem dL_law_1813 : decode cL_law 1813 = .ok (.invokevirtual 135, 3) := sorry
theorem dL_law_1816 : decode cL_law 1816 = .ok (.iload 5, 2) := sorry
theorem dL_law_1818 : decode cL_law 1818 = .ok (.if_icmp .eq 5, 3) := sorry
theorem dL_law_1821 : decode cL_law 1821 = .ok (.iconst 0, 1) := sorry
theorem dL_law_1822 : decode cL_law 1822 = .ok (.ireturn, 1) := sorry
theorem dL_law_1823 : decode cL_law 1823 = .ok (.iload 5, 2) := sorry
theorem dL_law_1825 : decode cL_law 1825 = .ok (.ifCond .ne 15, 3) := sorry
theorem dL_law_1828 : decode cL_law 1828 = .ok (.aload_n 3, 1) := sorry
theorem dL_law_1829 : decode cL_law 1829 = .ok (.iconst 0, 1) := sorry
theorem dL_law_1830 : decode cL_law 1830 = .ok (.laload, 1) := sorry
theorem dL_law_1831 : decode cL_law 1831 = .ok (.iload 6, 2) := sorry
theorem dL_law_1833 : decode cL_law 1833 = .ok (.i2l, 1) := sorry
theorem dL_law_1834 : decode cL_law 1834 = .ok (.lcmp, 1) := sorry
theorem dL_law_1835 : decode cL_law 1835 = .ok (.ifCond .eq 5, 3) := sorry
theorem dL_law_1838 : decode cL_law 1838 = .ok (.iconst 0, 1) := sorry
theorem dL_law_1839 : decode cL_law 1839 = .ok (.ireturn, 1) := sorry
theorem dL_law_1840 : decode cL_law 1840 = .ok (.goto 944, 3) := sorry
theorem dL_law_1843 : decode cL_law 1843 = .ok (.aload_n 1, 1) := sorry
theorem dL_law_1844 : decode cL_law 1844 = .ok (.aload_n 0, 1) := sorry
theorem dL_law_1845 : decode cL_law 1845 = .ok (.iload 4, 2) := sorry
theorem dL_law_1847 : decode cL_law 1847 = .ok (.iconst 1, 1) := sorry
theorem dL_law_1848 : decode cL_law 1848 = .ok (.iadd, 1) := sorry
theorem dL_law_1849 : decode cL_law 1849 = .ok (.iaload, 1) := sorry
theorem dL_law_1850 : decode cL_law 1850 = .ok (.aload_n 0, 1) := sorry
theorem dL_law_1851 : decode cL_law 1851 = .ok (.iload 4, 2) := sorry
theorem dL_law_1853 : decode cL_law 1853 = .ok (.iconst 2, 1) := sorry
theorem dL_law_1854 : decode cL_law 1854 = .ok (.iadd, 1) := sorry
theorem dL_law_1855 : decode cL_law 1855 = .ok (.iaload, 1) := sorry
theorem dL_law_1856 : decode cL_law 1856 = .ok (.aload_n 0, 1) := sorry
theorem dL_law_1857 : decode cL_law 1857 = .ok (.iload 4, 2) := sorry
theorem dL_law_1859 : decode cL_law 1859 = .ok (.iconst 3, 1) := sorry
theorem dL_law_1860 : decode cL_law 1860 = .ok (.iadd, 1) := sorry
theorem dL_law_1861 : decode cL_law 1861 = .ok (.iaload, 1) := sorry
theorem dL_law_1862 : decode cL_law 1862 = .ok (.aload_n 3, 1) := sorry
theorem dL_law_1863 : decode cL_law 1863 = .ok (.invokestatic 212, 3) := sorry
theorem dL_law_1866 : decode cL_law 1866 = .ok (.istore 5, 2) := sorry
theorem dL_law_1868 : decode cL_law 1868 = .ok (.aload_n 2, 1) := sorry
theorem dL_law_1869 : decode cL_law 1869 = .ok (.aload_n 0, 1) := sorry
theorem dL_law_1870 : decode cL_law 1870 = .ok (.iload 4, 2) := sorry
theorem dL_law_1872 : decode cL_law 1872 = .ok (.iconst 1, 1) := sorry
theorem dL_law_1873 : decode cL_law 1873 = .ok (.iadd, 1) := sorry
theorem dL_law_1874 : decode cL_law 1874 = .ok (.iaload, 1) := sorry
theorem dL_law_1875 : decode cL_law 1875 = .ok (.aload_n 0, 1) := sorry
theorem dL_law_1876 : decode cL_law 1876 = .ok (.iload 4, 2) := sorry
theorem dL_law_1878 : decode cL_law 1878 = .ok (.iconst 2, 1) := sorry
theorem dL_law_1879 : decode cL_law 1879 = .ok (.iadd, 1) := sorry
theorem dL_law_1880 : decode cL_law 1880 = .ok (.iaload, 1) := sorry
theorem dL_law_1881 : decode cL_law 1881 = .ok (.aload_n 0, 1) := sorry
theorem dL_law_1882 : decode cL_law 1882 = .ok (.iload 4, 2) := sorry
theorem dL_law_1884 : decode cL_law 1884 = .ok (.iconst 3, 1) := sorry
theorem dL_law_1885 : decode cL_law 1885 = .ok (.iadd, 1) := sorry
theorem dL_law_1886 : decode cL_law 1886 = .ok (.iaload, 1) := sorry
theorem dL_law_1887 : decode cL_law 1887 = .ok (.invokevirtual 214, 3) := sorry
theorem dL_law_1890 : decode cL_law 1890 = .ok (.istore 6, 2) := sorry
theorem dL_law_1892 : decode cL_law 1892 = .ok (.aload_n 2, 1) := sorry
theorem dL_law_1893 : decode cL_law 1893 = .ok (.invokevirtual 135, 3) := sorry
theorem dL_law_1896 : decode cL_law 1896 = .ok (.iload 5, 2) := sorry
theorem dL_law_1898 : decode cL_law 1898 = .ok (.if_icmp .eq 5, 3) := sorry
theorem dL_law_1901 : decode cL_law 1901 = .ok (.iconst 0, 1) := sorry
theorem dL_law_1902 : decode cL_law 1902 = .ok (.ireturn, 1) := sorry
theorem dL_law_1903 : decode cL_law 1903 = .ok (.iload 5, 2) := sorry
theorem dL_law_1905 : decode cL_law 1905 = .ok (.ifCond .ne 15, 3) := sorry
theorem dL_law_1908 : decode cL_law 1908 = .ok (.aload_n 3, 1) := sorry
theorem dL_law_1909 : decode cL_law 1909 = .ok (.iconst 0, 1) := sorry
theorem dL_law_1910 : decode cL_law 1910 = .ok (.laload, 1) := sorry
theorem dL_law_1911 : decode cL_law 1911 = .ok (.iload 6, 2) := sorry
theorem dL_law_1913 : decode cL_law 1913 = .ok (.i2l, 1) := sorry
theorem dL_law_1914 : decode cL_law 1914 = .ok (.lcmp, 1) := sorry
theorem dL_law_1915 : decode cL_law 1915 = .ok (.ifCond .eq 5, 3) := sorry
theorem dL_law_1918 : decode cL_law 1918 = .ok (.iconst 0, 1) := sorry
theorem dL_law_1919 : decode cL_law 1919 = .ok (.ireturn, 1) := sorry
theorem dL_law_1920 : decode cL_law 1920 = .ok (.goto 864, 3) := sorry
theorem dL_law_1923 : decode cL_law 1923 = .ok (.aload_n 1, 1) := sorry
theorem dL_law_1924 : decode cL_law 1924 = .ok (.aload_n 0, 1) := sorry
theorem dL_law_1925 : decode cL_law 1925 = .ok (.iload 4, 2) := sorry
theorem dL_law_1927 : decode cL_law 1927 = .ok (.iconst 1, 1) := sorry
theorem dL_law_1928 : decode cL_law 1928 = .ok (.iadd, 1) := sorry
theorem dL_law_1929 : decode cL_law 1929 = .ok (.iaload, 1) := sorry
theorem dL_law_1930 : decode cL_law 1930 = .ok (.aload_n 0, 1) := sorry
theorem dL_law_1931 : decode cL_law 1931 = .ok (.iload 4, 2) := sorry
theorem dL_law_1933 : decode cL_law 1933 = .ok (.iconst 2, 1) := sorry
theorem dL_law_1934 : decode cL_law 1934 = .ok (.iadd, 1) := sorry
theorem dL_law_1935 : decode cL_law 1935 = .ok (.iaload, 1) := sorry
theorem dL_law_1936 : decode cL_law 1936 = .ok (.aload_n 0, 1) := sorry
theorem dL_law_1937 : decode cL_law 1937 = .ok (.iload 4, 2) := sorry
theorem dL_law_1939 : decode cL_law 1939 = .ok (.iconst 3, 1) := sorry
theorem dL_law_1940 : decode cL_law 1940 = .ok (.iadd, 1) := sorry
theorem dL_law_1941 : decode cL_law 1941 = .ok (.iaload, 1) := sorry
theorem dL_law_1942 : decode cL_law 1942 = .ok (.aload_n 0, 1) := sorry
theorem dL_law_1943 : decode cL_law 1943 = .ok (.iload 4, 2) := sorry
theorem dL_law_1945 : decode cL_law 1945 = .ok (.iconst 4, 1) := sorry
theorem dL_law_1946 : decode cL_law 1946 = .ok (.iadd, 1) := sorry
theorem dL_law_1947 : decode cL_law 1947 = .ok (.iaload, 1) := sorry
theorem dL_law_1948 : decode cL_law 1948 = .ok (.aload_n 0, 1) := sorry
theorem dL_law_1949 : decode cL_law 1949 = .ok (.iload 4, 2) := sorry
theorem dL_law_1951 : decode cL_law 1951 = .ok (.iconst 5, 1) := sorry
theorem dL_law_1952 : decode cL_law 1952 = .ok (.iadd, 1) := sorry
theorem dL_law_1953 : decode cL_law 1953 = .ok (.iaload, 1) := sorry
theorem dL_law_1954 : decode cL_law 1954 = .ok (.aload_n 3, 1) := sorry
theorem dL_law_1955 : decode cL_law 1955 = .ok (.invokestatic 215, 3) := sorry
theorem dL_law_1958 : decode cL_law 1958 = .ok (.istore 5, 2) := sorry
theorem dL_law_1960 : decode cL_law 1960 = .ok (.aload_n 2, 1) := sorry
theorem dL_law_1961 : decode cL_law 1961 = .ok (.aload_n 0, 1) := sorry
theorem dL_law_1962 : decode cL_law 1962 = .ok (.iload 4, 2) := sorry
theorem dL_law_1964 : decode cL_law 1964 = .ok (.iconst 1, 1) := sorry
theorem dL_law_1965 : decode cL_law 1965 = .ok (.iadd, 1) := sorry
theorem dL_law_1966 : decode cL_law 1966 = .ok (.iaload, 1) := sorry
theorem dL_law_1967 : decode cL_law 1967 = .ok (.aload_n 0, 1) := sorry
theorem dL_law_1968 : decode cL_law 1968 = .ok (.iload 4, 2) := sorry
theorem dL_law_1970 : decode cL_law 1970 = .ok (.iconst 2, 1) := sorry
theorem dL_law_1971 : decode cL_law 1971 = .ok (.iadd, 1) := sorry
theorem dL_law_1972 : decode cL_law 1972 = .ok (.iaload, 1) := sorry
theorem dL_law_1973 : decode cL_law 1973 = .ok (.aload_n 0, 1) := sorry
theorem dL_law_1974 : decode cL_law 1974 = .ok (.iload 4, 2) := sorry
theorem dL_law_1976 : decode cL_law 1976 = .ok (.iconst 3, 1) := sorry
theorem dL_law_1977 : decode cL_law 1977 = .ok (.iadd, 1) := sorry
theorem dL_law_1978 : decode cL_law 1978 = .ok (.iaload, 1) := sorry
theorem dL_law_1979 : decode cL_law 1979 = .ok (.aload_n 0, 1) := sorry
theorem dL_law_1980 : decode cL_law 1980 = .ok (.iload 4, 2) := sorry
theorem dL_law_1982 : decode cL_law 1982 = .ok (.iconst 4, 1) := sorry
theorem dL_law_1983 : decode cL_law 1983 = .ok (.iadd, 1) := sorry
theorem dL_law_1984 : decode cL_law 1984 = .ok (.iaload, 1) := sorry
theorem dL_law_1985 : decode cL_law 1985 = .ok (.aload_n 0, 1) := sorry
theorem dL_law_1986 : decode cL_law 1986 = .ok (.iload 4, 2) := sorry
theorem dL_law_1988 : decode cL_law 1988 = .ok (.iconst 5, 1) := sorry
theorem dL_law_1989 : decode cL_law 1989 = .ok (.iadd, 1) := sorry
theorem dL_law_1990 : decode cL_law 1990 = .ok (.iaload, 1) := sorry
theorem dL_law_1991 : decode cL_law 1991 = .ok (.invokevirtual 217, 3) := sorry
theorem dL_law_1994 : decode cL_law 1994 = .ok (.istore 6, 2) := sorry
theorem dL_law_1996 : decode cL_law 1996 = .ok (.aload_n 2, 1) := sorry
theorem dL_law_1997 : decode cL_law 1997 = .ok (.invokevirtual 135, 3) := sorry
theorem dL_law_2000 : decode cL_law 2000 = .ok (.iload 5, 2) := sorry
theorem dL_law_2002 : decode cL_law 2002 = .ok (.if_icmp .eq 5, 3) := sorry
theorem dL_law_2005 : decode cL_law 2005 = .ok (.iconst 0, 1) := sorry
theorem dL_law_2006 : decode cL_law 2006 = .ok (.ireturn, 1) := sorry
theorem dL_law_2007 : decode cL_law 2007 = .ok (.iload 5, 2) := sorry
theorem dL_law_2009 : decode cL_law 2009 = .ok (.ifCond .ne 15, 3) := sorry
theorem dL_law_2012 : decode cL_law 2012 = .ok (.aload_n 3, 1) := sorry
theorem dL_law_2013 : decode cL_law 2013 = .ok (.iconst 0, 1) := sorry
theorem dL_law_2014 : decode cL_law 2014 = .ok (.laload, 1) := sorry
theorem dL_law_2015 : decode cL_law 2015 = .ok (.iload 6, 2) := sorry
theorem dL_law_2017 : decode cL_law 2017 = .ok (.i2l, 1) := sorry
theorem dL_law_2018 : decode cL_law 2018 = .ok (.lcmp, 1) := sorry
theorem dL_law_2019 : decode cL_law 2019 = .ok (.ifCond .eq 5, 3) := sorry
theorem dL_law_2022 : decode cL_law 2022 = .ok (.iconst 0, 1) := sorry
theorem dL_law_2023 : decode cL_law 2023 = .ok (.ireturn, 1) := sorry
theorem dL_law_2024 : decode cL_law 2024 = .ok (.goto 760, 3) := sorry
theorem dL_law_2027 : decode cL_law 2027 = .ok (.aload_n 1, 1) := sorry
theorem dL_law_2028 : decode cL_law 2028 = .ok (.aload_n 0, 1) := sorry
theorem dL_law_2029 : decode cL_law 2029 = .ok (.iload 4, 2) := sorry
theorem dL_law_2031 : decode cL_law 2031 = .ok (.iconst 1, 1) := sorry
theorem dL_law_2032 : decode cL_law 2032 = .ok (.iadd, 1) := sorry
theorem dL_law_2033 : decode cL_law 2033 = .ok (.iaload, 1) := sorry
theorem dL_law_2034 : decode cL_law 2034 = .ok (.aload_n 3, 1) := sorry
theorem dL_law_2035 : decode cL_law 2035 = .ok (.invokestatic 218, 3) := sorry
theorem dL_law_2038 : decode cL_law 2038 = .ok (.istore 5, 2) := sorry
theorem dL_law_2040 : decode cL_law 2040 = .ok (.aload_n 2, 1) := sorry
theorem dL_law_2041 : decode cL_law 2041 = .ok (.aload_n 0, 1) := sorry
theorem dL_law_2042 : decode cL_law 2042 = .ok (.iload 4, 2) := sorry
theorem dL_law_2044 : decode cL_law 2044 = .ok (.iconst 1, 1) := sorry
theorem dL_law_2045 : decode cL_law 2045 = .ok (.iadd, 1) := sorry
theorem dL_law_2046 : decode cL_law 2046 = .ok (.iaload, 1) := sorry
theorem dL_law_2047 : decode cL_law 2047 = .ok (.invokevirtual 220, 3) := sorry
theorem dL_law_2050 : decode cL_law 2050 = .ok (.istore 6, 2) := sorry
theorem dL_law_2052 : decode cL_law 2052 = .ok (.aload_n 2, 1) := sorry
theorem dL_law_2053 : decode cL_law 2053 = .ok (.invokevirtual 135, 3) := sorry
theorem dL_law_2056 : decode cL_law 2056 = .ok (.iload 5, 2) := sorry
theorem dL_law_2058 : decode cL_law 2058 = .ok (.if_icmp .eq 5, 3) := sorry
theorem dL_law_2061 : decode cL_law 2061 = .ok (.iconst 0, 1) := sorry
theorem dL_law_2062 : decode cL_law 2062 = .ok (.ireturn, 1) := sorry
theorem dL_law_2063 : decode cL_law 2063 = .ok (.iload 5, 2) := sorry
theorem dL_law_2065 : decode cL_law 2065 = .ok (.ifCond .ne 15, 3) := sorry
theorem dL_law_2068 : decode cL_law 2068 = .ok (.aload_n 3, 1) := sorry
theorem dL_law_2069 : decode cL_law 2069 = .ok (.iconst 0, 1) := sorry
theorem dL_law_2070 : decode cL_law 2070 = .ok (.laload, 1) := sorry
theorem dL_law_2071 : decode cL_law 2071 = .ok (.iload 6, 2) := sorry
theorem dL_law_2073 : decode cL_law 2073 = .ok (.i2l, 1) := sorry
theorem dL_law_2074 : decode cL_law 2074 = .ok (.lcmp, 1) := sorry
theorem dL_law_2075 : decode cL_law 2075 = .ok (.ifCond .eq 5, 3) := sorry
theorem dL_law_2078 : decode cL_law 2078 = .ok (.iconst 0, 1) := sorry
theorem dL_law_2079 : decode cL_law 2079 = .ok (.ireturn, 1) := sorry
theorem dL_law_2080 : decode cL_law 2080 = .ok (.goto 704, 3) := sorry
theorem dL_law_2083 : decode cL_law 2083 = .ok (.aload_n 1, 1) := sorry
theorem dL_law_2084 : decode cL_law 2084 = .ok (.aload_n 0, 1) := sorry
theorem dL_law_2085 : decode cL_law 2085 = .ok (.iload 4, 2) := sorry
theorem dL_law_2087 : decode cL_law 2087 = .ok (.iconst 1, 1) := sorry
theorem dL_law_2088 : decode cL_law 2088 = .ok (.iadd, 1) := sorry
theorem dL_law_2089 : decode cL_law 2089 = .ok (.iaload, 1) := sorry
theorem dL_law_2090 : decode cL_law 2090 = .ok (.aload_n 0, 1) := sorry
theorem dL_law_2091 : decode cL_law 2091 = .ok (.iload 4, 2) := sorry
theorem dL_law_2093 : decode cL_law 2093 = .ok (.iconst 2, 1) := sorry
theorem dL_law_2094 : decode cL_law 2094 = .ok (.iadd, 1) := sorry
theorem dL_law_2095 : decode cL_law 2095 = .ok (.iaload, 1) := sorry
theorem dL_law_2096 : decode cL_law 2096 = .ok (.aload_n 3, 1) := sorry
theorem dL_law_2097 : decode cL_law 2097 = .ok (.invokestatic 221, 3) := sorry
theorem dL_law_2100 : decode cL_law 2100 = .ok (.istore 5, 2) := sorry
theorem dL_law_2102 : decode cL_law 2102 = .ok (.aload_n 2, 1) := sorry
theorem dL_law_2103 : decode cL_law 2103 = .ok (.aload_n 0, 1) := sorry
theorem dL_law_2104 : decode cL_law 2104 = .ok (.iload 4, 2) := sorry
theorem dL_law_2106 : decode cL_law 2106 = .ok (.iconst 1, 1) := sorry
theorem dL_law_2107 : decode cL_law 2107 = .ok (.iadd, 1) := sorry
theorem dL_law_2108 : decode cL_law 2108 = .ok (.iaload, 1) := sorry
theorem dL_law_2109 : decode cL_law 2109 = .ok (.aload_n 0, 1) := sorry
theorem dL_law_2110 : decode cL_law 2110 = .ok (.iload 4, 2) := sorry
theorem dL_law_2112 : decode cL_law 2112 = .ok (.iconst 2, 1) := sorry
theorem dL_law_2113 : decode cL_law 2113 = .ok (.iadd, 1) := sorry
theorem dL_law_2114 : decode cL_law 2114 = .ok (.iaload, 1) := sorry
theorem dL_law_2115 : decode cL_law 2115 = .ok (.invokevirtual 223, 3) := sorry
theorem dL_law_2118 : decode cL_law 2118 = .ok (.istore 6, 2) := sorry
theorem dL_law_2120 : decode cL_law 2120 = .ok (.aload_n 2, 1) := sorry
theorem dL_law_2121 : decode cL_law 2121 = .ok (.invokevirtual 135, 3) := sorry
theorem dL_law_2124 : decode cL_law 2124 = .ok (.iload 5, 2) := sorry
theorem dL_law_2126 : decode cL_law 2126 = .ok (.if_icmp .eq 5, 3) := sorry
theorem dL_law_2129 : decode cL_law 2129 = .ok (.iconst 0, 1) := sorry
theorem dL_law_2130 : decode cL_law 2130 = .ok (.ireturn, 1) := sorry
theorem dL_law_2131 : decode cL_law 2131 = .ok (.iload 5, 2) := sorry
theorem dL_law_2133 : decode cL_law 2133 = .ok (.ifCond .ne 15, 3) := sorry
theorem dL_law_2136 : decode cL_law 2136 = .ok (.aload_n 3, 1) := sorry
theorem dL_law_2137 : decode cL_law 2137 = .ok (.iconst 0, 1) := sorry
theorem dL_law_2138 : decode cL_law 2138 = .ok (.laload, 1) := sorry
theorem dL_law_2139 : decode cL_law 2139 = .ok (.iload 6, 2) := sorry
theorem dL_law_2141 : decode cL_law 2141 = .ok (.i2l, 1) := sorry
theorem dL_law_2142 : decode cL_law 2142 = .ok (.lcmp, 1) := sorry
theorem dL_law_2143 : decode cL_law 2143 = .ok (.ifCond .eq 5, 3) := sorry
theorem dL_law_2146 : decode cL_law 2146 = .ok (.iconst 0, 1) := sorry
theorem dL_law_2147 : decode cL_law 2147 = .ok (.ireturn, 1) := sorry
theorem dL_law_2148 : decode cL_law 2148 = .ok (.goto 636, 3) := sorry
theorem dL_law_2151 : decode cL_law 2151 = .ok (.aload_n 1, 1) := sorry
theorem dL_law_2152 : decode cL_law 2152 = .ok (.aload_n 0, 1) := sorry
theorem dL_law_2153 : decode cL_law 2153 = .ok (.iload 4, 2) := sorry
theorem dL_law_2155 : decode cL_law 2155 = .ok (.iconst 1, 1) := sorry
theorem dL_law_2156 : decode cL_law 2156 = .ok (.iadd, 1) := sorry
theorem dL_law_2157 : decode cL_law 2157 = .ok (.iaload, 1) := sorry
theorem dL_law_2158 : decode cL_law 2158 = .ok (.aload_n 0, 1) := sorry
theorem dL_law_2159 : decode cL_law 2159 = .ok (.iload 4, 2) := sorry
theorem dL_law_2161 : decode cL_law 2161 = .ok (.iconst 2, 1) := sorry
theorem dL_law_2162 : decode cL_law 2162 = .ok (.iadd, 1) := sorry
theorem dL_law_2163 : decode cL_law 2163 = .ok (.iaload, 1) := sorry
theorem dL_law_2164 : decode cL_law 2164 = .ok (.aload_n 0, 1) := sorry
theorem dL_law_2165 : decode cL_law 2165 = .ok (.iload 4, 2) := sorry
theorem dL_law_2167 : decode cL_law 2167 = .ok (.iconst 3, 1) := sorry
theorem dL_law_2168 : decode cL_law 2168 = .ok (.iadd, 1) := sorry
theorem dL_law_2169 : decode cL_law 2169 = .ok (.iaload, 1) := sorry
theorem dL_law_2170 : decode cL_law 2170 = .ok (.aload_n 3, 1) := sorry
theorem dL_law_2171 : decode cL_law 2171 = .ok (.invokestatic 224, 3) := sorry
theorem dL_law_2174 : decode cL_law 2174 = .ok (.istore 5, 2) := sorry
theorem dL_law_2176 : decode cL_law 2176 = .ok (.aload_n 2, 1) := sorry
theorem dL_law_2177 : decode cL_law 2177 = .ok (.aload_n 0, 1) := sorry
theorem dL_law_2178 : decode cL_law 2178 = .ok (.iload 4, 2) := sorry
theorem dL_law_2180 : decode cL_law 2180 = .ok (.iconst 1, 1) := sorry
theorem dL_law_2181 : decode cL_law 2181 = .ok (.iadd, 1) := sorry
theorem dL_law_2182 : decode cL_law 2182 = .ok (.iaload, 1) := sorry
theorem dL_law_2183 : decode cL_law 2183 = .ok (.aload_n 0, 1) := sorry
theorem dL_law_2184 : decode cL_law 2184 = .ok (.iload 4, 2) := sorry
theorem dL_law_2186 : decode cL_law 2186 = .ok (.iconst 2, 1) := sorry
theorem dL_law_2187 : decode cL_law 2187 = .ok (.iadd, 1) := sorry
theorem dL_law_2188 : decode cL_law 2188 = .ok (.iaload, 1) := sorry
theorem dL_law_2189 : decode cL_law 2189 = .ok (.aload_n 0, 1) := sorry
theorem dL_law_2190 : decode cL_law 2190 = .ok (.iload 4, 2) := sorry
theorem dL_law_2192 : decode cL_law 2192 = .ok (.iconst 3, 1) := sorry
theorem dL_law_2193 : decode cL_law 2193 = .ok (.iadd, 1) := sorry
theorem dL_law_2194 : decode cL_law 2194 = .ok (.iaload, 1) := sorry
theorem dL_law_2195 : decode cL_law 2195 = .ok (.invokevirtual 226, 3) := sorry
theorem dL_law_2198 : decode cL_law 2198 = .ok (.istore 6, 2) := sorry
theorem dL_law_2200 : decode cL_law 2200 = .ok (.aload_n 2, 1) := sorry
theorem dL_law_2201 : decode cL_law 2201 = .ok (.invokevirtual 135, 3) := sorry
theorem dL_law_2204 : decode cL_law 2204 = .ok (.iload 5, 2) := sorry
theorem dL_law_2206 : decode cL_law 2206 = .ok (.if_icmp .eq 5, 3) := sorry
theorem dL_law_2209 : decode cL_law 2209 = .ok (.iconst 0, 1) := sorry
theorem dL_law_2210 : decode cL_law 2210 = .ok (.ireturn, 1) := sorry
theorem dL_law_2211 : decode cL_law 2211 = .ok (.iload 5, 2) := sorry
theorem dL_law_2213 : decode cL_law 2213 = .ok (.ifCond .ne 15, 3) := sorry
theorem dL_law_2216 : decode cL_law 2216 = .ok (.aload_n 3, 1) := sorry
theorem dL_law_2217 : decode cL_law 2217 = .ok (.iconst 0, 1) := sorry
theorem dL_law_2218 : decode cL_law 2218 = .ok (.laload, 1) := sorry
theorem dL_law_2219 : decode cL_law 2219 = .ok (.iload 6, 2) := sorry
theorem dL_law_2221 : decode cL_law 2221 = .ok (.i2l, 1) := sorry
theorem dL_law_2222 : decode cL_law 2222 = .ok (.lcmp, 1) := sorry
theorem dL_law_2223 : decode cL_law 2223 = .ok (.ifCond .eq 5, 3) := sorry
theorem dL_law_2226 : decode cL_law 2226 = .ok (.iconst 0, 1) := sorry
theorem dL_law_2227 : decode cL_law 2227 = .ok (.ireturn, 1) := sorry
theorem dL_law_2228 : decode cL_law 2228 = .ok (.goto 556, 3) := sorry
theorem dL_law_2231 : decode cL_law 2231 = .ok (.aload_n 1, 1) := sorry
theorem dL_law_2232 : decode cL_law 2232 = .ok (.aload_n 0, 1) := sorry
theorem dL_law_2233 : decode cL_law 2233 = .ok (.iload 4, 2) := sorry
theorem dL_law_2235 : decode cL_law 2235 = .ok (.iconst 1, 1) := sorry
theorem dL_law_2236 : decode cL_law 2236 = .ok (.iadd, 1) := sorry
theorem dL_law_2237 : decode cL_law 2237 = .ok (.iaload, 1) := sorry
theorem dL_law_2238 : decode cL_law 2238 = .ok (.aload_n 0, 1) := sorry
theorem dL_law_2239 : decode cL_law 2239 = .ok (.iload 4, 2) := sorry
theorem dL_law_2241 : decode cL_law 2241 = .ok (.iconst 2, 1) := sorry
theorem dL_law_2242 : decode cL_law 2242 = .ok (.iadd, 1) := sorry
theorem dL_law_2243 : decode cL_law 2243 = .ok (.iaload, 1) := sorry
theorem dL_law_2244 : decode cL_law 2244 = .ok (.aload_n 3, 1) := sorry
theorem dL_law_2245 : decode cL_law 2245 = .ok (.invokestatic 227, 3) := sorry
theorem dL_law_2248 : decode cL_law 2248 = .ok (.istore 5, 2) := sorry
theorem dL_law_2250 : decode cL_law 2250 = .ok (.aload_n 2, 1) := sorry
theorem dL_law_2251 : decode cL_law 2251 = .ok (.aload_n 0, 1) := sorry
theorem dL_law_2252 : decode cL_law 2252 = .ok (.iload 4, 2) := sorry
theorem dL_law_2254 : decode cL_law 2254 = .ok (.iconst 1, 1) := sorry
theorem dL_law_2255 : decode cL_law 2255 = .ok (.iadd, 1) := sorry
theorem dL_law_2256 : decode cL_law 2256 = .ok (.iaload, 1) := sorry
theorem dL_law_2257 : decode cL_law 2257 = .ok (.aload_n 0, 1) := sorry
theorem dL_law_2258 : decode cL_law 2258 = .ok (.iload 4, 2) := sorry
theorem dL_law_2260 : decode cL_law 2260 = .ok (.iconst 2, 1) := sorry
theorem dL_law_2261 : decode cL_law 2261 = .ok (.iadd, 1) := sorry
theorem dL_law_2262 : decode cL_law 2262 = .ok (.iaload, 1) := sorry
theorem dL_law_2263 : decode cL_law 2263 = .ok (.invokevirtual 229, 3) := sorry
theorem dL_law_2266 : decode cL_law 2266 = .ok (.istore 6, 2) := sorry
theorem dL_law_2268 : decode cL_law 2268 = .ok (.aload_n 2, 1) := sorry
theorem dL_law_2269 : decode cL_law 2269 = .ok (.invokevirtual 135, 3) := sorry
theorem dL_law_2272 : decode cL_law 2272 = .ok (.iload 5, 2) := sorry
theorem dL_law_2274 : decode cL_law 2274 = .ok (.if_icmp .eq 5, 3) := sorry
theorem dL_law_2277 : decode cL_law 2277 = .ok (.iconst 0, 1) := sorry
theorem dL_law_2278 : decode cL_law 2278 = .ok (.ireturn, 1) := sorry
theorem dL_law_2279 : decode cL_law 2279 = .ok (.iload 5, 2) := sorry
theorem dL_law_2281 : decode cL_law 2281 = .ok (.ifCond .ne 15, 3) := sorry
theorem dL_law_2284 : decode cL_law 2284 = .ok (.aload_n 3, 1) := sorry
theorem dL_law_2285 : decode cL_law 2285 = .ok (.iconst 0, 1) := sorry
theorem dL_law_2286 : decode cL_law 2286 = .ok (.laload, 1) := sorry
theorem dL_law_2287 : decode cL_law 2287 = .ok (.iload 6, 2) := sorry
theorem dL_law_2289 : decode cL_law 2289 = .ok (.i2l, 1) := sorry
theorem dL_law_2290 : decode cL_law 2290 = .ok (.lcmp, 1) := sorry
theorem dL_law_2291 : decode cL_law 2291 = .ok (.ifCond .eq 5, 3) := sorry
theorem dL_law_2294 : decode cL_law 2294 = .ok (.iconst 0, 1) := sorry
theorem dL_law_2295 : decode cL_law 2295 = .ok (.ireturn, 1) := sorry
theorem dL_law_2296 : decode cL_law 2296 = .ok (.goto 488, 3) := sorry
theorem dL_law_2299 : decode cL_law 2299 = .ok (.aload_n 1, 1) := sorry
theorem dL_law_2300 : decode cL_law 2300 = .ok (.aload_n 0, 1) := sorry
theorem dL_law_2301 : decode cL_law 2301 = .ok (.iload 4, 2) := sorry
theorem dL_law_2303 : decode cL_law 2303 = .ok (.iconst 1, 1) := sorry
theorem dL_law_2304 : decode cL_law 2304 = .ok (.iadd, 1) := sorry
theorem dL_law_2305 : decode cL_law 2305 = .ok (.iaload, 1) := sorry
theorem dL_law_2306 : decode cL_law 2306 = .ok (.aload_n 3, 1) := sorry
theorem dL_law_2307 : decode cL_law 2307 = .ok (.invokestatic 230, 3) := sorry
theorem dL_law_2310 : decode cL_law 2310 = .ok (.istore 5, 2) := sorry
theorem dL_law_2312 : decode cL_law 2312 = .ok (.aload_n 2, 1) := sorry
theorem dL_law_2313 : decode cL_law 2313 = .ok (.aload_n 0, 1) := sorry
theorem dL_law_2314 : decode cL_law 2314 = .ok (.iload 4, 2) := sorry
theorem dL_law_2316 : decode cL_law 2316 = .ok (.iconst 1, 1) := sorry
theorem dL_law_2317 : decode cL_law 2317 = .ok (.iadd, 1) := sorry
theorem dL_law_2318 : decode cL_law 2318 = .ok (.iaload, 1) := sorry
theorem dL_law_2319 : decode cL_law 2319 = .ok (.invokevirtual 232, 3) := sorry
theorem dL_law_2322 : decode cL_law 2322 = .ok (.istore 6, 2) := sorry
theorem dL_law_2324 : decode cL_law 2324 = .ok (.aload_n 2, 1) := sorry
theorem dL_law_2325 : decode cL_law 2325 = .ok (.invokevirtual 135, 3) := sorry
theorem dL_law_2328 : decode cL_law 2328 = .ok (.iload 5, 2) := sorry
theorem dL_law_2330 : decode cL_law 2330 = .ok (.if_icmp .eq 5, 3) := sorry
theorem dL_law_2333 : decode cL_law 2333 = .ok (.iconst 0, 1) := sorry
theorem dL_law_2334 : decode cL_law 2334 = .ok (.ireturn, 1) := sorry
theorem dL_law_2335 : decode cL_law 2335 = .ok (.iload 5, 2) := sorry
theorem dL_law_2337 : decode cL_law 2337 = .ok (.ifCond .ne 22, 3) := sorry
theorem dL_law_2340 : decode cL_law 2340 = .ok (.aload_n 3, 1) := sorry
theorem dL_law_2341 : decode cL_law 2341 = .ok (.iconst 0, 1) := sorry
theorem dL_law_2342 : decode cL_law 2342 = .ok (.laload, 1) := sorry
theorem dL_law_2343 : decode cL_law 2343 = .ok (.iload 6, 2) := sorry
theorem dL_law_2345 : decode cL_law 2345 = .ok (.ifCond .eq 7, 3) := sorry
theorem dL_law_2348 : decode cL_law 2348 = .ok (.lconst 1, 1) := sorry
theorem dL_law_2349 : decode cL_law 2349 = .ok (.goto 4, 3) := sorry
theorem dL_law_2352 : decode cL_law 2352 = .ok (.lconst 0, 1) := sorry
theorem dL_law_2353 : decode cL_law 2353 = .ok (.lcmp, 1) := sorry
theorem dL_law_2354 : decode cL_law 2354 = .ok (.ifCond .eq 5, 3) := sorry
theorem dL_law_2357 : decode cL_law 2357 = .ok (.iconst 0, 1) := sorry
theorem dL_law_2358 : decode cL_law 2358 = .ok (.ireturn, 1) := sorry
theorem dL_law_2359 : decode cL_law 2359 = .ok (.goto 425, 3) := sorry
theorem dL_law_2362 : decode cL_law 2362 = .ok (.aload_n 1, 1) := sorry
theorem dL_law_2363 : decode cL_law 2363 = .ok (.aload_n 0, 1) := sorry
theorem dL_law_2364 : decode cL_law 2364 = .ok (.iload 4, 2) := sorry
theorem dL_law_2366 : decode cL_law 2366 = .ok (.iconst 1, 1) := sorry
theorem dL_law_2367 : decode cL_law 2367 = .ok (.iadd, 1) := sorry
theorem dL_law_2368 : decode cL_law 2368 = .ok (.iaload, 1) := sorry
theorem dL_law_2369 : decode cL_law 2369 = .ok (.aload_n 3, 1) := sorry
theorem dL_law_2370 : decode cL_law 2370 = .ok (.invokestatic 233, 3) := sorry
theorem dL_law_2373 : decode cL_law 2373 = .ok (.istore 5, 2) := sorry
theorem dL_law_2375 : decode cL_law 2375 = .ok (.aload_n 2, 1) := sorry
theorem dL_law_2376 : decode cL_law 2376 = .ok (.aload_n 0, 1) := sorry
theorem dL_law_2377 : decode cL_law 2377 = .ok (.iload 4, 2) := sorry
theorem dL_law_2379 : decode cL_law 2379 = .ok (.iconst 1, 1) := sorry
theorem dL_law_2380 : decode cL_law 2380 = .ok (.iadd, 1) := sorry
theorem dL_law_2381 : decode cL_law 2381 = .ok (.iaload, 1) := sorry
theorem dL_law_2382 : decode cL_law 2382 = .ok (.invokevirtual 235, 3) := sorry
theorem dL_law_2385 : decode cL_law 2385 = .ok (.istore 6, 2) := sorry
theorem dL_law_2387 : decode cL_law 2387 = .ok (.aload_n 2, 1) := sorry
theorem dL_law_2388 : decode cL_law 2388 = .ok (.invokevirtual 135, 3) := sorry
theorem dL_law_2391 : decode cL_law 2391 = .ok (.iload 5, 2) := sorry
theorem dL_law_2393 : decode cL_law 2393 = .ok (.if_icmp .eq 5, 3) := sorry
theorem dL_law_2396 : decode cL_law 2396 = .ok (.iconst 0, 1) := sorry
theorem dL_law_2397 : decode cL_law 2397 = .ok (.ireturn, 1) := sorry
theorem dL_law_2398 : decode cL_law 2398 = .ok (.iload 5, 2) := sorry
theorem dL_law_2400 : decode cL_law 2400 = .ok (.ifCond .ne 15, 3) := sorry
theorem dL_law_2403 : decode cL_law 2403 = .ok (.aload_n 3, 1) := sorry
theorem dL_law_2404 : decode cL_law 2404 = .ok (.iconst 0, 1) := sorry
theorem dL_law_2405 : decode cL_law 2405 = .ok (.laload, 1) := sorry
theorem dL_law_2406 : decode cL_law 2406 = .ok (.iload 6, 2) := sorry
theorem dL_law_2408 : decode cL_law 2408 = .ok (.i2l, 1) := sorry
theorem dL_law_2409 : decode cL_law 2409 = .ok (.lcmp, 1) := sorry
theorem dL_law_2410 : decode cL_law 2410 = .ok (.ifCond .eq 5, 3) := sorry
theorem dL_law_2413 : decode cL_law 2413 = .ok (.iconst 0, 1) := sorry
theorem dL_law_2414 : decode cL_law 2414 = .ok (.ireturn, 1) := sorry
theorem dL_law_2415 : decode cL_law 2415 = .ok (.goto 369, 3) := sorry
theorem dL_law_2418 : decode cL_law 2418 = .ok (.aload_n 1, 1) := sorry
theorem dL_law_2419 : decode cL_law 2419 = .ok (.aload_n 0, 1) := sorry
theorem dL_law_2420 : decode cL_law 2420 = .ok (.iload 4, 2) := sorry
theorem dL_law_2422 : decode cL_law 2422 = .ok (.iconst 1, 1) := sorry
theorem dL_law_2423 : decode cL_law 2423 = .ok (.iadd, 1) := sorry
theorem dL_law_2424 : decode cL_law 2424 = .ok (.iaload, 1) := sorry
theorem dL_law_2425 : decode cL_law 2425 = .ok (.aload_n 3, 1) := sorry
theorem dL_law_2426 : decode cL_law 2426 = .ok (.invokestatic 236, 3) := sorry
theorem dL_law_2429 : decode cL_law 2429 = .ok (.istore 5, 2) := sorry
theorem dL_law_2431 : decode cL_law 2431 = .ok (.aload_n 2, 1) := sorry
theorem dL_law_2432 : decode cL_law 2432 = .ok (.aload_n 0, 1) := sorry
theorem dL_law_2433 : decode cL_law 2433 = .ok (.iload 4, 2) := sorry
theorem dL_law_2435 : decode cL_law 2435 = .ok (.iconst 1, 1) := sorry
theorem dL_law_2436 : decode cL_law 2436 = .ok (.iadd, 1) := sorry
theorem dL_law_2437 : decode cL_law 2437 = .ok (.iaload, 1) := sorry
theorem dL_law_2438 : decode cL_law 2438 = .ok (.invokevirtual 238, 3) := sorry
theorem dL_law_2441 : decode cL_law 2441 = .ok (.lstore 6, 2) := sorry
theorem dL_law_2443 : decode cL_law 2443 = .ok (.aload_n 2, 1) := sorry
theorem dL_law_2444 : decode cL_law 2444 = .ok (.invokevirtual 135, 3) := sorry
theorem dL_law_2447 : decode cL_law 2447 = .ok (.iload 5, 2) := sorry
theorem dL_law_2449 : decode cL_law 2449 = .ok (.if_icmp .eq 5, 3) := sorry
theorem dL_law_2452 : decode cL_law 2452 = .ok (.iconst 0, 1) := sorry
theorem dL_law_2453 : decode cL_law 2453 = .ok (.ireturn, 1) := sorry
theorem dL_law_2454 : decode cL_law 2454 = .ok (.iload 5, 2) := sorry
theorem dL_law_2456 : decode cL_law 2456 = .ok (.ifCond .ne 14, 3) := sorry
theorem dL_law_2459 : decode cL_law 2459 = .ok (.aload_n 3, 1) := sorry
theorem dL_law_2460 : decode cL_law 2460 = .ok (.iconst 0, 1) := sorry
theorem dL_law_2461 : decode cL_law 2461 = .ok (.laload, 1) := sorry
theorem dL_law_2462 : decode cL_law 2462 = .ok (.lload 6, 2) := sorry
theorem dL_law_2464 : decode cL_law 2464 = .ok (.lcmp, 1) := sorry
theorem dL_law_2465 : decode cL_law 2465 = .ok (.ifCond .eq 5, 3) := sorry
theorem dL_law_2468 : decode cL_law 2468 = .ok (.iconst 0, 1) := sorry
theorem dL_law_2469 : decode cL_law 2469 = .ok (.ireturn, 1) := sorry
theorem dL_law_2470 : decode cL_law 2470 = .ok (.goto 314, 3) := sorry
theorem dL_law_2473 : decode cL_law 2473 = .ok (.aload_n 1, 1) := sorry
theorem dL_law_2474 : decode cL_law 2474 = .ok (.invokevirtual 239, 3) := sorry
theorem dL_law_2477 : decode cL_law 2477 = .ok (.aload_n 2, 1) := sorry
theorem dL_law_2478 : decode cL_law 2478 = .ok (.invokevirtual 242, 3) := sorry
theorem dL_law_2481 : decode cL_law 2481 = .ok (.if_icmp .eq 303, 3) := sorry
theorem dL_law_2484 : decode cL_law 2484 = .ok (.iconst 0, 1) := sorry
theorem dL_law_2485 : decode cL_law 2485 = .ok (.ireturn, 1) := sorry
theorem dL_law_2486 : decode cL_law 2486 = .ok (.aload_n 1, 1) := sorry
theorem dL_law_2487 : decode cL_law 2487 = .ok (.aload_n 0, 1) := sorry
theorem dL_law_2488 : decode cL_law 2488 = .ok (.iload 4, 2) := sorry
theorem dL_law_2490 : decode cL_law 2490 = .ok (.iconst 1, 1) := sorry
theorem dL_law_2491 : decode cL_law 2491 = .ok (.iadd, 1) := sorry
theorem dL_law_2492 : decode cL_law 2492 = .ok (.iaload, 1) := sorry
theorem dL_law_2493 : decode cL_law 2493 = .ok (.aload_n 3, 1) := sorry
theorem dL_law_2494 : decode cL_law 2494 = .ok (.invokestatic 243, 3) := sorry
theorem dL_law_2497 : decode cL_law 2497 = .ok (.istore 5, 2) := sorry
theorem dL_law_2499 : decode cL_law 2499 = .ok (.aload_n 2, 1) := sorry
theorem dL_law_2500 : decode cL_law 2500 = .ok (.aload_n 0, 1) := sorry
theorem dL_law_2501 : decode cL_law 2501 = .ok (.iload 4, 2) := sorry
theorem dL_law_2503 : decode cL_law 2503 = .ok (.iconst 1, 1) := sorry
theorem dL_law_2504 : decode cL_law 2504 = .ok (.iadd, 1) := sorry
theorem dL_law_2505 : decode cL_law 2505 = .ok (.iaload, 1) := sorry
theorem dL_law_2506 : decode cL_law 2506 = .ok (.invokevirtual 245, 3) := sorry
theorem dL_law_2509 : decode cL_law 2509 = .ok (.istore 6, 2) := sorry
theorem dL_law_2511 : decode cL_law 2511 = .ok (.aload_n 2, 1) := sorry
theorem dL_law_2512 : decode cL_law 2512 = .ok (.invokevirtual 135, 3) := sorry
theorem dL_law_2515 : decode cL_law 2515 = .ok (.iload 5, 2) := sorry
theorem dL_law_2517 : decode cL_law 2517 = .ok (.if_icmp .eq 5, 3) := sorry
theorem dL_law_2520 : decode cL_law 2520 = .ok (.iconst 0, 1) := sorry
theorem dL_law_2521 : decode cL_law 2521 = .ok (.ireturn, 1) := sorry
theorem dL_law_2522 : decode cL_law 2522 = .ok (.iload 5, 2) := sorry
theorem dL_law_2524 : decode cL_law 2524 = .ok (.ifCond .ne 22, 3) := sorry
theorem dL_law_2527 : decode cL_law 2527 = .ok (.aload_n 3, 1) := sorry
theorem dL_law_2528 : decode cL_law 2528 = .ok (.iconst 0, 1) := sorry
theorem dL_law_2529 : decode cL_law 2529 = .ok (.laload, 1) := sorry
theorem dL_law_2530 : decode cL_law 2530 = .ok (.iload 6, 2) := sorry
theorem dL_law_2532 : decode cL_law 2532 = .ok (.ifCond .eq 7, 3) := sorry
theorem dL_law_2535 : decode cL_law 2535 = .ok (.lconst 1, 1) := sorry
theorem dL_law_2536 : decode cL_law 2536 = .ok (.goto 4, 3) := sorry
theorem dL_law_2539 : decode cL_law 2539 = .ok (.lconst 0, 1) := sorry
theorem dL_law_2540 : decode cL_law 2540 = .ok (.lcmp, 1) := sorry
theorem dL_law_2541 : decode cL_law 2541 = .ok (.ifCond .eq 5, 3) := sorry
theorem dL_law_2544 : decode cL_law 2544 = .ok (.iconst 0, 1) := sorry
theorem dL_law_2545 : decode cL_law 2545 = .ok (.ireturn, 1) := sorry
theorem dL_law_2546 : decode cL_law 2546 = .ok (.goto 238, 3) := sorry
theorem dL_law_2549 : decode cL_law 2549 = .ok (.aload_n 1, 1) := sorry
theorem dL_law_2550 : decode cL_law 2550 = .ok (.aload_n 0, 1) := sorry
theorem dL_law_2551 : decode cL_law 2551 = .ok (.iload 4, 2) := sorry
theorem dL_law_2553 : decode cL_law 2553 = .ok (.iconst 1, 1) := sorry
theorem dL_law_2554 : decode cL_law 2554 = .ok (.iadd, 1) := sorry
theorem dL_law_2555 : decode cL_law 2555 = .ok (.iaload, 1) := sorry
theorem dL_law_2556 : decode cL_law 2556 = .ok (.aload_n 3, 1) := sorry
theorem dL_law_2557 : decode cL_law 2557 = .ok (.invokestatic 246, 3) := sorry
theorem dL_law_2560 : decode cL_law 2560 = .ok (.istore 5, 2) := sorry
theorem dL_law_2562 : decode cL_law 2562 = .ok (.aload_n 2, 1) := sorry
theorem dL_law_2563 : decode cL_law 2563 = .ok (.aload_n 0, 1) := sorry
theorem dL_law_2564 : decode cL_law 2564 = .ok (.iload 4, 2) := sorry
theorem dL_law_2566 : decode cL_law 2566 = .ok (.iconst 1, 1) := sorry
theorem dL_law_2567 : decode cL_law 2567 = .ok (.iadd, 1) := sorry
theorem dL_law_2568 : decode cL_law 2568 = .ok (.iaload, 1) := sorry
theorem dL_law_2569 : decode cL_law 2569 = .ok (.invokevirtual 248, 3) := sorry
theorem dL_law_2572 : decode cL_law 2572 = .ok (.istore 6, 2) := sorry
theorem dL_law_2574 : decode cL_law 2574 = .ok (.aload_n 2, 1) := sorry
theorem dL_law_2575 : decode cL_law 2575 = .ok (.invokevirtual 135, 3) := sorry
theorem dL_law_2578 : decode cL_law 2578 = .ok (.iload 5, 2) := sorry
theorem dL_law_2580 : decode cL_law 2580 = .ok (.if_icmp .eq 5, 3) := sorry
theorem dL_law_2583 : decode cL_law 2583 = .ok (.iconst 0, 1) := sorry
theorem dL_law_2584 : decode cL_law 2584 = .ok (.ireturn, 1) := sorry
theorem dL_law_2585 : decode cL_law 2585 = .ok (.iload 5, 2) := sorry
theorem dL_law_2587 : decode cL_law 2587 = .ok (.ifCond .ne 15, 3) := sorry
theorem dL_law_2590 : decode cL_law 2590 = .ok (.aload_n 3, 1) := sorry
theorem dL_law_2591 : decode cL_law 2591 = .ok (.iconst 0, 1) := sorry
theorem dL_law_2592 : decode cL_law 2592 = .ok (.laload, 1) := sorry
theorem dL_law_2593 : decode cL_law 2593 = .ok (.iload 6, 2) := sorry
theorem dL_law_2595 : decode cL_law 2595 = .ok (.i2l, 1) := sorry
theorem dL_law_2596 : decode cL_law 2596 = .ok (.lcmp, 1) := sorry
theorem dL_law_2597 : decode cL_law 2597 = .ok (.ifCond .eq 5, 3) := sorry
theorem dL_law_2600 : decode cL_law 2600 = .ok (.iconst 0, 1) := sorry
theorem dL_law_2601 : decode cL_law 2601 = .ok (.ireturn, 1) := sorry
theorem dL_law_2602 : decode cL_law 2602 = .ok (.goto 182, 3) := sorry
theorem dL_law_2605 : decode cL_law 2605 = .ok (.aload_n 1, 1) := sorry
theorem dL_law_2606 : decode cL_law 2606 = .ok (.invokevirtual 249, 3) := sorry
theorem dL_law_2609 : decode cL_law 2609 = .ok (.aload_n 2, 1) := sorry
theorem dL_law_2610 : decode cL_law 2610 = .ok (.invokevirtual 252, 3) := sorry
theorem dL_law_2613 : decode cL_law 2613 = .ok (.if_icmp .eq 171, 3) := sorry
theorem dL_law_2616 : decode cL_law 2616 = .ok (.iconst 0, 1) := sorry
theorem dL_law_2617 : decode cL_law 2617 = .ok (.ireturn, 1) := sorry
theorem dL_law_2618 : decode cL_law 2618 = .ok (.aload_n 1, 1) := sorry
theorem dL_law_2619 : decode cL_law 2619 = .ok (.aload_n 0, 1) := sorry
theorem dL_law_2620 : decode cL_law 2620 = .ok (.iload 4, 2) := sorry
theorem dL_law_2622 : decode cL_law 2622 = .ok (.iconst 1, 1) := sorry
theorem dL_law_2623 : decode cL_law 2623 = .ok (.iadd, 1) := sorry
theorem dL_law_2624 : decode cL_law 2624 = .ok (.iaload, 1) := sorry
theorem dL_law_2625 : decode cL_law 2625 = .ok (.aload_n 3, 1) := sorry
theorem dL_law_2626 : decode cL_law 2626 = .ok (.invokestatic 253, 3) := sorry
theorem dL_law_2629 : decode cL_law 2629 = .ok (.istore 5, 2) := sorry
theorem dL_law_2631 : decode cL_law 2631 = .ok (.aload_n 2, 1) := sorry
theorem dL_law_2632 : decode cL_law 2632 = .ok (.aload_n 0, 1) := sorry
theorem dL_law_2633 : decode cL_law 2633 = .ok (.iload 4, 2) := sorry
theorem dL_law_2635 : decode cL_law 2635 = .ok (.iconst 1, 1) := sorry
theorem dL_law_2636 : decode cL_law 2636 = .ok (.iadd, 1) := sorry
theorem dL_law_2637 : decode cL_law 2637 = .ok (.iaload, 1) := sorry
theorem dL_law_2638 : decode cL_law 2638 = .ok (.invokevirtual 255, 3) := sorry
theorem dL_law_2641 : decode cL_law 2641 = .ok (.istore 6, 2) := sorry
theorem dL_law_2643 : decode cL_law 2643 = .ok (.aload_n 2, 1) := sorry
theorem dL_law_2644 : decode cL_law 2644 = .ok (.invokevirtual 135, 3) := sorry
theorem dL_law_2647 : decode cL_law 2647 = .ok (.iload 5, 2) := sorry
theorem dL_law_2649 : decode cL_law 2649 = .ok (.if_icmp .eq 5, 3) := sorry
theorem dL_law_2652 : decode cL_law 2652 = .ok (.iconst 0, 1) := sorry
theorem dL_law_2653 : decode cL_law 2653 = .ok (.ireturn, 1) := sorry
theorem dL_law_2654 : decode cL_law 2654 = .ok (.iload 5, 2) := sorry
theorem dL_law_2656 : decode cL_law 2656 = .ok (.ifCond .ne 15, 3) := sorry
theorem dL_law_2659 : decode cL_law 2659 = .ok (.aload_n 3, 1) := sorry
theorem dL_law_2660 : decode cL_law 2660 = .ok (.iconst 0, 1) := sorry
theorem dL_law_2661 : decode cL_law 2661 = .ok (.laload, 1) := sorry
theorem dL_law_2662 : decode cL_law 2662 = .ok (.iload 6, 2) := sorry
theorem dL_law_2664 : decode cL_law 2664 = .ok (.i2l, 1) := sorry
theorem dL_law_2665 : decode cL_law 2665 = .ok (.lcmp, 1) := sorry
theorem dL_law_2666 : decode cL_law 2666 = .ok (.ifCond .eq 5, 3) := sorry
theorem dL_law_2669 : decode cL_law 2669 = .ok (.iconst 0, 1) := sorry
theorem dL_law_2670 : decode cL_law 2670 = .ok (.ireturn, 1) := sorry
theorem dL_law_2671 : decode cL_law 2671 = .ok (.goto 113, 3) := sorry
theorem dL_law_2674 : decode cL_law 2674 = .ok (.aload_n 1, 1) := sorry
theorem dL_law_2675 : decode cL_law 2675 = .ok (.invokevirtual 256, 3) := sorry
theorem dL_law_2678 : decode cL_law 2678 = .ok (.dstore 5, 2) := sorry
theorem dL_law_2680 : decode cL_law 2680 = .ok (.aload_n 2, 1) := sorry
theorem dL_law_2681 : decode cL_law 2681 = .ok (.invokevirtual 260, 3) := sorry
theorem dL_law_2684 : decode cL_law 2684 = .ok (.dstore 7, 2) := sorry
theorem dL_law_2686 : decode cL_law 2686 = .ok (.dload 5, 2) := sorry
theorem dL_law_2688 : decode cL_law 2688 = .ok (.dload 7, 2) := sorry
theorem dL_law_2690 : decode cL_law 2690 = .ok (.dcmp .l, 1) := sorry
theorem dL_law_2691 : decode cL_law 2691 = .ok (.ifCond .eq 21, 3) := sorry
theorem dL_law_2694 : decode cL_law 2694 = .ok (.dload 5, 2) := sorry
theorem dL_law_2696 : decode cL_law 2696 = .ok (.dload 5, 2) := sorry
theorem dL_law_2698 : decode cL_law 2698 = .ok (.dcmp .l, 1) := sorry
theorem dL_law_2699 : decode cL_law 2699 = .ok (.ifCond .eq 11, 3) := sorry
theorem dL_law_2702 : decode cL_law 2702 = .ok (.dload 7, 2) := sorry
theorem dL_law_2704 : decode cL_law 2704 = .ok (.dload 7, 2) := sorry
theorem dL_law_2706 : decode cL_law 2706 = .ok (.dcmp .l, 1) := sorry
theorem dL_law_2707 : decode cL_law 2707 = .ok (.ifCond .ne 5, 3) := sorry
theorem dL_law_2710 : decode cL_law 2710 = .ok (.iconst 0, 1) := sorry
theorem dL_law_2711 : decode cL_law 2711 = .ok (.ireturn, 1) := sorry
theorem dL_law_2712 : decode cL_law 2712 = .ok (.goto 72, 3) := sorry
theorem dL_law_2715 : decode cL_law 2715 = .ok (.aload_n 1, 1) := sorry
theorem dL_law_2716 : decode cL_law 2716 = .ok (.invokevirtual 261, 3) := sorry
theorem dL_law_2719 : decode cL_law 2719 = .ok (.f2d, 1) := sorry
theorem dL_law_2720 : decode cL_law 2720 = .ok (.dstore 5, 2) := sorry
theorem dL_law_2722 : decode cL_law 2722 = .ok (.aload_n 2, 1) := sorry
theorem dL_law_2723 : decode cL_law 2723 = .ok (.invokevirtual 265, 3) := sorry
theorem dL_law_2726 : decode cL_law 2726 = .ok (.f2d, 1) := sorry
theorem dL_law_2727 : decode cL_law 2727 = .ok (.dstore 7, 2) := sorry
theorem dL_law_2729 : decode cL_law 2729 = .ok (.dload 5, 2) := sorry
theorem dL_law_2731 : decode cL_law 2731 = .ok (.dload 7, 2) := sorry
theorem dL_law_2733 : decode cL_law 2733 = .ok (.dcmp .l, 1) := sorry
theorem dL_law_2734 : decode cL_law 2734 = .ok (.ifCond .eq 21, 3) := sorry
theorem dL_law_2737 : decode cL_law 2737 = .ok (.dload 5, 2) := sorry
theorem dL_law_2739 : decode cL_law 2739 = .ok (.dload 5, 2) := sorry
theorem dL_law_2741 : decode cL_law 2741 = .ok (.dcmp .l, 1) := sorry
theorem dL_law_2742 : decode cL_law 2742 = .ok (.ifCond .eq 11, 3) := sorry
theorem dL_law_2745 : decode cL_law 2745 = .ok (.dload 7, 2) := sorry
theorem dL_law_2747 : decode cL_law 2747 = .ok (.dload 7, 2) := sorry
theorem dL_law_2749 : decode cL_law 2749 = .ok (.dcmp .l, 1) := sorry
theorem dL_law_2750 : decode cL_law 2750 = .ok (.ifCond .ne 5, 3) := sorry
theorem dL_law_2753 : decode cL_law 2753 = .ok (.iconst 0, 1) := sorry
theorem dL_law_2754 : decode cL_law 2754 = .ok (.ireturn, 1) := sorry
theorem dL_law_2755 : decode cL_law 2755 = .ok (.goto 29, 3) := sorry
theorem dL_law_2758 : decode cL_law 2758 = .ok (.aload_n 1, 1) := sorry
theorem dL_law_2759 : decode cL_law 2759 = .ok (.invokevirtual 266, 3) := sorry
theorem dL_law_2762 : decode cL_law 2762 = .ok (.aload_n 2, 1) := sorry
theorem dL_law_2763 : decode cL_law 2763 = .ok (.invokevirtual 269, 3) := sorry
theorem dL_law_2766 : decode cL_law 2766 = .ok (.if_icmp .eq 18, 3) := sorry
theorem dL_law_2769 : decode cL_law 2769 = .ok (.iconst 0, 1) := sorry
theorem dL_law_2770 : decode cL_law 2770 = .ok (.ireturn, 1) := sorry
theorem dL_law_2771 : decode cL_law 2771 = .ok (.aload_n 1, 1) := sorry
theorem dL_law_2772 : decode cL_law 2772 = .ok (.invokevirtual 270, 3) := sorry
theorem dL_law_2775 : decode cL_law 2775 = .ok (.aload_n 2, 1) := sorry
theorem dL_law_2776 : decode cL_law 2776 = .ok (.invokevirtual 273, 3) := sorry
theorem dL_law_2779 : decode cL_law 2779 = .ok (.if_icmp .eq 5, 3) := sorry
theorem dL_law_2782 : decode cL_law 2782 = .ok (.iconst 0, 1) := sorry
theorem dL_law_2783 : decode cL_law 2783 = .ok (.ireturn, 1) := sorry
theorem dL_law_2784 : decode cL_law 2784 = .ok (.iinc 4 7, 3) := sorry
theorem dL_law_2787 : decode cL_law 2787 = .ok (.goto (-2764), 3) := sorry
theorem dL_law_2790 : decode cL_law 2790 = .ok (.iconst 1, 1) := sorry
theorem dL_law_2791 : decode cL_law 2791 = .ok (.ireturn, 1) := sorry
