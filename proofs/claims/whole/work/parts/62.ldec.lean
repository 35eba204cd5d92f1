/-! DECODED: the law's helpers -/
theorem dL_consents_0 : decode cL_consents 0 = .ok (.aload_n 2, 1) := by decide +kernel
theorem dL_consents_1 : decode cL_consents 1 = .ok (.iconst 0, 1) := by decide +kernel
theorem dL_consents_2 : decode cL_consents 2 = .ok (.aload_n 0, 1) := by decide +kernel
theorem dL_consents_3 : decode cL_consents 3 = .ok (.iload_n 1, 1) := by decide +kernel
theorem dL_consents_4 : decode cL_consents 4 = .ok (.invokevirtual 7, 3) := by decide +kernel
theorem dL_consents_7 : decode cL_consents 7 = .ok (.ifCond .eq 7, 3) := by decide +kernel
theorem dL_consents_10 : decode cL_consents 10 = .ok (.lconst 1, 1) := by decide +kernel
theorem dL_consents_11 : decode cL_consents 11 = .ok (.goto 4, 3) := by decide +kernel
theorem dL_consents_14 : decode cL_consents 14 = .ok (.lconst 0, 1) := by decide +kernel
theorem dL_consents_15 : decode cL_consents 15 = .ok (.lastore, 1) := by decide +kernel
theorem dL_consents_16 : decode cL_consents 16 = .ok (.goto 6, 3) := by decide +kernel
theorem dL_consents_19 : decode cL_consents 19 = .ok (.astore_n 3, 1) := by decide +kernel
theorem dL_consents_20 : decode cL_consents 20 = .ok (.iconst 1, 1) := by decide +kernel
theorem dL_consents_21 : decode cL_consents 21 = .ok (.ireturn, 1) := by decide +kernel
theorem dL_consents_22 : decode cL_consents 22 = .ok (.iconst 0, 1) := by decide +kernel
theorem dL_consents_23 : decode cL_consents 23 = .ok (.ireturn, 1) := by decide +kernel
theorem dL_stateOf_0 : decode cL_stateOf 0 = .ok (.aload_n 2, 1) := by decide +kernel
theorem dL_stateOf_1 : decode cL_stateOf 1 = .ok (.iconst 0, 1) := by decide +kernel
theorem dL_stateOf_2 : decode cL_stateOf 2 = .ok (.aload_n 0, 1) := by decide +kernel
theorem dL_stateOf_3 : decode cL_stateOf 3 = .ok (.iload_n 1, 1) := by decide +kernel
theorem dL_stateOf_4 : decode cL_stateOf 4 = .ok (.invokevirtual 15, 3) := by decide +kernel
theorem dL_stateOf_7 : decode cL_stateOf 7 = .ok (.i2l, 1) := by decide +kernel
theorem dL_stateOf_8 : decode cL_stateOf 8 = .ok (.lastore, 1) := by decide +kernel
theorem dL_stateOf_9 : decode cL_stateOf 9 = .ok (.goto 6, 3) := by decide +kernel
theorem dL_stateOf_12 : decode cL_stateOf 12 = .ok (.astore_n 3, 1) := by decide +kernel
theorem dL_stateOf_13 : decode cL_stateOf 13 = .ok (.iconst 1, 1) := by decide +kernel
theorem dL_stateOf_14 : decode cL_stateOf 14 = .ok (.ireturn, 1) := by decide +kernel
theorem dL_stateOf_15 : decode cL_stateOf 15 = .ok (.iconst 0, 1) := by decide +kernel
theorem dL_stateOf_16 : decode cL_stateOf 16 = .ok (.ireturn, 1) := by decide +kernel
theorem dL_patronage_0 : decode cL_patronage 0 = .ok (.aload_n 3, 1) := by decide +kernel
theorem dL_patronage_1 : decode cL_patronage 1 = .ok (.iconst 0, 1) := by decide +kernel
theorem dL_patronage_2 : decode cL_patronage 2 = .ok (.aload_n 0, 1) := by decide +kernel
theorem dL_patronage_3 : decode cL_patronage 3 = .ok (.iload_n 1, 1) := by decide +kernel
theorem dL_patronage_4 : decode cL_patronage 4 = .ok (.iload_n 2, 1) := by decide +kernel
theorem dL_patronage_5 : decode cL_patronage 5 = .ok (.invokevirtual 19, 3) := by decide +kernel
theorem dL_patronage_8 : decode cL_patronage 8 = .ok (.i2l, 1) := by decide +kernel
theorem dL_patronage_9 : decode cL_patronage 9 = .ok (.lastore, 1) := by decide +kernel
theorem dL_patronage_10 : decode cL_patronage 10 = .ok (.goto 7, 3) := by decide +kernel
theorem dL_patronage_13 : decode cL_patronage 13 = .ok (.astore 4, 2) := by decide +kernel
theorem dL_patronage_15 : decode cL_patronage 15 = .ok (.iconst 1, 1) := by decide +kernel
theorem dL_patronage_16 : decode cL_patronage 16 = .ok (.ireturn, 1) := by decide +kernel
theorem dL_patronage_17 : decode cL_patronage 17 = .ok (.iconst 0, 1) := by decide +kernel
theorem dL_patronage_18 : decode cL_patronage 18 = .ok (.ireturn, 1) := by decide +kernel
theorem dL_totalPatronage_0 : decode cL_totalPatronage 0 = .ok (.aload_n 2, 1) := by decide +kernel
theorem dL_totalPatronage_1 : decode cL_totalPatronage 1 = .ok (.iconst 0, 1) := by decide +kernel
theorem dL_totalPatronage_2 : decode cL_totalPatronage 2 = .ok (.aload_n 0, 1) := by decide +kernel
theorem dL_totalPatronage_3 : decode cL_totalPatronage 3 = .ok (.iload_n 1, 1) := by decide +kernel
theorem dL_totalPatronage_4 : decode cL_totalPatronage 4 = .ok (.invokevirtual 23, 3) := by decide +kernel
theorem dL_totalPatronage_7 : decode cL_totalPatronage 7 = .ok (.i2l, 1) := by decide +kernel
theorem dL_totalPatronage_8 : decode cL_totalPatronage 8 = .ok (.lastore, 1) := by decide +kernel
theorem dL_totalPatronage_9 : decode cL_totalPatronage 9 = .ok (.goto 6, 3) := by decide +kernel
theorem dL_totalPatronage_12 : decode cL_totalPatronage 12 = .ok (.astore_n 3, 1) := by decide +kernel
theorem dL_totalPatronage_13 : decode cL_totalPatronage 13 = .ok (.iconst 1, 1) := by decide +kernel
theorem dL_totalPatronage_14 : decode cL_totalPatronage 14 = .ok (.ireturn, 1) := by decide +kernel
theorem dL_totalPatronage_15 : decode cL_totalPatronage 15 = .ok (.iconst 0, 1) := by decide +kernel
theorem dL_totalPatronage_16 : decode cL_totalPatronage 16 = .ok (.ireturn, 1) := by decide +kernel
theorem dL_certificate_0 : decode cL_certificate 0 = .ok (.aload_n 3, 1) := by decide +kernel
theorem dL_certificate_1 : decode cL_certificate 1 = .ok (.iconst 0, 1) := by decide +kernel
theorem dL_certificate_2 : decode cL_certificate 2 = .ok (.aload_n 0, 1) := by decide +kernel
theorem dL_certificate_3 : decode cL_certificate 3 = .ok (.iload_n 1, 1) := by decide +kernel
theorem dL_certificate_4 : decode cL_certificate 4 = .ok (.iload_n 2, 1) := by decide +kernel
theorem dL_certificate_5 : decode cL_certificate 5 = .ok (.invokevirtual 26, 3) := by decide +kernel
theorem dL_certificate_8 : decode cL_certificate 8 = .ok (.i2l, 1) := by decide +kernel
theorem dL_certificate_9 : decode cL_certificate 9 = .ok (.lastore, 1) := by decide +kernel
theorem dL_certificate_10 : decode cL_certificate 10 = .ok (.goto 7, 3) := by decide +kernel
theorem dL_certificate_13 : decode cL_certificate 13 = .ok (.astore 4, 2) := by decide +kernel
theorem dL_certificate_15 : decode cL_certificate 15 = .ok (.iconst 1, 1) := by decide +kernel
theorem dL_certificate_16 : decode cL_certificate 16 = .ok (.ireturn, 1) := by decide +kernel
theorem dL_certificate_17 : decode cL_certificate 17 = .ok (.iconst 0, 1) := by decide +kernel
theorem dL_certificate_18 : decode cL_certificate 18 = .ok (.ireturn, 1) := by decide +kernel
theorem dL_kindOf_0 : decode cL_kindOf 0 = .ok (.aload_n 3, 1) := by decide +kernel
theorem dL_kindOf_1 : decode cL_kindOf 1 = .ok (.iconst 0, 1) := by decide +kernel
theorem dL_kindOf_2 : decode cL_kindOf 2 = .ok (.aload_n 0, 1) := by decide +kernel
theorem dL_kindOf_3 : decode cL_kindOf 3 = .ok (.iload_n 1, 1) := by decide +kernel
theorem dL_kindOf_4 : decode cL_kindOf 4 = .ok (.iload_n 2, 1) := by decide +kernel
theorem dL_kindOf_5 : decode cL_kindOf 5 = .ok (.invokevirtual 29, 3) := by decide +kernel
theorem dL_kindOf_8 : decode cL_kindOf 8 = .ok (.i2l, 1) := by decide +kernel
theorem dL_kindOf_9 : decode cL_kindOf 9 = .ok (.lastore, 1) := by decide +kernel
theorem dL_kindOf_10 : decode cL_kindOf 10 = .ok (.goto 7, 3) := by decide +kernel
theorem dL_kindOf_13 : decode cL_kindOf 13 = .ok (.astore 4, 2) := by decide +kernel
theorem dL_kindOf_15 : decode cL_kindOf 15 = .ok (.iconst 1, 1) := by decide +kernel
theorem dL_kindOf_16 : decode cL_kindOf 16 = .ok (.ireturn, 1) := by decide +kernel
theorem dL_kindOf_17 : decode cL_kindOf 17 = .ok (.iconst 0, 1) := by decide +kernel
theorem dL_kindOf_18 : decode cL_kindOf 18 = .ok (.ireturn, 1) := by decide +kernel
theorem dL_equityOf_0 : decode cL_equityOf 0 = .ok (.aload_n 2, 1) := by decide +kernel
theorem dL_equityOf_1 : decode cL_equityOf 1 = .ok (.iconst 0, 1) := by decide +kernel
theorem dL_equityOf_2 : decode cL_equityOf 2 = .ok (.aload_n 0, 1) := by decide +kernel
theorem dL_equityOf_3 : decode cL_equityOf 3 = .ok (.iload_n 1, 1) := by decide +kernel
theorem dL_equityOf_4 : decode cL_equityOf 4 = .ok (.invokevirtual 32, 3) := by decide +kernel
theorem dL_equityOf_7 : decode cL_equityOf 7 = .ok (.i2l, 1) := by decide +kernel
theorem dL_equityOf_8 : decode cL_equityOf 8 = .ok (.lastore, 1) := by decide +kernel
theorem dL_equityOf_9 : decode cL_equityOf 9 = .ok (.goto 6, 3) := by decide +kernel
theorem dL_equityOf_12 : decode cL_equityOf 12 = .ok (.astore_n 3, 1) := by decide +kernel
theorem dL_equityOf_13 : decode cL_equityOf 13 = .ok (.iconst 1, 1) := by decide +kernel
theorem dL_equityOf_14 : decode cL_equityOf 14 = .ok (.ireturn, 1) := by decide +kernel
theorem dL_equityOf_15 : decode cL_equityOf 15 = .ok (.iconst 0, 1) := by decide +kernel
theorem dL_equityOf_16 : decode cL_equityOf 16 = .ok (.ireturn, 1) := by decide +kernel
theorem dL_equityIn_0 : decode cL_equityIn 0 = .ok (.aload_n 3, 1) := by decide +kernel
theorem dL_equityIn_1 : decode cL_equityIn 1 = .ok (.iconst 0, 1) := by decide +kernel
theorem dL_equityIn_2 : decode cL_equityIn 2 = .ok (.aload_n 0, 1) := by decide +kernel
theorem dL_equityIn_3 : decode cL_equityIn 3 = .ok (.iload_n 1, 1) := by decide +kernel
theorem dL_equityIn_4 : decode cL_equityIn 4 = .ok (.iload_n 2, 1) := by decide +kernel
theorem dL_equityIn_5 : decode cL_equityIn 5 = .ok (.invokevirtual 35, 3) := by decide +kernel
theorem dL_equityIn_8 : decode cL_equityIn 8 = .ok (.i2l, 1) := by decide +kernel
theorem dL_equityIn_9 : decode cL_equityIn 9 = .ok (.lastore, 1) := by decide +kernel
theorem dL_equityIn_10 : decode cL_equityIn 10 = .ok (.goto 7, 3) := by decide +kernel
theorem dL_equityIn_13 : decode cL_equityIn 13 = .ok (.astore 4, 2) := by decide +kernel
theorem dL_equityIn_15 : decode cL_equityIn 15 = .ok (.iconst 1, 1) := by decide +kernel
theorem dL_equityIn_16 : decode cL_equityIn 16 = .ok (.ireturn, 1) := by decide +kernel
theorem dL_equityIn_17 : decode cL_equityIn 17 = .ok (.iconst 0, 1) := by decide +kernel
theorem dL_equityIn_18 : decode cL_equityIn 18 = .ok (.ireturn, 1) := by decide +kernel
theorem dL_paidTo_0 : decode cL_paidTo 0 = .ok (.aload_n 3, 1) := by decide +kernel
theorem dL_paidTo_1 : decode cL_paidTo 1 = .ok (.iconst 0, 1) := by decide +kernel
theorem dL_paidTo_2 : decode cL_paidTo 2 = .ok (.aload_n 0, 1) := by decide +kernel
theorem dL_paidTo_3 : decode cL_paidTo 3 = .ok (.iload_n 1, 1) := by decide +kernel
theorem dL_paidTo_4 : decode cL_paidTo 4 = .ok (.iload_n 2, 1) := by decide +kernel
theorem dL_paidTo_5 : decode cL_paidTo 5 = .ok (.invokevirtual 38, 3) := by decide +kernel
theorem dL_paidTo_8 : decode cL_paidTo 8 = .ok (.i2l, 1) := by decide +kernel
theorem dL_paidTo_9 : decode cL_paidTo 9 = .ok (.lastore, 1) := by decide +kernel
theorem dL_paidTo_10 : decode cL_paidTo 10 = .ok (.goto 7, 3) := by decide +kernel
theorem dL_paidTo_13 : decode cL_paidTo 13 = .ok (.astore 4, 2) := by decide +kernel
theorem dL_paidTo_15 : decode cL_paidTo 15 = .ok (.iconst 1, 1) := by decide +kernel
theorem dL_paidTo_16 : decode cL_paidTo 16 = .ok (.ireturn, 1) := by decide +kernel
theorem dL_paidTo_17 : decode cL_paidTo 17 = .ok (.iconst 0, 1) := by decide +kernel
theorem dL_paidTo_18 : decode cL_paidTo 18 = .ok (.ireturn, 1) := by decide +kernel
theorem dL_lastAllocation_0 : decode cL_lastAllocation 0 = .ok (.aload_n 2, 1) := by decide +kernel
theorem dL_lastAllocation_1 : decode cL_lastAllocation 1 = .ok (.iconst 0, 1) := by decide +kernel
theorem dL_lastAllocation_2 : decode cL_lastAllocation 2 = .ok (.aload_n 0, 1) := by decide +kernel
theorem dL_lastAllocation_3 : decode cL_lastAllocation 3 = .ok (.iload_n 1, 1) := by decide +kernel
theorem dL_lastAllocation_4 : decode cL_lastAllocation 4 = .ok (.invokevirtual 41, 3) := by decide +kernel
theorem dL_lastAllocation_7 : decode cL_lastAllocation 7 = .ok (.i2l, 1) := by decide +kernel
theorem dL_lastAllocation_8 : decode cL_lastAllocation 8 = .ok (.lastore, 1) := by decide +kernel
theorem dL_lastAllocation_9 : decode cL_lastAllocation 9 = .ok (.goto 6, 3) := by decide +kernel
theorem dL_lastAllocation_12 : decode cL_lastAllocation 12 = .ok (.astore_n 3, 1) := by decide +kernel
theorem dL_lastAllocation_13 : decode cL_lastAllocation 13 = .ok (.iconst 1, 1) := by decide +kernel
theorem dL_lastAllocation_14 : decode cL_lastAllocation 14 = .ok (.ireturn, 1) := by decide +kernel
theorem dL_lastAllocation_15 : decode cL_lastAllocation 15 = .ok (.iconst 0, 1) := by decide +kernel
theorem dL_lastAllocation_16 : decode cL_lastAllocation 16 = .ok (.ireturn, 1) := by decide +kernel
theorem dL_lastRecapture_0 : decode cL_lastRecapture 0 = .ok (.aload_n 2, 1) := by decide +kernel
theorem dL_lastRecapture_1 : decode cL_lastRecapture 1 = .ok (.iconst 0, 1) := by decide +kernel
theorem dL_lastRecapture_2 : decode cL_lastRecapture 2 = .ok (.aload_n 0, 1) := by decide +kernel
theorem dL_lastRecapture_3 : decode cL_lastRecapture 3 = .ok (.iload_n 1, 1) := by decide +kernel
theorem dL_lastRecapture_4 : decode cL_lastRecapture 4 = .ok (.invokevirtual 44, 3) := by decide +kernel
theorem dL_lastRecapture_7 : decode cL_lastRecapture 7 = .ok (.i2l, 1) := by decide +kernel
theorem dL_lastRecapture_8 : decode cL_lastRecapture 8 = .ok (.lastore, 1) := by decide +kernel
theorem dL_lastRecapture_9 : decode cL_lastRecapture 9 = .ok (.goto 6, 3) := by decide +kernel
theorem dL_lastRecapture_12 : decode cL_lastRecapture 12 = .ok (.astore_n 3, 1) := by decide +kernel
theorem dL_lastRecapture_13 : decode cL_lastRecapture 13 = .ok (.iconst 1, 1) := by decide +kernel
theorem dL_lastRecapture_14 : decode cL_lastRecapture 14 = .ok (.ireturn, 1) := by decide +kernel
theorem dL_lastRecapture_15 : decode cL_lastRecapture 15 = .ok (.iconst 0, 1) := by decide +kernel
theorem dL_lastRecapture_16 : decode cL_lastRecapture 16 = .ok (.ireturn, 1) := by decide +kernel
theorem dL_rateOf_0 : decode cL_rateOf 0 = .ok (.aload_n 2, 1) := by decide +kernel
theorem dL_rateOf_1 : decode cL_rateOf 1 = .ok (.iconst 0, 1) := by decide +kernel
theorem dL_rateOf_2 : decode cL_rateOf 2 = .ok (.aload_n 0, 1) := by decide +kernel
theorem dL_rateOf_3 : decode cL_rateOf 3 = .ok (.iload_n 1, 1) := by decide +kernel
theorem dL_rateOf_4 : decode cL_rateOf 4 = .ok (.invokevirtual 47, 3) := by decide +kernel
theorem dL_rateOf_7 : decode cL_rateOf 7 = .ok (.f2d, 1) := by decide +kernel
theorem dL_rateOf_8 : decode cL_rateOf 8 = .ok (.dastore, 1) := by decide +kernel
theorem dL_rateOf_9 : decode cL_rateOf 9 = .ok (.goto 6, 3) := by decide +kernel
theorem dL_rateOf_12 : decode cL_rateOf 12 = .ok (.astore_n 3, 1) := by decide +kernel
theorem dL_rateOf_13 : decode cL_rateOf 13 = .ok (.iconst 1, 1) := by decide +kernel
theorem dL_rateOf_14 : decode cL_rateOf 14 = .ok (.ireturn, 1) := by decide +kernel
theorem dL_rateOf_15 : decode cL_rateOf 15 = .ok (.iconst 0, 1) := by decide +kernel
theorem dL_rateOf_16 : decode cL_rateOf 16 = .ok (.ireturn, 1) := by decide +kernel
theorem dL_ratePoints_0 : decode cL_ratePoints 0 = .ok (.aload_n 2, 1) := by decide +kernel
theorem dL_ratePoints_1 : decode cL_ratePoints 1 = .ok (.iconst 0, 1) := by decide +kernel
theorem dL_ratePoints_2 : decode cL_ratePoints 2 = .ok (.aload_n 0, 1) := by decide +kernel
theorem dL_ratePoints_3 : decode cL_ratePoints 3 = .ok (.iload_n 1, 1) := by decide +kernel
theorem dL_ratePoints_4 : decode cL_ratePoints 4 = .ok (.invokevirtual 51, 3) := by decide +kernel
theorem dL_ratePoints_7 : decode cL_ratePoints 7 = .ok (.i2l, 1) := by decide +kernel
theorem dL_ratePoints_8 : decode cL_ratePoints 8 = .ok (.lastore, 1) := by decide +kernel
theorem dL_ratePoints_9 : decode cL_ratePoints 9 = .ok (.goto 6, 3) := by decide +kernel
theorem dL_ratePoints_12 : decode cL_ratePoints 12 = .ok (.astore_n 3, 1) := by decide +kernel
theorem dL_ratePoints_13 : decode cL_ratePoints 13 = .ok (.iconst 1, 1) := by decide +kernel
theorem dL_ratePoints_14 : decode cL_ratePoints 14 = .ok (.ireturn, 1) := by decide +kernel
theorem dL_ratePoints_15 : decode cL_ratePoints 15 = .ok (.iconst 0, 1) := by decide +kernel
theorem dL_ratePoints_16 : decode cL_ratePoints 16 = .ok (.ireturn, 1) := by decide +kernel
theorem dL_meanAge_0 : decode cL_meanAge 0 = .ok (.aload_n 2, 1) := by decide +kernel
theorem dL_meanAge_1 : decode cL_meanAge 1 = .ok (.iconst 0, 1) := by decide +kernel
theorem dL_meanAge_2 : decode cL_meanAge 2 = .ok (.aload_n 0, 1) := by decide +kernel
theorem dL_meanAge_3 : decode cL_meanAge 3 = .ok (.iload_n 1, 1) := by decide +kernel
theorem dL_meanAge_4 : decode cL_meanAge 4 = .ok (.invokevirtual 54, 3) := by decide +kernel
theorem dL_meanAge_7 : decode cL_meanAge 7 = .ok (.dastore, 1) := by decide +kernel
theorem dL_meanAge_8 : decode cL_meanAge 8 = .ok (.goto 6, 3) := by decide +kernel
theorem dL_meanAge_11 : decode cL_meanAge 11 = .ok (.astore_n 3, 1) := by decide +kernel
theorem dL_meanAge_12 : decode cL_meanAge 12 = .ok (.iconst 1, 1) := by decide +kernel
theorem dL_meanAge_13 : decode cL_meanAge 13 = .ok (.ireturn, 1) := by decide +kernel
theorem dL_meanAge_14 : decode cL_meanAge 14 = .ok (.iconst 0, 1) := by decide +kernel
theorem dL_meanAge_15 : decode cL_meanAge 15 = .ok (.ireturn, 1) := by decide +kernel
theorem dL_oldestYear_0 : decode cL_oldestYear 0 = .ok (.aload_n 2, 1) := by decide +kernel
theorem dL_oldestYear_1 : decode cL_oldestYear 1 = .ok (.iconst 0, 1) := by decide +kernel
theorem dL_oldestYear_2 : decode cL_oldestYear 2 = .ok (.aload_n 0, 1) := by decide +kernel
theorem dL_oldestYear_3 : decode cL_oldestYear 3 = .ok (.iload_n 1, 1) := by decide +kernel
theorem dL_oldestYear_4 : decode cL_oldestYear 4 = .ok (.invokevirtual 58, 3) := by decide +kernel
theorem dL_oldestYear_7 : decode cL_oldestYear 7 = .ok (.i2l, 1) := by decide +kernel
theorem dL_oldestYear_8 : decode cL_oldestYear 8 = .ok (.lastore, 1) := by decide +kernel
theorem dL_oldestYear_9 : decode cL_oldestYear 9 = .ok (.goto 6, 3) := by decide +kernel
theorem dL_oldestYear_12 : decode cL_oldestYear 12 = .ok (.astore_n 3, 1) := by decide +kernel
theorem dL_oldestYear_13 : decode cL_oldestYear 13 = .ok (.iconst 1, 1) := by decide +kernel
theorem dL_oldestYear_14 : decode cL_oldestYear 14 = .ok (.ireturn, 1) := by decide +kernel
theorem dL_oldestYear_15 : decode cL_oldestYear 15 = .ok (.iconst 0, 1) := by decide +kernel
theorem dL_oldestYear_16 : decode cL_oldestYear 16 = .ok (.ireturn, 1) := by decide +kernel
theorem dL_isUniform_0 : decode cL_isUniform 0 = .ok (.aload_n 2, 1) := by decide +kernel
theorem dL_isUniform_1 : decode cL_isUniform 1 = .ok (.iconst 0, 1) := by decide +kernel
theorem dL_isUniform_2 : decode cL_isUniform 2 = .ok (.aload_n 0, 1) := by decide +kernel
theorem dL_isUniform_3 : decode cL_isUniform 3 = .ok (.iload_n 1, 1) := by decide +kernel
theorem dL_isUniform_4 : decode cL_isUniform 4 = .ok (.invokevirtual 61, 3) := by decide +kernel
theorem dL_isUniform_7 : decode cL_isUniform 7 = .ok (.ifCond .eq 7, 3) := by decide +kernel
theorem dL_isUniform_10 : decode cL_isUniform 10 = .ok (.lconst 1, 1) := by decide +kernel
theorem dL_isUniform_11 : decode cL_isUniform 11 = .ok (.goto 4, 3) := by decide +kernel
theorem dL_isUniform_14 : decode cL_isUniform 14 = .ok (.lconst 0, 1) := by decide +kernel
theorem dL_isUniform_15 : decode cL_isUniform 15 = .ok (.lastore, 1) := by decide +kernel
theorem dL_isUniform_16 : decode cL_isUniform 16 = .ok (.goto 6, 3) := by decide +kernel
theorem dL_isUniform_19 : decode cL_isUniform 19 = .ok (.astore_n 3, 1) := by decide +kernel
theorem dL_isUniform_20 : decode cL_isUniform 20 = .ok (.iconst 1, 1) := by decide +kernel
theorem dL_isUniform_21 : decode cL_isUniform 21 = .ok (.ireturn, 1) := by decide +kernel
theorem dL_isUniform_22 : decode cL_isUniform 22 = .ok (.iconst 0, 1) := by decide +kernel
theorem dL_isUniform_23 : decode cL_isUniform 23 = .ok (.ireturn, 1) := by decide +kernel
theorem dL_wouldGet_0 : decode cL_wouldGet 0 = .ok (.aload 6, 2) := by decide +kernel
theorem dL_wouldGet_2 : decode cL_wouldGet 2 = .ok (.iconst 0, 1) := by decide +kernel
theorem dL_wouldGet_3 : decode cL_wouldGet 3 = .ok (.aload_n 0, 1) := by decide +kernel
theorem dL_wouldGet_4 : decode cL_wouldGet 4 = .ok (.iload_n 1, 1) := by decide +kernel
theorem dL_wouldGet_5 : decode cL_wouldGet 5 = .ok (.iload_n 2, 1) := by decide +kernel
theorem dL_wouldGet_6 : decode cL_wouldGet 6 = .ok (.iload_n 3, 1) := by decide +kernel
theorem dL_wouldGet_7 : decode cL_wouldGet 7 = .ok (.iload 4, 2) := by decide +kernel
theorem dL_wouldGet_9 : decode cL_wouldGet 9 = .ok (.iload 5, 2) := by decide +kernel
theorem dL_wouldGet_11 : decode cL_wouldGet 11 = .ok (.invokevirtual 64, 3) := by decide +kernel
theorem dL_wouldGet_14 : decode cL_wouldGet 14 = .ok (.i2l, 1) := by decide +kernel
theorem dL_wouldGet_15 : decode cL_wouldGet 15 = .ok (.lastore, 1) := by decide +kernel
theorem dL_wouldGet_16 : decode cL_wouldGet 16 = .ok (.goto 7, 3) := by decide +kernel
theorem dL_wouldGet_19 : decode cL_wouldGet 19 = .ok (.astore 7, 2) := by decide +kernel
theorem dL_wouldGet_21 : decode cL_wouldGet 21 = .ok (.iconst 1, 1) := by decide +kernel
theorem dL_wouldGet_22 : decode cL_wouldGet 22 = .ok (.ireturn, 1) := by decide +kernel
theorem dL_wouldGet_23 : decode cL_wouldGet 23 = .ok (.iconst 0, 1) := by decide +kernel
theorem dL_wouldGet_24 : decode cL_wouldGet 24 = .ok (.ireturn, 1) := by decide +kernel
theorem dL_wouldRedeem_0 : decode cL_wouldRedeem 0 = .ok (.aload_n 3, 1) := by decide +kernel
theorem dL_wouldRedeem_1 : decode cL_wouldRedeem 1 = .ok (.iconst 0, 1) := by decide +kernel
theorem dL_wouldRedeem_2 : decode cL_wouldRedeem 2 = .ok (.aload_n 0, 1) := by decide +kernel
theorem dL_wouldRedeem_3 : decode cL_wouldRedeem 3 = .ok (.iload_n 1, 1) := by decide +kernel
theorem dL_wouldRedeem_4 : decode cL_wouldRedeem 4 = .ok (.iload_n 2, 1) := by decide +kernel
theorem dL_wouldRedeem_5 : decode cL_wouldRedeem 5 = .ok (.invokevirtual 68, 3) := by decide +kernel
theorem dL_wouldRedeem_8 : decode cL_wouldRedeem 8 = .ok (.i2l, 1) := by decide +kernel
theorem dL_wouldRedeem_9 : decode cL_wouldRedeem 9 = .ok (.lastore, 1) := by decide +kernel
theorem dL_wouldRedeem_10 : decode cL_wouldRedeem 10 = .ok (.goto 7, 3) := by decide +kernel
theorem dL_wouldRedeem_13 : decode cL_wouldRedeem 13 = .ok (.astore 4, 2) := by decide +kernel
theorem dL_wouldRedeem_15 : decode cL_wouldRedeem 15 = .ok (.iconst 1, 1) := by decide +kernel
theorem dL_wouldRedeem_16 : decode cL_wouldRedeem 16 = .ok (.ireturn, 1) := by decide +kernel
theorem dL_wouldRedeem_17 : decode cL_wouldRedeem 17 = .ok (.iconst 0, 1) := by decide +kernel
theorem dL_wouldRedeem_18 : decode cL_wouldRedeem 18 = .ok (.ireturn, 1) := by decide +kernel
theorem dL_installmentsLeft_0 : decode cL_installmentsLeft 0 = .ok (.aload_n 2, 1) := by decide +kernel
theorem dL_installmentsLeft_1 : decode cL_installmentsLeft 1 = .ok (.iconst 0, 1) := by decide +kernel
theorem dL_installmentsLeft_2 : decode cL_installmentsLeft 2 = .ok (.aload_n 0, 1) := by decide +kernel
theorem dL_installmentsLeft_3 : decode cL_installmentsLeft 3 = .ok (.iload_n 1, 1) := by decide +kernel
theorem dL_installmentsLeft_4 : decode cL_installmentsLeft 4 = .ok (.invokevirtual 71, 3) := by decide +kernel
theorem dL_installmentsLeft_7 : decode cL_installmentsLeft 7 = .ok (.i2l, 1) := by decide +kernel
theorem dL_installmentsLeft_8 : decode cL_installmentsLeft 8 = .ok (.lastore, 1) := by decide +kernel
theorem dL_installmentsLeft_9 : decode cL_installmentsLeft 9 = .ok (.goto 6, 3) := by decide +kernel
theorem dL_installmentsLeft_12 : decode cL_installmentsLeft 12 = .ok (.astore_n 3, 1) := by decide +kernel
theorem dL_installmentsLeft_13 : decode cL_installmentsLeft 13 = .ok (.iconst 1, 1) := by decide +kernel
theorem dL_installmentsLeft_14 : decode cL_installmentsLeft 14 = .ok (.ireturn, 1) := by decide +kernel
theorem dL_installmentsLeft_15 : decode cL_installmentsLeft 15 = .ok (.iconst 0, 1) := by decide +kernel
theorem dL_installmentsLeft_16 : decode cL_installmentsLeft 16 = .ok (.ireturn, 1) := by decide +kernel
theorem dL_installment_0 : decode cL_installment 0 = .ok (.aload_n 3, 1) := by decide +kernel
theorem dL_installment_1 : decode cL_installment 1 = .ok (.iconst 0, 1) := by decide +kernel
theorem dL_installment_2 : decode cL_installment 2 = .ok (.aload_n 0, 1) := by decide +kernel
theorem dL_installment_3 : decode cL_installment 3 = .ok (.iload_n 1, 1) := by decide +kernel
theorem dL_installment_4 : decode cL_installment 4 = .ok (.iload_n 2, 1) := by decide +kernel
theorem dL_installment_5 : decode cL_installment 5 = .ok (.invokevirtual 74, 3) := by decide +kernel
theorem dL_installment_8 : decode cL_installment 8 = .ok (.i2l, 1) := by decide +kernel
theorem dL_installment_9 : decode cL_installment 9 = .ok (.lastore, 1) := by decide +kernel
theorem dL_installment_10 : decode cL_installment 10 = .ok (.goto 7, 3) := by decide +kernel
theorem dL_installment_13 : decode cL_installment 13 = .ok (.astore 4, 2) := by decide +kernel
theorem dL_installment_15 : decode cL_installment 15 = .ok (.iconst 1, 1) := by decide +kernel
theorem dL_installment_16 : decode cL_installment 16 = .ok (.ireturn, 1) := by decide +kernel
theorem dL_installment_17 : decode cL_installment 17 = .ok (.iconst 0, 1) := by decide +kernel
theorem dL_installment_18 : decode cL_installment 18 = .ok (.ireturn, 1) := by decide +kernel
theorem dL_yearsUntil_0 : decode cL_yearsUntil 0 = .ok (.aload_n 3, 1) := by decide +kernel
theorem dL_yearsUntil_1 : decode cL_yearsUntil 1 = .ok (.iconst 0, 1) := by decide +kernel
theorem dL_yearsUntil_2 : decode cL_yearsUntil 2 = .ok (.aload_n 0, 1) := by decide +kernel
theorem dL_yearsUntil_3 : decode cL_yearsUntil 3 = .ok (.iload_n 1, 1) := by decide +kernel
theorem dL_yearsUntil_4 : decode cL_yearsUntil 4 = .ok (.iload_n 2, 1) := by decide +kernel
theorem dL_yearsUntil_5 : decode cL_yearsUntil 5 = .ok (.invokevirtual 77, 3) := by decide +kernel
theorem dL_yearsUntil_8 : decode cL_yearsUntil 8 = .ok (.i2l, 1) := by decide +kernel
theorem dL_yearsUntil_9 : decode cL_yearsUntil 9 = .ok (.lastore, 1) := by decide +kernel
theorem dL_yearsUntil_10 : decode cL_yearsUntil 10 = .ok (.goto 7, 3) := by decide +kernel
theorem dL_yearsUntil_13 : decode cL_yearsUntil 13 = .ok (.astore 4, 2) := by decide +kernel
theorem dL_yearsUntil_15 : decode cL_yearsUntil 15 = .ok (.iconst 1, 1) := by decide +kernel
theorem dL_yearsUntil_16 : decode cL_yearsUntil 16 = .ok (.ireturn, 1) := by decide +kernel
theorem dL_yearsUntil_17 : decode cL_yearsUntil 17 = .ok (.iconst 0, 1) := by decide +kernel
theorem dL_yearsUntil_18 : decode cL_yearsUntil 18 = .ok (.ireturn, 1) := by decide +kernel
theorem dL_partOf_0 : decode cL_partOf 0 = .ok (.aload_n 2, 1) := by decide +kernel
theorem dL_partOf_1 : decode cL_partOf 1 = .ok (.iconst 0, 1) := by decide +kernel
theorem dL_partOf_2 : decode cL_partOf 2 = .ok (.aload_n 0, 1) := by decide +kernel
theorem dL_partOf_3 : decode cL_partOf 3 = .ok (.iload_n 1, 1) := by decide +kernel
theorem dL_partOf_4 : decode cL_partOf 4 = .ok (.invokevirtual 80, 3) := by decide +kernel
theorem dL_partOf_7 : decode cL_partOf 7 = .ok (.dastore, 1) := by decide +kernel
theorem dL_partOf_8 : decode cL_partOf 8 = .ok (.goto 6, 3) := by decide +kernel
theorem dL_partOf_11 : decode cL_partOf 11 = .ok (.astore_n 3, 1) := by decide +kernel
theorem dL_partOf_12 : decode cL_partOf 12 = .ok (.iconst 1, 1) := by decide +kernel
theorem dL_partOf_13 : decode cL_partOf 13 = .ok (.ireturn, 1) := by decide +kernel
theorem dL_partOf_14 : decode cL_partOf 14 = .ok (.iconst 0, 1) := by decide +kernel
theorem dL_partOf_15 : decode cL_partOf 15 = .ok (.ireturn, 1) := by decide +kernel
