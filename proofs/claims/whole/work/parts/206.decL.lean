theorem dL_addTurbine_0 : decode cL_addTurbine 0 = .ok (.aload 4, 2) := by decide +kernel
theorem dL_addTurbine_2 : decode cL_addTurbine 2 = .ok (.iconst 0, 1) := by decide +kernel
theorem dL_addTurbine_3 : decode cL_addTurbine 3 = .ok (.aload_n 0, 1) := by decide +kernel
theorem dL_addTurbine_4 : decode cL_addTurbine 4 = .ok (.iload_n 1, 1) := by decide +kernel
theorem dL_addTurbine_5 : decode cL_addTurbine 5 = .ok (.iload_n 2, 1) := by decide +kernel
theorem dL_addTurbine_6 : decode cL_addTurbine 6 = .ok (.iload_n 3, 1) := by decide +kernel
theorem dL_addTurbine_7 : decode cL_addTurbine 7 = .ok (.invokevirtual 7, 3) := by decide +kernel
theorem dL_addTurbine_10 : decode cL_addTurbine 10 = .ok (.i2l, 1) := by decide +kernel
theorem dL_addTurbine_11 : decode cL_addTurbine 11 = .ok (.lastore, 1) := by decide +kernel
theorem dL_addTurbine_12 : decode cL_addTurbine 12 = .ok (.goto 15, 3) := by decide +kernel
theorem dL_addTurbine_15 : decode cL_addTurbine 15 = .ok (.astore 5, 2) := by decide +kernel
theorem dL_addTurbine_17 : decode cL_addTurbine 17 = .ok (.iconst 1, 1) := by decide +kernel
theorem dL_addTurbine_18 : decode cL_addTurbine 18 = .ok (.ireturn, 1) := by decide +kernel
theorem dL_addTurbine_19 : decode cL_addTurbine 19 = .ok (.astore 5, 2) := by decide +kernel
theorem dL_addTurbine_21 : decode cL_addTurbine 21 = .ok (.iconst 2, 1) := by decide +kernel
theorem dL_addTurbine_22 : decode cL_addTurbine 22 = .ok (.ireturn, 1) := by decide +kernel
theorem dL_addTurbine_23 : decode cL_addTurbine 23 = .ok (.astore 5, 2) := by decide +kernel
theorem dL_addTurbine_25 : decode cL_addTurbine 25 = .ok (.iconst 3, 1) := by decide +kernel
theorem dL_addTurbine_26 : decode cL_addTurbine 26 = .ok (.ireturn, 1) := by decide +kernel
theorem dL_addTurbine_27 : decode cL_addTurbine 27 = .ok (.iconst 0, 1) := by decide +kernel
theorem dL_addTurbine_28 : decode cL_addTurbine 28 = .ok (.ireturn, 1) := by decide +kernel
theorem dL_fail_0 : decode cL_fail 0 = .ok (.aload_n 2, 1) := by decide +kernel
theorem dL_fail_1 : decode cL_fail 1 = .ok (.iconst 0, 1) := by decide +kernel
theorem dL_fail_2 : decode cL_fail 2 = .ok (.aload_n 0, 1) := by decide +kernel
theorem dL_fail_3 : decode cL_fail 3 = .ok (.iload_n 1, 1) := by decide +kernel
theorem dL_fail_4 : decode cL_fail 4 = .ok (.invokevirtual 19, 3) := by decide +kernel
theorem dL_fail_7 : decode cL_fail 7 = .ok (.i2l, 1) := by decide +kernel
theorem dL_fail_8 : decode cL_fail 8 = .ok (.lastore, 1) := by decide +kernel
theorem dL_fail_9 : decode cL_fail 9 = .ok (.goto 9, 3) := by decide +kernel
theorem dL_fail_12 : decode cL_fail 12 = .ok (.astore_n 3, 1) := by decide +kernel
theorem dL_fail_13 : decode cL_fail 13 = .ok (.iconst 1, 1) := by decide +kernel
theorem dL_fail_14 : decode cL_fail 14 = .ok (.ireturn, 1) := by decide +kernel
theorem dL_fail_15 : decode cL_fail 15 = .ok (.astore_n 3, 1) := by decide +kernel
theorem dL_fail_16 : decode cL_fail 16 = .ok (.iconst 2, 1) := by decide +kernel
theorem dL_fail_17 : decode cL_fail 17 = .ok (.ireturn, 1) := by decide +kernel
theorem dL_fail_18 : decode cL_fail 18 = .ok (.iconst 0, 1) := by decide +kernel
theorem dL_fail_19 : decode cL_fail 19 = .ok (.ireturn, 1) := by decide +kernel
theorem dL_sendCrew_0 : decode cL_sendCrew 0 = .ok (.aload_n 3, 1) := by decide +kernel
theorem dL_sendCrew_1 : decode cL_sendCrew 1 = .ok (.iconst 0, 1) := by decide +kernel
theorem dL_sendCrew_2 : decode cL_sendCrew 2 = .ok (.aload_n 0, 1) := by decide +kernel
theorem dL_sendCrew_3 : decode cL_sendCrew 3 = .ok (.iload_n 1, 1) := by decide +kernel
theorem dL_sendCrew_4 : decode cL_sendCrew 4 = .ok (.iload_n 2, 1) := by decide +kernel
theorem dL_sendCrew_5 : decode cL_sendCrew 5 = .ok (.invokevirtual 23, 3) := by decide +kernel
theorem dL_sendCrew_8 : decode cL_sendCrew 8 = .ok (.i2l, 1) := by decide +kernel
theorem dL_sendCrew_9 : decode cL_sendCrew 9 = .ok (.lastore, 1) := by decide +kernel
theorem dL_sendCrew_10 : decode cL_sendCrew 10 = .ok (.goto 15, 3) := by decide +kernel
theorem dL_sendCrew_13 : decode cL_sendCrew 13 = .ok (.astore 4, 2) := by decide +kernel
theorem dL_sendCrew_15 : decode cL_sendCrew 15 = .ok (.iconst 1, 1) := by decide +kernel
theorem dL_sendCrew_16 : decode cL_sendCrew 16 = .ok (.ireturn, 1) := by decide +kernel
theorem dL_sendCrew_17 : decode cL_sendCrew 17 = .ok (.astore 4, 2) := by decide +kernel
theorem dL_sendCrew_19 : decode cL_sendCrew 19 = .ok (.iconst 2, 1) := by decide +kernel
theorem dL_sendCrew_20 : decode cL_sendCrew 20 = .ok (.ireturn, 1) := by decide +kernel
theorem dL_sendCrew_21 : decode cL_sendCrew 21 = .ok (.astore 4, 2) := by decide +kernel
theorem dL_sendCrew_23 : decode cL_sendCrew 23 = .ok (.iconst 3, 1) := by decide +kernel
theorem dL_sendCrew_24 : decode cL_sendCrew 24 = .ok (.ireturn, 1) := by decide +kernel
theorem dL_sendCrew_25 : decode cL_sendCrew 25 = .ok (.iconst 0, 1) := by decide +kernel
theorem dL_sendCrew_26 : decode cL_sendCrew 26 = .ok (.ireturn, 1) := by decide +kernel
theorem dL_recallCrew_0 : decode cL_recallCrew 0 = .ok (.aload_n 2, 1) := by decide +kernel
theorem dL_recallCrew_1 : decode cL_recallCrew 1 = .ok (.iconst 0, 1) := by decide +kernel
theorem dL_recallCrew_2 : decode cL_recallCrew 2 = .ok (.aload_n 0, 1) := by decide +kernel
theorem dL_recallCrew_3 : decode cL_recallCrew 3 = .ok (.iload_n 1, 1) := by decide +kernel
theorem dL_recallCrew_4 : decode cL_recallCrew 4 = .ok (.invokevirtual 27, 3) := by decide +kernel
theorem dL_recallCrew_7 : decode cL_recallCrew 7 = .ok (.i2l, 1) := by decide +kernel
theorem dL_recallCrew_8 : decode cL_recallCrew 8 = .ok (.lastore, 1) := by decide +kernel
theorem dL_recallCrew_9 : decode cL_recallCrew 9 = .ok (.goto 9, 3) := by decide +kernel
theorem dL_recallCrew_12 : decode cL_recallCrew 12 = .ok (.astore_n 3, 1) := by decide +kernel
theorem dL_recallCrew_13 : decode cL_recallCrew 13 = .ok (.iconst 1, 1) := by decide +kernel
theorem dL_recallCrew_14 : decode cL_recallCrew 14 = .ok (.ireturn, 1) := by decide +kernel
theorem dL_recallCrew_15 : decode cL_recallCrew 15 = .ok (.astore_n 3, 1) := by decide +kernel
theorem dL_recallCrew_16 : decode cL_recallCrew 16 = .ok (.iconst 2, 1) := by decide +kernel
theorem dL_recallCrew_17 : decode cL_recallCrew 17 = .ok (.ireturn, 1) := by decide +kernel
theorem dL_recallCrew_18 : decode cL_recallCrew 18 = .ok (.iconst 0, 1) := by decide +kernel
theorem dL_recallCrew_19 : decode cL_recallCrew 19 = .ok (.ireturn, 1) := by decide +kernel
theorem dL_curtail_0 : decode cL_curtail 0 = .ok (.aload_n 3, 1) := by decide +kernel
theorem dL_curtail_1 : decode cL_curtail 1 = .ok (.iconst 0, 1) := by decide +kernel
theorem dL_curtail_2 : decode cL_curtail 2 = .ok (.aload_n 0, 1) := by decide +kernel
theorem dL_curtail_3 : decode cL_curtail 3 = .ok (.iload_n 1, 1) := by decide +kernel
theorem dL_curtail_4 : decode cL_curtail 4 = .ok (.iload_n 2, 1) := by decide +kernel
theorem dL_curtail_5 : decode cL_curtail 5 = .ok (.invokevirtual 30, 3) := by decide +kernel
theorem dL_curtail_8 : decode cL_curtail 8 = .ok (.i2l, 1) := by decide +kernel
theorem dL_curtail_9 : decode cL_curtail 9 = .ok (.lastore, 1) := by decide +kernel
theorem dL_curtail_10 : decode cL_curtail 10 = .ok (.goto 15, 3) := by decide +kernel
theorem dL_curtail_13 : decode cL_curtail 13 = .ok (.astore 4, 2) := by decide +kernel
theorem dL_curtail_15 : decode cL_curtail 15 = .ok (.iconst 1, 1) := by decide +kernel
theorem dL_curtail_16 : decode cL_curtail 16 = .ok (.ireturn, 1) := by decide +kernel
theorem dL_curtail_17 : decode cL_curtail 17 = .ok (.astore 4, 2) := by decide +kernel
theorem dL_curtail_19 : decode cL_curtail 19 = .ok (.iconst 2, 1) := by decide +kernel
theorem dL_curtail_20 : decode cL_curtail 20 = .ok (.ireturn, 1) := by decide +kernel
theorem dL_curtail_21 : decode cL_curtail 21 = .ok (.astore 4, 2) := by decide +kernel
theorem dL_curtail_23 : decode cL_curtail 23 = .ok (.iconst 3, 1) := by decide +kernel
theorem dL_curtail_24 : decode cL_curtail 24 = .ok (.ireturn, 1) := by decide +kernel
theorem dL_curtail_25 : decode cL_curtail 25 = .ok (.iconst 0, 1) := by decide +kernel
theorem dL_curtail_26 : decode cL_curtail 26 = .ok (.ireturn, 1) := by decide +kernel
theorem dL_release_0 : decode cL_release 0 = .ok (.aload_n 2, 1) := by decide +kernel
theorem dL_release_1 : decode cL_release 1 = .ok (.iconst 0, 1) := by decide +kernel
theorem dL_release_2 : decode cL_release 2 = .ok (.aload_n 0, 1) := by decide +kernel
theorem dL_release_3 : decode cL_release 3 = .ok (.iload_n 1, 1) := by decide +kernel
theorem dL_release_4 : decode cL_release 4 = .ok (.invokevirtual 33, 3) := by decide +kernel
theorem dL_release_7 : decode cL_release 7 = .ok (.i2l, 1) := by decide +kernel
theorem dL_release_8 : decode cL_release 8 = .ok (.lastore, 1) := by decide +kernel
theorem dL_release_9 : decode cL_release 9 = .ok (.goto 9, 3) := by decide +kernel
theorem dL_release_12 : decode cL_release 12 = .ok (.astore_n 3, 1) := by decide +kernel
theorem dL_release_13 : decode cL_release 13 = .ok (.iconst 1, 1) := by decide +kernel
theorem dL_release_14 : decode cL_release 14 = .ok (.ireturn, 1) := by decide +kernel
theorem dL_release_15 : decode cL_release 15 = .ok (.astore_n 3, 1) := by decide +kernel
theorem dL_release_16 : decode cL_release 16 = .ok (.iconst 2, 1) := by decide +kernel
theorem dL_release_17 : decode cL_release 17 = .ok (.ireturn, 1) := by decide +kernel
theorem dL_release_18 : decode cL_release 18 = .ok (.iconst 0, 1) := by decide +kernel
theorem dL_release_19 : decode cL_release 19 = .ok (.ireturn, 1) := by decide +kernel
theorem dL_turbineAt_0 : decode cL_turbineAt 0 = .ok (.aload_n 3, 1) := by decide +kernel
theorem dL_turbineAt_1 : decode cL_turbineAt 1 = .ok (.iconst 0, 1) := by decide +kernel
theorem dL_turbineAt_2 : decode cL_turbineAt 2 = .ok (.aload_n 0, 1) := by decide +kernel
theorem dL_turbineAt_3 : decode cL_turbineAt 3 = .ok (.iload_n 1, 1) := by decide +kernel
theorem dL_turbineAt_4 : decode cL_turbineAt 4 = .ok (.iload_n 2, 1) := by decide +kernel
theorem dL_turbineAt_5 : decode cL_turbineAt 5 = .ok (.invokevirtual 36, 3) := by decide +kernel
theorem dL_turbineAt_8 : decode cL_turbineAt 8 = .ok (.i2l, 1) := by decide +kernel
theorem dL_turbineAt_9 : decode cL_turbineAt 9 = .ok (.lastore, 1) := by decide +kernel
theorem dL_turbineAt_10 : decode cL_turbineAt 10 = .ok (.goto 11, 3) := by decide +kernel
theorem dL_turbineAt_13 : decode cL_turbineAt 13 = .ok (.astore 4, 2) := by decide +kernel
theorem dL_turbineAt_15 : decode cL_turbineAt 15 = .ok (.iconst 1, 1) := by decide +kernel
theorem dL_turbineAt_16 : decode cL_turbineAt 16 = .ok (.ireturn, 1) := by decide +kernel
theorem dL_turbineAt_17 : decode cL_turbineAt 17 = .ok (.astore 4, 2) := by decide +kernel
theorem dL_turbineAt_19 : decode cL_turbineAt 19 = .ok (.iconst 2, 1) := by decide +kernel
theorem dL_turbineAt_20 : decode cL_turbineAt 20 = .ok (.ireturn, 1) := by decide +kernel
theorem dL_turbineAt_21 : decode cL_turbineAt 21 = .ok (.iconst 0, 1) := by decide +kernel
theorem dL_turbineAt_22 : decode cL_turbineAt 22 = .ok (.ireturn, 1) := by decide +kernel
theorem dL_rowOf_0 : decode cL_rowOf 0 = .ok (.aload_n 2, 1) := by decide +kernel
theorem dL_rowOf_1 : decode cL_rowOf 1 = .ok (.iconst 0, 1) := by decide +kernel
theorem dL_rowOf_2 : decode cL_rowOf 2 = .ok (.aload_n 0, 1) := by decide +kernel
theorem dL_rowOf_3 : decode cL_rowOf 3 = .ok (.iload_n 1, 1) := by decide +kernel
theorem dL_rowOf_4 : decode cL_rowOf 4 = .ok (.invokevirtual 41, 3) := by decide +kernel
theorem dL_rowOf_7 : decode cL_rowOf 7 = .ok (.i2l, 1) := by decide +kernel
theorem dL_rowOf_8 : decode cL_rowOf 8 = .ok (.lastore, 1) := by decide +kernel
theorem dL_rowOf_9 : decode cL_rowOf 9 = .ok (.goto 6, 3) := by decide +kernel
theorem dL_rowOf_12 : decode cL_rowOf 12 = .ok (.astore_n 3, 1) := by decide +kernel
theorem dL_rowOf_13 : decode cL_rowOf 13 = .ok (.iconst 1, 1) := by decide +kernel
theorem dL_rowOf_14 : decode cL_rowOf 14 = .ok (.ireturn, 1) := by decide +kernel
theorem dL_rowOf_15 : decode cL_rowOf 15 = .ok (.iconst 0, 1) := by decide +kernel
theorem dL_rowOf_16 : decode cL_rowOf 16 = .ok (.ireturn, 1) := by decide +kernel
theorem dL_columnOf_0 : decode cL_columnOf 0 = .ok (.aload_n 2, 1) := by decide +kernel
theorem dL_columnOf_1 : decode cL_columnOf 1 = .ok (.iconst 0, 1) := by decide +kernel
theorem dL_columnOf_2 : decode cL_columnOf 2 = .ok (.aload_n 0, 1) := by decide +kernel
theorem dL_columnOf_3 : decode cL_columnOf 3 = .ok (.iload_n 1, 1) := by decide +kernel
theorem dL_columnOf_4 : decode cL_columnOf 4 = .ok (.invokevirtual 44, 3) := by decide +kernel
theorem dL_columnOf_7 : decode cL_columnOf 7 = .ok (.i2l, 1) := by decide +kernel
theorem dL_columnOf_8 : decode cL_columnOf 8 = .ok (.lastore, 1) := by decide +kernel
theorem dL_columnOf_9 : decode cL_columnOf 9 = .ok (.goto 6, 3) := by decide +kernel
theorem dL_columnOf_12 : decode cL_columnOf 12 = .ok (.astore_n 3, 1) := by decide +kernel
theorem dL_columnOf_13 : decode cL_columnOf 13 = .ok (.iconst 1, 1) := by decide +kernel
theorem dL_columnOf_14 : decode cL_columnOf 14 = .ok (.ireturn, 1) := by decide +kernel
theorem dL_columnOf_15 : decode cL_columnOf 15 = .ok (.iconst 0, 1) := by decide +kernel
theorem dL_columnOf_16 : decode cL_columnOf 16 = .ok (.ireturn, 1) := by decide +kernel
theorem dL_ratedPower_0 : decode cL_ratedPower 0 = .ok (.aload_n 2, 1) := by decide +kernel
theorem dL_ratedPower_1 : decode cL_ratedPower 1 = .ok (.iconst 0, 1) := by decide +kernel
theorem dL_ratedPower_2 : decode cL_ratedPower 2 = .ok (.aload_n 0, 1) := by decide +kernel
theorem dL_ratedPower_3 : decode cL_ratedPower 3 = .ok (.iload_n 1, 1) := by decide +kernel
theorem dL_ratedPower_4 : decode cL_ratedPower 4 = .ok (.invokevirtual 47, 3) := by decide +kernel
theorem dL_ratedPower_7 : decode cL_ratedPower 7 = .ok (.i2l, 1) := by decide +kernel
theorem dL_ratedPower_8 : decode cL_ratedPower 8 = .ok (.lastore, 1) := by decide +kernel
theorem dL_ratedPower_9 : decode cL_ratedPower 9 = .ok (.goto 6, 3) := by decide +kernel
theorem dL_ratedPower_12 : decode cL_ratedPower 12 = .ok (.astore_n 3, 1) := by decide +kernel
theorem dL_ratedPower_13 : decode cL_ratedPower 13 = .ok (.iconst 1, 1) := by decide +kernel
theorem dL_ratedPower_14 : decode cL_ratedPower 14 = .ok (.ireturn, 1) := by decide +kernel
theorem dL_ratedPower_15 : decode cL_ratedPower 15 = .ok (.iconst 0, 1) := by decide +kernel
theorem dL_ratedPower_16 : decode cL_ratedPower 16 = .ok (.ireturn, 1) := by decide +kernel
theorem dL_isRunning_0 : decode cL_isRunning 0 = .ok (.aload_n 2, 1) := by decide +kernel
theorem dL_isRunning_1 : decode cL_isRunning 1 = .ok (.iconst 0, 1) := by decide +kernel
theorem dL_isRunning_2 : decode cL_isRunning 2 = .ok (.aload_n 0, 1) := by decide +kernel
theorem dL_isRunning_3 : decode cL_isRunning 3 = .ok (.iload_n 1, 1) := by decide +kernel
theorem dL_isRunning_4 : decode cL_isRunning 4 = .ok (.invokevirtual 50, 3) := by decide +kernel
theorem dL_isRunning_7 : decode cL_isRunning 7 = .ok (.ifCond .eq 7, 3) := by decide +kernel
theorem dL_isRunning_10 : decode cL_isRunning 10 = .ok (.lconst 1, 1) := by decide +kernel
theorem dL_isRunning_11 : decode cL_isRunning 11 = .ok (.goto 4, 3) := by decide +kernel
theorem dL_isRunning_14 : decode cL_isRunning 14 = .ok (.lconst 0, 1) := by decide +kernel
theorem dL_isRunning_15 : decode cL_isRunning 15 = .ok (.lastore, 1) := by decide +kernel
theorem dL_isRunning_16 : decode cL_isRunning 16 = .ok (.goto 6, 3) := by decide +kernel
theorem dL_isRunning_19 : decode cL_isRunning 19 = .ok (.astore_n 3, 1) := by decide +kernel
theorem dL_isRunning_20 : decode cL_isRunning 20 = .ok (.iconst 1, 1) := by decide +kernel
theorem dL_isRunning_21 : decode cL_isRunning 21 = .ok (.ireturn, 1) := by decide +kernel
theorem dL_isRunning_22 : decode cL_isRunning 22 = .ok (.iconst 0, 1) := by decide +kernel
theorem dL_isRunning_23 : decode cL_isRunning 23 = .ok (.ireturn, 1) := by decide +kernel
theorem dL_isFailed_0 : decode cL_isFailed 0 = .ok (.aload_n 2, 1) := by decide +kernel
theorem dL_isFailed_1 : decode cL_isFailed 1 = .ok (.iconst 0, 1) := by decide +kernel
theorem dL_isFailed_2 : decode cL_isFailed 2 = .ok (.aload_n 0, 1) := by decide +kernel
theorem dL_isFailed_3 : decode cL_isFailed 3 = .ok (.iload_n 1, 1) := by decide +kernel
theorem dL_isFailed_4 : decode cL_isFailed 4 = .ok (.invokevirtual 54, 3) := by decide +kernel
theorem dL_isFailed_7 : decode cL_isFailed 7 = .ok (.ifCond .eq 7, 3) := by decide +kernel
theorem dL_isFailed_10 : decode cL_isFailed 10 = .ok (.lconst 1, 1) := by decide +kernel
theorem dL_isFailed_11 : decode cL_isFailed 11 = .ok (.goto 4, 3) := by decide +kernel
theorem dL_isFailed_14 : decode cL_isFailed 14 = .ok (.lconst 0, 1) := by decide +kernel
theorem dL_isFailed_15 : decode cL_isFailed 15 = .ok (.lastore, 1) := by decide +kernel
theorem dL_isFailed_16 : decode cL_isFailed 16 = .ok (.goto 6, 3) := by decide +kernel
theorem dL_isFailed_19 : decode cL_isFailed 19 = .ok (.astore_n 3, 1) := by decide +kernel
theorem dL_isFailed_20 : decode cL_isFailed 20 = .ok (.iconst 1, 1) := by decide +kernel
theorem dL_isFailed_21 : decode cL_isFailed 21 = .ok (.ireturn, 1) := by decide +kernel
theorem dL_isFailed_22 : decode cL_isFailed 22 = .ok (.iconst 0, 1) := by decide +kernel
theorem dL_isFailed_23 : decode cL_isFailed 23 = .ok (.ireturn, 1) := by decide +kernel
theorem dL_isInService_0 : decode cL_isInService 0 = .ok (.aload_n 2, 1) := by decide +kernel
theorem dL_isInService_1 : decode cL_isInService 1 = .ok (.iconst 0, 1) := by decide +kernel
theorem dL_isInService_2 : decode cL_isInService 2 = .ok (.aload_n 0, 1) := by decide +kernel
theorem dL_isInService_3 : decode cL_isInService 3 = .ok (.iload_n 1, 1) := by decide +kernel
theorem dL_isInService_4 : decode cL_isInService 4 = .ok (.invokevirtual 57, 3) := by decide +kernel
theorem dL_isInService_7 : decode cL_isInService 7 = .ok (.ifCond .eq 7, 3) := by decide +kernel
theorem dL_isInService_10 : decode cL_isInService 10 = .ok (.lconst 1, 1) := by decide +kernel
theorem dL_isInService_11 : decode cL_isInService 11 = .ok (.goto 4, 3) := by decide +kernel
theorem dL_isInService_14 : decode cL_isInService 14 = .ok (.lconst 0, 1) := by decide +kernel
theorem dL_isInService_15 : decode cL_isInService 15 = .ok (.lastore, 1) := by decide +kernel
theorem dL_isInService_16 : decode cL_isInService 16 = .ok (.goto 6, 3) := by decide +kernel
theorem dL_isInService_19 : decode cL_isInService 19 = .ok (.astore_n 3, 1) := by decide +kernel
theorem dL_isInService_20 : decode cL_isInService 20 = .ok (.iconst 1, 1) := by decide +kernel
theorem dL_isInService_21 : decode cL_isInService 21 = .ok (.ireturn, 1) := by decide +kernel
theorem dL_isInService_22 : decode cL_isInService 22 = .ok (.iconst 0, 1) := by decide +kernel
theorem dL_isInService_23 : decode cL_isInService 23 = .ok (.ireturn, 1) := by decide +kernel
theorem dL_limitOf_0 : decode cL_limitOf 0 = .ok (.aload_n 2, 1) := by decide +kernel
theorem dL_limitOf_1 : decode cL_limitOf 1 = .ok (.iconst 0, 1) := by decide +kernel
theorem dL_limitOf_2 : decode cL_limitOf 2 = .ok (.aload_n 0, 1) := by decide +kernel
theorem dL_limitOf_3 : decode cL_limitOf 3 = .ok (.iload_n 1, 1) := by decide +kernel
theorem dL_limitOf_4 : decode cL_limitOf 4 = .ok (.invokevirtual 60, 3) := by decide +kernel
theorem dL_limitOf_7 : decode cL_limitOf 7 = .ok (.i2l, 1) := by decide +kernel
theorem dL_limitOf_8 : decode cL_limitOf 8 = .ok (.lastore, 1) := by decide +kernel
theorem dL_limitOf_9 : decode cL_limitOf 9 = .ok (.goto 9, 3) := by decide +kernel
theorem dL_limitOf_12 : decode cL_limitOf 12 = .ok (.astore_n 3, 1) := by decide +kernel
theorem dL_limitOf_13 : decode cL_limitOf 13 = .ok (.iconst 1, 1) := by decide +kernel
theorem dL_limitOf_14 : decode cL_limitOf 14 = .ok (.ireturn, 1) := by decide +kernel
theorem dL_limitOf_15 : decode cL_limitOf 15 = .ok (.astore_n 3, 1) := by decide +kernel
theorem dL_limitOf_16 : decode cL_limitOf 16 = .ok (.iconst 2, 1) := by decide +kernel
theorem dL_limitOf_17 : decode cL_limitOf 17 = .ok (.ireturn, 1) := by decide +kernel
theorem dL_limitOf_18 : decode cL_limitOf 18 = .ok (.iconst 0, 1) := by decide +kernel
theorem dL_limitOf_19 : decode cL_limitOf 19 = .ok (.ireturn, 1) := by decide +kernel
theorem dL_serviceHoursLeft_0 : decode cL_serviceHoursLeft 0 = .ok (.aload_n 2, 1) := by decide +kernel
theorem dL_serviceHoursLeft_1 : decode cL_serviceHoursLeft 1 = .ok (.iconst 0, 1) := by decide +kernel
theorem dL_serviceHoursLeft_2 : decode cL_serviceHoursLeft 2 = .ok (.aload_n 0, 1) := by decide +kernel
theorem dL_serviceHoursLeft_3 : decode cL_serviceHoursLeft 3 = .ok (.iload_n 1, 1) := by decide +kernel
theorem dL_serviceHoursLeft_4 : decode cL_serviceHoursLeft 4 = .ok (.invokevirtual 63, 3) := by decide +kernel
theorem dL_serviceHoursLeft_7 : decode cL_serviceHoursLeft 7 = .ok (.i2l, 1) := by decide +kernel
theorem dL_serviceHoursLeft_8 : decode cL_serviceHoursLeft 8 = .ok (.lastore, 1) := by decide +kernel
theorem dL_serviceHoursLeft_9 : decode cL_serviceHoursLeft 9 = .ok (.goto 9, 3) := by decide +kernel
theorem dL_serviceHoursLeft_12 : decode cL_serviceHoursLeft 12 = .ok (.astore_n 3, 1) := by decide +kernel
theorem dL_serviceHoursLeft_13 : decode cL_serviceHoursLeft 13 = .ok (.iconst 1, 1) := by decide +kernel
theorem dL_serviceHoursLeft_14 : decode cL_serviceHoursLeft 14 = .ok (.ireturn, 1) := by decide +kernel
theorem dL_serviceHoursLeft_15 : decode cL_serviceHoursLeft 15 = .ok (.astore_n 3, 1) := by decide +kernel
theorem dL_serviceHoursLeft_16 : decode cL_serviceHoursLeft 16 = .ok (.iconst 2, 1) := by decide +kernel
theorem dL_serviceHoursLeft_17 : decode cL_serviceHoursLeft 17 = .ok (.ireturn, 1) := by decide +kernel
theorem dL_serviceHoursLeft_18 : decode cL_serviceHoursLeft 18 = .ok (.iconst 0, 1) := by decide +kernel
theorem dL_serviceHoursLeft_19 : decode cL_serviceHoursLeft 19 = .ok (.ireturn, 1) := by decide +kernel
theorem dL_setWind_0 : decode cL_setWind 0 = .ok (.aload_n 3, 1) := by decide +kernel
theorem dL_setWind_1 : decode cL_setWind 1 = .ok (.iconst 0, 1) := by decide +kernel
theorem dL_setWind_2 : decode cL_setWind 2 = .ok (.aload_n 0, 1) := by decide +kernel
theorem dL_setWind_3 : decode cL_setWind 3 = .ok (.iload_n 1, 1) := by decide +kernel
theorem dL_setWind_4 : decode cL_setWind 4 = .ok (.iload_n 2, 1) := by decide +kernel
theorem dL_setWind_5 : decode cL_setWind 5 = .ok (.invokevirtual 66, 3) := by decide +kernel
theorem dL_setWind_8 : decode cL_setWind 8 = .ok (.i2l, 1) := by decide +kernel
theorem dL_setWind_9 : decode cL_setWind 9 = .ok (.lastore, 1) := by decide +kernel
theorem dL_setWind_10 : decode cL_setWind 10 = .ok (.goto 7, 3) := by decide +kernel
theorem dL_setWind_13 : decode cL_setWind 13 = .ok (.astore 4, 2) := by decide +kernel
theorem dL_setWind_15 : decode cL_setWind 15 = .ok (.iconst 1, 1) := by decide +kernel
theorem dL_setWind_16 : decode cL_setWind 16 = .ok (.ireturn, 1) := by decide +kernel
theorem dL_setWind_17 : decode cL_setWind 17 = .ok (.iconst 0, 1) := by decide +kernel
theorem dL_setWind_18 : decode cL_setWind 18 = .ok (.ireturn, 1) := by decide +kernel
theorem dL_wakeLoss_0 : decode cL_wakeLoss 0 = .ok (.aload_n 2, 1) := by decide +kernel
theorem dL_wakeLoss_1 : decode cL_wakeLoss 1 = .ok (.iconst 0, 1) := by decide +kernel
theorem dL_wakeLoss_2 : decode cL_wakeLoss 2 = .ok (.aload_n 0, 1) := by decide +kernel
theorem dL_wakeLoss_3 : decode cL_wakeLoss 3 = .ok (.iload_n 1, 1) := by decide +kernel
theorem dL_wakeLoss_4 : decode cL_wakeLoss 4 = .ok (.invokevirtual 70, 3) := by decide +kernel
theorem dL_wakeLoss_7 : decode cL_wakeLoss 7 = .ok (.i2l, 1) := by decide +kernel
theorem dL_wakeLoss_8 : decode cL_wakeLoss 8 = .ok (.lastore, 1) := by decide +kernel
theorem dL_wakeLoss_9 : decode cL_wakeLoss 9 = .ok (.goto 6, 3) := by decide +kernel
theorem dL_wakeLoss_12 : decode cL_wakeLoss 12 = .ok (.astore_n 3, 1) := by decide +kernel
theorem dL_wakeLoss_13 : decode cL_wakeLoss 13 = .ok (.iconst 1, 1) := by decide +kernel
theorem dL_wakeLoss_14 : decode cL_wakeLoss 14 = .ok (.ireturn, 1) := by decide +kernel
theorem dL_wakeLoss_15 : decode cL_wakeLoss 15 = .ok (.iconst 0, 1) := by decide +kernel
theorem dL_wakeLoss_16 : decode cL_wakeLoss 16 = .ok (.ireturn, 1) := by decide +kernel
theorem dL_availablePower_0 : decode cL_availablePower 0 = .ok (.aload_n 2, 1) := by decide +kernel
theorem dL_availablePower_1 : decode cL_availablePower 1 = .ok (.iconst 0, 1) := by decide +kernel
theorem dL_availablePower_2 : decode cL_availablePower 2 = .ok (.aload_n 0, 1) := by decide +kernel
theorem dL_availablePower_3 : decode cL_availablePower 3 = .ok (.iload_n 1, 1) := by decide +kernel
theorem dL_availablePower_4 : decode cL_availablePower 4 = .ok (.invokevirtual 73, 3) := by decide +kernel
theorem dL_availablePower_7 : decode cL_availablePower 7 = .ok (.i2l, 1) := by decide +kernel
theorem dL_availablePower_8 : decode cL_availablePower 8 = .ok (.lastore, 1) := by decide +kernel
theorem dL_availablePower_9 : decode cL_availablePower 9 = .ok (.goto 6, 3) := by decide +kernel
theorem dL_availablePower_12 : decode cL_availablePower 12 = .ok (.astore_n 3, 1) := by decide +kernel
theorem dL_availablePower_13 : decode cL_availablePower 13 = .ok (.iconst 1, 1) := by decide +kernel
theorem dL_availablePower_14 : decode cL_availablePower 14 = .ok (.ireturn, 1) := by decide +kernel
theorem dL_availablePower_15 : decode cL_availablePower 15 = .ok (.iconst 0, 1) := by decide +kernel
theorem dL_availablePower_16 : decode cL_availablePower 16 = .ok (.ireturn, 1) := by decide +kernel
theorem dL_outputOf_0 : decode cL_outputOf 0 = .ok (.aload_n 2, 1) := by decide +kernel
theorem dL_outputOf_1 : decode cL_outputOf 1 = .ok (.iconst 0, 1) := by decide +kernel
theorem dL_outputOf_2 : decode cL_outputOf 2 = .ok (.aload_n 0, 1) := by decide +kernel
theorem dL_outputOf_3 : decode cL_outputOf 3 = .ok (.iload_n 1, 1) := by decide +kernel
theorem dL_outputOf_4 : decode cL_outputOf 4 = .ok (.invokevirtual 76, 3) := by decide +kernel
theorem dL_outputOf_7 : decode cL_outputOf 7 = .ok (.i2l, 1) := by decide +kernel
theorem dL_outputOf_8 : decode cL_outputOf 8 = .ok (.lastore, 1) := by decide +kernel
theorem dL_outputOf_9 : decode cL_outputOf 9 = .ok (.goto 6, 3) := by decide +kernel
theorem dL_outputOf_12 : decode cL_outputOf 12 = .ok (.astore_n 3, 1) := by decide +kernel
theorem dL_outputOf_13 : decode cL_outputOf 13 = .ok (.iconst 1, 1) := by decide +kernel
theorem dL_outputOf_14 : decode cL_outputOf 14 = .ok (.ireturn, 1) := by decide +kernel
theorem dL_outputOf_15 : decode cL_outputOf 15 = .ok (.iconst 0, 1) := by decide +kernel
theorem dL_outputOf_16 : decode cL_outputOf 16 = .ok (.ireturn, 1) := by decide +kernel
theorem dL_outputWith_0 : decode cL_outputWith 0 = .ok (.aload_n 3, 1) := by decide +kernel
theorem dL_outputWith_1 : decode cL_outputWith 1 = .ok (.iconst 0, 1) := by decide +kernel
theorem dL_outputWith_2 : decode cL_outputWith 2 = .ok (.aload_n 0, 1) := by decide +kernel
theorem dL_outputWith_3 : decode cL_outputWith 3 = .ok (.iload_n 1, 1) := by decide +kernel
theorem dL_outputWith_4 : decode cL_outputWith 4 = .ok (.iload_n 2, 1) := by decide +kernel
theorem dL_outputWith_5 : decode cL_outputWith 5 = .ok (.invokevirtual 79, 3) := by decide +kernel
theorem dL_outputWith_8 : decode cL_outputWith 8 = .ok (.i2l, 1) := by decide +kernel
theorem dL_outputWith_9 : decode cL_outputWith 9 = .ok (.lastore, 1) := by decide +kernel
theorem dL_outputWith_10 : decode cL_outputWith 10 = .ok (.goto 7, 3) := by decide +kernel
theorem dL_outputWith_13 : decode cL_outputWith 13 = .ok (.astore 4, 2) := by decide +kernel
theorem dL_outputWith_15 : decode cL_outputWith 15 = .ok (.iconst 1, 1) := by decide +kernel
theorem dL_outputWith_16 : decode cL_outputWith 16 = .ok (.ireturn, 1) := by decide +kernel
theorem dL_outputWith_17 : decode cL_outputWith 17 = .ok (.iconst 0, 1) := by decide +kernel
theorem dL_outputWith_18 : decode cL_outputWith 18 = .ok (.ireturn, 1) := by decide +kernel
theorem dL_setGridLimit_0 : decode cL_setGridLimit 0 = .ok (.aload_n 2, 1) := by decide +kernel
theorem dL_setGridLimit_1 : decode cL_setGridLimit 1 = .ok (.iconst 0, 1) := by decide +kernel
theorem dL_setGridLimit_2 : decode cL_setGridLimit 2 = .ok (.aload_n 0, 1) := by decide +kernel
theorem dL_setGridLimit_3 : decode cL_setGridLimit 3 = .ok (.iload_n 1, 1) := by decide +kernel
theorem dL_setGridLimit_4 : decode cL_setGridLimit 4 = .ok (.invokevirtual 82, 3) := by decide +kernel
theorem dL_setGridLimit_7 : decode cL_setGridLimit 7 = .ok (.i2l, 1) := by decide +kernel
theorem dL_setGridLimit_8 : decode cL_setGridLimit 8 = .ok (.lastore, 1) := by decide +kernel
theorem dL_setGridLimit_9 : decode cL_setGridLimit 9 = .ok (.goto 6, 3) := by decide +kernel
theorem dL_setGridLimit_12 : decode cL_setGridLimit 12 = .ok (.astore_n 3, 1) := by decide +kernel
theorem dL_setGridLimit_13 : decode cL_setGridLimit 13 = .ok (.iconst 1, 1) := by decide +kernel
theorem dL_setGridLimit_14 : decode cL_setGridLimit 14 = .ok (.ireturn, 1) := by decide +kernel
theorem dL_setGridLimit_15 : decode cL_setGridLimit 15 = .ok (.iconst 0, 1) := by decide +kernel
theorem dL_setGridLimit_16 : decode cL_setGridLimit 16 = .ok (.ireturn, 1) := by decide +kernel
theorem dL_placeBid_0 : decode cL_placeBid 0 = .ok (.aload 4, 2) := by decide +kernel
theorem dL_placeBid_2 : decode cL_placeBid 2 = .ok (.iconst 0, 1) := by decide +kernel
theorem dL_placeBid_3 : decode cL_placeBid 3 = .ok (.aload_n 0, 1) := by decide +kernel
theorem dL_placeBid_4 : decode cL_placeBid 4 = .ok (.iload_n 1, 1) := by decide +kernel
theorem dL_placeBid_5 : decode cL_placeBid 5 = .ok (.iload_n 2, 1) := by decide +kernel
theorem dL_placeBid_6 : decode cL_placeBid 6 = .ok (.iload_n 3, 1) := by decide +kernel
theorem dL_placeBid_7 : decode cL_placeBid 7 = .ok (.invokevirtual 85, 3) := by decide +kernel
theorem dL_placeBid_10 : decode cL_placeBid 10 = .ok (.i2l, 1) := by decide +kernel
theorem dL_placeBid_11 : decode cL_placeBid 11 = .ok (.lastore, 1) := by decide +kernel
theorem dL_placeBid_12 : decode cL_placeBid 12 = .ok (.goto 15, 3) := by decide +kernel
theorem dL_placeBid_15 : decode cL_placeBid 15 = .ok (.astore 5, 2) := by decide +kernel
theorem dL_placeBid_17 : decode cL_placeBid 17 = .ok (.iconst 1, 1) := by decide +kernel
theorem dL_placeBid_18 : decode cL_placeBid 18 = .ok (.ireturn, 1) := by decide +kernel
theorem dL_placeBid_19 : decode cL_placeBid 19 = .ok (.astore 5, 2) := by decide +kernel
theorem dL_placeBid_21 : decode cL_placeBid 21 = .ok (.iconst 2, 1) := by decide +kernel
theorem dL_placeBid_22 : decode cL_placeBid 22 = .ok (.ireturn, 1) := by decide +kernel
theorem dL_placeBid_23 : decode cL_placeBid 23 = .ok (.astore 5, 2) := by decide +kernel
theorem dL_placeBid_25 : decode cL_placeBid 25 = .ok (.iconst 3, 1) := by decide +kernel
theorem dL_placeBid_26 : decode cL_placeBid 26 = .ok (.ireturn, 1) := by decide +kernel
theorem dL_placeBid_27 : decode cL_placeBid 27 = .ok (.iconst 0, 1) := by decide +kernel
theorem dL_placeBid_28 : decode cL_placeBid 28 = .ok (.ireturn, 1) := by decide +kernel
theorem dL_withdrawBid_0 : decode cL_withdrawBid 0 = .ok (.aload_n 2, 1) := by decide +kernel
theorem dL_withdrawBid_1 : decode cL_withdrawBid 1 = .ok (.iconst 0, 1) := by decide +kernel
theorem dL_withdrawBid_2 : decode cL_withdrawBid 2 = .ok (.aload_n 0, 1) := by decide +kernel
theorem dL_withdrawBid_3 : decode cL_withdrawBid 3 = .ok (.iload_n 1, 1) := by decide +kernel
theorem dL_withdrawBid_4 : decode cL_withdrawBid 4 = .ok (.invokevirtual 88, 3) := by decide +kernel
theorem dL_withdrawBid_7 : decode cL_withdrawBid 7 = .ok (.i2l, 1) := by decide +kernel
theorem dL_withdrawBid_8 : decode cL_withdrawBid 8 = .ok (.lastore, 1) := by decide +kernel
theorem dL_withdrawBid_9 : decode cL_withdrawBid 9 = .ok (.goto 9, 3) := by decide +kernel
theorem dL_withdrawBid_12 : decode cL_withdrawBid 12 = .ok (.astore_n 3, 1) := by decide +kernel
theorem dL_withdrawBid_13 : decode cL_withdrawBid 13 = .ok (.iconst 1, 1) := by decide +kernel
theorem dL_withdrawBid_14 : decode cL_withdrawBid 14 = .ok (.ireturn, 1) := by decide +kernel
theorem dL_withdrawBid_15 : decode cL_withdrawBid 15 = .ok (.astore_n 3, 1) := by decide +kernel
theorem dL_withdrawBid_16 : decode cL_withdrawBid 16 = .ok (.iconst 2, 1) := by decide +kernel
theorem dL_withdrawBid_17 : decode cL_withdrawBid 17 = .ok (.ireturn, 1) := by decide +kernel
theorem dL_withdrawBid_18 : decode cL_withdrawBid 18 = .ok (.iconst 0, 1) := by decide +kernel
theorem dL_withdrawBid_19 : decode cL_withdrawBid 19 = .ok (.ireturn, 1) := by decide +kernel
theorem dL_hasBid_0 : decode cL_hasBid 0 = .ok (.aload_n 2, 1) := by decide +kernel
theorem dL_hasBid_1 : decode cL_hasBid 1 = .ok (.iconst 0, 1) := by decide +kernel
theorem dL_hasBid_2 : decode cL_hasBid 2 = .ok (.aload_n 0, 1) := by decide +kernel
theorem dL_hasBid_3 : decode cL_hasBid 3 = .ok (.iload_n 1, 1) := by decide +kernel
theorem dL_hasBid_4 : decode cL_hasBid 4 = .ok (.invokevirtual 91, 3) := by decide +kernel
theorem dL_hasBid_7 : decode cL_hasBid 7 = .ok (.ifCond .eq 7, 3) := by decide +kernel
theorem dL_hasBid_10 : decode cL_hasBid 10 = .ok (.lconst 1, 1) := by decide +kernel
theorem dL_hasBid_11 : decode cL_hasBid 11 = .ok (.goto 4, 3) := by decide +kernel
theorem dL_hasBid_14 : decode cL_hasBid 14 = .ok (.lconst 0, 1) := by decide +kernel
theorem dL_hasBid_15 : decode cL_hasBid 15 = .ok (.lastore, 1) := by decide +kernel
theorem dL_hasBid_16 : decode cL_hasBid 16 = .ok (.goto 6, 3) := by decide +kernel
theorem dL_hasBid_19 : decode cL_hasBid 19 = .ok (.astore_n 3, 1) := by decide +kernel
theorem dL_hasBid_20 : decode cL_hasBid 20 = .ok (.iconst 1, 1) := by decide +kernel
theorem dL_hasBid_21 : decode cL_hasBid 21 = .ok (.ireturn, 1) := by decide +kernel
theorem dL_hasBid_22 : decode cL_hasBid 22 = .ok (.iconst 0, 1) := by decide +kernel
theorem dL_hasBid_23 : decode cL_hasBid 23 = .ok (.ireturn, 1) := by decide +kernel
theorem dL_bidPrice_0 : decode cL_bidPrice 0 = .ok (.aload_n 2, 1) := by decide +kernel
theorem dL_bidPrice_1 : decode cL_bidPrice 1 = .ok (.iconst 0, 1) := by decide +kernel
theorem dL_bidPrice_2 : decode cL_bidPrice 2 = .ok (.aload_n 0, 1) := by decide +kernel
theorem dL_bidPrice_3 : decode cL_bidPrice 3 = .ok (.iload_n 1, 1) := by decide +kernel
theorem dL_bidPrice_4 : decode cL_bidPrice 4 = .ok (.invokevirtual 94, 3) := by decide +kernel
theorem dL_bidPrice_7 : decode cL_bidPrice 7 = .ok (.i2l, 1) := by decide +kernel
theorem dL_bidPrice_8 : decode cL_bidPrice 8 = .ok (.lastore, 1) := by decide +kernel
theorem dL_bidPrice_9 : decode cL_bidPrice 9 = .ok (.goto 9, 3) := by decide +kernel
theorem dL_bidPrice_12 : decode cL_bidPrice 12 = .ok (.astore_n 3, 1) := by decide +kernel
theorem dL_bidPrice_13 : decode cL_bidPrice 13 = .ok (.iconst 1, 1) := by decide +kernel
theorem dL_bidPrice_14 : decode cL_bidPrice 14 = .ok (.ireturn, 1) := by decide +kernel
theorem dL_bidPrice_15 : decode cL_bidPrice 15 = .ok (.astore_n 3, 1) := by decide +kernel
theorem dL_bidPrice_16 : decode cL_bidPrice 16 = .ok (.iconst 2, 1) := by decide +kernel
theorem dL_bidPrice_17 : decode cL_bidPrice 17 = .ok (.ireturn, 1) := by decide +kernel
theorem dL_bidPrice_18 : decode cL_bidPrice 18 = .ok (.iconst 0, 1) := by decide +kernel
theorem dL_bidPrice_19 : decode cL_bidPrice 19 = .ok (.ireturn, 1) := by decide +kernel
theorem dL_bidQuantity_0 : decode cL_bidQuantity 0 = .ok (.aload_n 2, 1) := by decide +kernel
theorem dL_bidQuantity_1 : decode cL_bidQuantity 1 = .ok (.iconst 0, 1) := by decide +kernel
theorem dL_bidQuantity_2 : decode cL_bidQuantity 2 = .ok (.aload_n 0, 1) := by decide +kernel
theorem dL_bidQuantity_3 : decode cL_bidQuantity 3 = .ok (.iload_n 1, 1) := by decide +kernel
theorem dL_bidQuantity_4 : decode cL_bidQuantity 4 = .ok (.invokevirtual 97, 3) := by decide +kernel
theorem dL_bidQuantity_7 : decode cL_bidQuantity 7 = .ok (.i2l, 1) := by decide +kernel
theorem dL_bidQuantity_8 : decode cL_bidQuantity 8 = .ok (.lastore, 1) := by decide +kernel
theorem dL_bidQuantity_9 : decode cL_bidQuantity 9 = .ok (.goto 9, 3) := by decide +kernel
theorem dL_bidQuantity_12 : decode cL_bidQuantity 12 = .ok (.astore_n 3, 1) := by decide +kernel
theorem dL_bidQuantity_13 : decode cL_bidQuantity 13 = .ok (.iconst 1, 1) := by decide +kernel
theorem dL_bidQuantity_14 : decode cL_bidQuantity 14 = .ok (.ireturn, 1) := by decide +kernel
theorem dL_bidQuantity_15 : decode cL_bidQuantity 15 = .ok (.astore_n 3, 1) := by decide +kernel
theorem dL_bidQuantity_16 : decode cL_bidQuantity 16 = .ok (.iconst 2, 1) := by decide +kernel
theorem dL_bidQuantity_17 : decode cL_bidQuantity 17 = .ok (.ireturn, 1) := by decide +kernel
theorem dL_bidQuantity_18 : decode cL_bidQuantity 18 = .ok (.iconst 0, 1) := by decide +kernel
theorem dL_bidQuantity_19 : decode cL_bidQuantity 19 = .ok (.ireturn, 1) := by decide +kernel
theorem dL_bidByPrice_0 : decode cL_bidByPrice 0 = .ok (.aload_n 2, 1) := by decide +kernel
theorem dL_bidByPrice_1 : decode cL_bidByPrice 1 = .ok (.iconst 0, 1) := by decide +kernel
theorem dL_bidByPrice_2 : decode cL_bidByPrice 2 = .ok (.aload_n 0, 1) := by decide +kernel
theorem dL_bidByPrice_3 : decode cL_bidByPrice 3 = .ok (.iload_n 1, 1) := by decide +kernel
theorem dL_bidByPrice_4 : decode cL_bidByPrice 4 = .ok (.invokevirtual 100, 3) := by decide +kernel
theorem dL_bidByPrice_7 : decode cL_bidByPrice 7 = .ok (.i2l, 1) := by decide +kernel
theorem dL_bidByPrice_8 : decode cL_bidByPrice 8 = .ok (.lastore, 1) := by decide +kernel
theorem dL_bidByPrice_9 : decode cL_bidByPrice 9 = .ok (.goto 6, 3) := by decide +kernel
theorem dL_bidByPrice_12 : decode cL_bidByPrice 12 = .ok (.astore_n 3, 1) := by decide +kernel
theorem dL_bidByPrice_13 : decode cL_bidByPrice 13 = .ok (.iconst 1, 1) := by decide +kernel
theorem dL_bidByPrice_14 : decode cL_bidByPrice 14 = .ok (.ireturn, 1) := by decide +kernel
theorem dL_bidByPrice_15 : decode cL_bidByPrice 15 = .ok (.iconst 0, 1) := by decide +kernel
theorem dL_bidByPrice_16 : decode cL_bidByPrice 16 = .ok (.ireturn, 1) := by decide +kernel
theorem dL_passHours_0 : decode cL_passHours 0 = .ok (.aload_n 2, 1) := by decide +kernel
theorem dL_passHours_1 : decode cL_passHours 1 = .ok (.iconst 0, 1) := by decide +kernel
theorem dL_passHours_2 : decode cL_passHours 2 = .ok (.aload_n 0, 1) := by decide +kernel
theorem dL_passHours_3 : decode cL_passHours 3 = .ok (.iload_n 1, 1) := by decide +kernel
theorem dL_passHours_4 : decode cL_passHours 4 = .ok (.invokevirtual 103, 3) := by decide +kernel
theorem dL_passHours_7 : decode cL_passHours 7 = .ok (.i2l, 1) := by decide +kernel
theorem dL_passHours_8 : decode cL_passHours 8 = .ok (.lastore, 1) := by decide +kernel
theorem dL_passHours_9 : decode cL_passHours 9 = .ok (.goto 6, 3) := by decide +kernel
theorem dL_passHours_12 : decode cL_passHours 12 = .ok (.astore_n 3, 1) := by decide +kernel
theorem dL_passHours_13 : decode cL_passHours 13 = .ok (.iconst 1, 1) := by decide +kernel
theorem dL_passHours_14 : decode cL_passHours 14 = .ok (.ireturn, 1) := by decide +kernel
theorem dL_passHours_15 : decode cL_passHours 15 = .ok (.iconst 0, 1) := by decide +kernel
theorem dL_passHours_16 : decode cL_passHours 16 = .ok (.ireturn, 1) := by decide +kernel
theorem dL_incomeWithin_0 : decode cL_incomeWithin 0 = .ok (.aload_n 2, 1) := by decide +kernel
theorem dL_incomeWithin_1 : decode cL_incomeWithin 1 = .ok (.iconst 0, 1) := by decide +kernel
theorem dL_incomeWithin_2 : decode cL_incomeWithin 2 = .ok (.aload_n 0, 1) := by decide +kernel
theorem dL_incomeWithin_3 : decode cL_incomeWithin 3 = .ok (.iload_n 1, 1) := by decide +kernel
theorem dL_incomeWithin_4 : decode cL_incomeWithin 4 = .ok (.invokevirtual 106, 3) := by decide +kernel
theorem dL_incomeWithin_7 : decode cL_incomeWithin 7 = .ok (.i2l, 1) := by decide +kernel
theorem dL_incomeWithin_8 : decode cL_incomeWithin 8 = .ok (.lastore, 1) := by decide +kernel
theorem dL_incomeWithin_9 : decode cL_incomeWithin 9 = .ok (.goto 6, 3) := by decide +kernel
theorem dL_incomeWithin_12 : decode cL_incomeWithin 12 = .ok (.astore_n 3, 1) := by decide +kernel
theorem dL_incomeWithin_13 : decode cL_incomeWithin 13 = .ok (.iconst 1, 1) := by decide +kernel
theorem dL_incomeWithin_14 : decode cL_incomeWithin 14 = .ok (.ireturn, 1) := by decide +kernel
theorem dL_incomeWithin_15 : decode cL_incomeWithin 15 = .ok (.iconst 0, 1) := by decide +kernel
theorem dL_incomeWithin_16 : decode cL_incomeWithin 16 = .ok (.ireturn, 1) := by decide +kernel
theorem dL_hoursToBid_0 : decode cL_hoursToBid 0 = .ok (.aload_n 1, 1) := by decide +kernel
theorem dL_hoursToBid_1 : decode cL_hoursToBid 1 = .ok (.iconst 0, 1) := by decide +kernel
theorem dL_hoursToBid_2 : decode cL_hoursToBid 2 = .ok (.aload_n 0, 1) := by decide +kernel
theorem dL_hoursToBid_3 : decode cL_hoursToBid 3 = .ok (.invokevirtual 109, 3) := by decide +kernel
theorem dL_hoursToBid_6 : decode cL_hoursToBid 6 = .ok (.i2l, 1) := by decide +kernel
theorem dL_hoursToBid_7 : decode cL_hoursToBid 7 = .ok (.lastore, 1) := by decide +kernel
theorem dL_hoursToBid_8 : decode cL_hoursToBid 8 = .ok (.goto 6, 3) := by decide +kernel
theorem dL_hoursToBid_11 : decode cL_hoursToBid 11 = .ok (.astore_n 2, 1) := by decide +kernel
theorem dL_hoursToBid_12 : decode cL_hoursToBid 12 = .ok (.iconst 1, 1) := by decide +kernel
theorem dL_hoursToBid_13 : decode cL_hoursToBid 13 = .ok (.ireturn, 1) := by decide +kernel
theorem dL_hoursToBid_14 : decode cL_hoursToBid 14 = .ok (.iconst 0, 1) := by decide +kernel
theorem dL_hoursToBid_15 : decode cL_hoursToBid 15 = .ok (.ireturn, 1) := by decide +kernel
theorem dL_turbineByOutput_0 : decode cL_turbineByOutput 0 = .ok (.aload_n 2, 1) := by decide +kernel
theorem dL_turbineByOutput_1 : decode cL_turbineByOutput 1 = .ok (.iconst 0, 1) := by decide +kernel
theorem dL_turbineByOutput_2 : decode cL_turbineByOutput 2 = .ok (.aload_n 0, 1) := by decide +kernel
theorem dL_turbineByOutput_3 : decode cL_turbineByOutput 3 = .ok (.iload_n 1, 1) := by decide +kernel
theorem dL_turbineByOutput_4 : decode cL_turbineByOutput 4 = .ok (.invokevirtual 113, 3) := by decide +kernel
theorem dL_turbineByOutput_7 : decode cL_turbineByOutput 7 = .ok (.i2l, 1) := by decide +kernel
theorem dL_turbineByOutput_8 : decode cL_turbineByOutput 8 = .ok (.lastore, 1) := by decide +kernel
theorem dL_turbineByOutput_9 : decode cL_turbineByOutput 9 = .ok (.goto 6, 3) := by decide +kernel
theorem dL_turbineByOutput_12 : decode cL_turbineByOutput 12 = .ok (.astore_n 3, 1) := by decide +kernel
theorem dL_turbineByOutput_13 : decode cL_turbineByOutput 13 = .ok (.iconst 1, 1) := by decide +kernel
theorem dL_turbineByOutput_14 : decode cL_turbineByOutput 14 = .ok (.ireturn, 1) := by decide +kernel
theorem dL_turbineByOutput_15 : decode cL_turbineByOutput 15 = .ok (.iconst 0, 1) := by decide +kernel
theorem dL_turbineByOutput_16 : decode cL_turbineByOutput 16 = .ok (.ireturn, 1) := by decide +kernel
theorem dL_meanOutput_0 : decode cL_meanOutput 0 = .ok (.aload_n 1, 1) := by decide +kernel
theorem dL_meanOutput_1 : decode cL_meanOutput 1 = .ok (.iconst 0, 1) := by decide +kernel
theorem dL_meanOutput_2 : decode cL_meanOutput 2 = .ok (.aload_n 0, 1) := by decide +kernel
theorem dL_meanOutput_3 : decode cL_meanOutput 3 = .ok (.invokevirtual 116, 3) := by decide +kernel
theorem dL_meanOutput_6 : decode cL_meanOutput 6 = .ok (.dastore, 1) := by decide +kernel
theorem dL_meanOutput_7 : decode cL_meanOutput 7 = .ok (.goto 6, 3) := by decide +kernel
theorem dL_meanOutput_10 : decode cL_meanOutput 10 = .ok (.astore_n 2, 1) := by decide +kernel
theorem dL_meanOutput_11 : decode cL_meanOutput 11 = .ok (.iconst 1, 1) := by decide +kernel
theorem dL_meanOutput_12 : decode cL_meanOutput 12 = .ok (.ireturn, 1) := by decide +kernel
theorem dL_meanOutput_13 : decode cL_meanOutput 13 = .ok (.iconst 0, 1) := by decide +kernel
theorem dL_meanOutput_14 : decode cL_meanOutput 14 = .ok (.ireturn, 1) := by decide +kernel
theorem dL_runningShare_0 : decode cL_runningShare 0 = .ok (.aload_n 1, 1) := by decide +kernel
theorem dL_runningShare_1 : decode cL_runningShare 1 = .ok (.iconst 0, 1) := by decide +kernel
theorem dL_runningShare_2 : decode cL_runningShare 2 = .ok (.aload_n 0, 1) := by decide +kernel
theorem dL_runningShare_3 : decode cL_runningShare 3 = .ok (.invokevirtual 122, 3) := by decide +kernel
theorem dL_runningShare_6 : decode cL_runningShare 6 = .ok (.f2d, 1) := by decide +kernel
theorem dL_runningShare_7 : decode cL_runningShare 7 = .ok (.dastore, 1) := by decide +kernel
theorem dL_runningShare_8 : decode cL_runningShare 8 = .ok (.goto 6, 3) := by decide +kernel
theorem dL_runningShare_11 : decode cL_runningShare 11 = .ok (.astore_n 2, 1) := by decide +kernel
theorem dL_runningShare_12 : decode cL_runningShare 12 = .ok (.iconst 1, 1) := by decide +kernel
theorem dL_runningShare_13 : decode cL_runningShare 13 = .ok (.ireturn, 1) := by decide +kernel
theorem dL_runningShare_14 : decode cL_runningShare 14 = .ok (.iconst 0, 1) := by decide +kernel
theorem dL_runningShare_15 : decode cL_runningShare 15 = .ok (.ireturn, 1) := by decide +kernel
theorem dL_writeTurbine_0 : decode cL_writeTurbine 0 = .ok (.aload_n 2, 1) := by decide +kernel
theorem dL_writeTurbine_1 : decode cL_writeTurbine 1 = .ok (.iconst 0, 1) := by decide +kernel
theorem dL_writeTurbine_2 : decode cL_writeTurbine 2 = .ok (.aload_n 0, 1) := by decide +kernel
theorem dL_writeTurbine_3 : decode cL_writeTurbine 3 = .ok (.iload_n 1, 1) := by decide +kernel
theorem dL_writeTurbine_4 : decode cL_writeTurbine 4 = .ok (.invokevirtual 126, 3) := by decide +kernel
theorem dL_writeTurbine_7 : decode cL_writeTurbine 7 = .ok (.i2l, 1) := by decide +kernel
theorem dL_writeTurbine_8 : decode cL_writeTurbine 8 = .ok (.lastore, 1) := by decide +kernel
theorem dL_writeTurbine_9 : decode cL_writeTurbine 9 = .ok (.goto 6, 3) := by decide +kernel
theorem dL_writeTurbine_12 : decode cL_writeTurbine 12 = .ok (.astore_n 3, 1) := by decide +kernel
theorem dL_writeTurbine_13 : decode cL_writeTurbine 13 = .ok (.iconst 1, 1) := by decide +kernel
theorem dL_writeTurbine_14 : decode cL_writeTurbine 14 = .ok (.ireturn, 1) := by decide +kernel
theorem dL_writeTurbine_15 : decode cL_writeTurbine 15 = .ok (.iconst 0, 1) := by decide +kernel
theorem dL_writeTurbine_16 : decode cL_writeTurbine 16 = .ok (.ireturn, 1) := by decide +kernel
theorem dL_outputAt_0 : decode cL_outputAt 0 = .ok (.aload_n 2, 1) := by decide +kernel
theorem dL_outputAt_1 : decode cL_outputAt 1 = .ok (.iconst 0, 1) := by decide +kernel
theorem dL_outputAt_2 : decode cL_outputAt 2 = .ok (.aload_n 0, 1) := by decide +kernel
theorem dL_outputAt_3 : decode cL_outputAt 3 = .ok (.iload_n 1, 1) := by decide +kernel
theorem dL_outputAt_4 : decode cL_outputAt 4 = .ok (.invokevirtual 129, 3) := by decide +kernel
theorem dL_outputAt_7 : decode cL_outputAt 7 = .ok (.i2l, 1) := by decide +kernel
theorem dL_outputAt_8 : decode cL_outputAt 8 = .ok (.lastore, 1) := by decide +kernel
theorem dL_outputAt_9 : decode cL_outputAt 9 = .ok (.goto 6, 3) := by decide +kernel
theorem dL_outputAt_12 : decode cL_outputAt 12 = .ok (.astore_n 3, 1) := by decide +kernel
theorem dL_outputAt_13 : decode cL_outputAt 13 = .ok (.iconst 1, 1) := by decide +kernel
theorem dL_outputAt_14 : decode cL_outputAt 14 = .ok (.ireturn, 1) := by decide +kernel
theorem dL_outputAt_15 : decode cL_outputAt 15 = .ok (.iconst 0, 1) := by decide +kernel
theorem dL_outputAt_16 : decode cL_outputAt 16 = .ok (.ireturn, 1) := by decide +kernel
theorem dL_appendInput_0 : decode cL_appendInput 0 = .ok (.aload_n 2, 1) := by decide +kernel
theorem dL_appendInput_1 : decode cL_appendInput 1 = .ok (.iconst 0, 1) := by decide +kernel
theorem dL_appendInput_2 : decode cL_appendInput 2 = .ok (.aload_n 0, 1) := by decide +kernel
theorem dL_appendInput_3 : decode cL_appendInput 3 = .ok (.iload_n 1, 1) := by decide +kernel
theorem dL_appendInput_4 : decode cL_appendInput 4 = .ok (.invokevirtual 133, 3) := by decide +kernel
theorem dL_appendInput_7 : decode cL_appendInput 7 = .ok (.i2l, 1) := by decide +kernel
theorem dL_appendInput_8 : decode cL_appendInput 8 = .ok (.lastore, 1) := by decide +kernel
theorem dL_appendInput_9 : decode cL_appendInput 9 = .ok (.goto 9, 3) := by decide +kernel
theorem dL_appendInput_12 : decode cL_appendInput 12 = .ok (.astore_n 3, 1) := by decide +kernel
theorem dL_appendInput_13 : decode cL_appendInput 13 = .ok (.iconst 1, 1) := by decide +kernel
theorem dL_appendInput_14 : decode cL_appendInput 14 = .ok (.ireturn, 1) := by decide +kernel
theorem dL_appendInput_15 : decode cL_appendInput 15 = .ok (.astore_n 3, 1) := by decide +kernel
theorem dL_appendInput_16 : decode cL_appendInput 16 = .ok (.iconst 2, 1) := by decide +kernel
theorem dL_appendInput_17 : decode cL_appendInput 17 = .ok (.ireturn, 1) := by decide +kernel
theorem dL_appendInput_18 : decode cL_appendInput 18 = .ok (.iconst 0, 1) := by decide +kernel
theorem dL_appendInput_19 : decode cL_appendInput 19 = .ok (.ireturn, 1) := by decide +kernel
theorem dL_execute_0 : decode cL_execute 0 = .ok (.aload_n 1, 1) := by decide +kernel
theorem dL_execute_1 : decode cL_execute 1 = .ok (.iconst 0, 1) := by decide +kernel
theorem dL_execute_2 : decode cL_execute 2 = .ok (.aload_n 0, 1) := by decide +kernel
theorem dL_execute_3 : decode cL_execute 3 = .ok (.invokevirtual 139, 3) := by decide +kernel
theorem dL_execute_6 : decode cL_execute 6 = .ok (.i2l, 1) := by decide +kernel
theorem dL_execute_7 : decode cL_execute 7 = .ok (.lastore, 1) := by decide +kernel
theorem dL_execute_8 : decode cL_execute 8 = .ok (.goto 12, 3) := by decide +kernel
theorem dL_execute_11 : decode cL_execute 11 = .ok (.astore_n 2, 1) := by decide +kernel
theorem dL_execute_12 : decode cL_execute 12 = .ok (.iconst 1, 1) := by decide +kernel
theorem dL_execute_13 : decode cL_execute 13 = .ok (.ireturn, 1) := by decide +kernel
theorem dL_execute_14 : decode cL_execute 14 = .ok (.astore_n 2, 1) := by decide +kernel
theorem dL_execute_15 : decode cL_execute 15 = .ok (.iconst 2, 1) := by decide +kernel
theorem dL_execute_16 : decode cL_execute 16 = .ok (.ireturn, 1) := by decide +kernel
theorem dL_execute_17 : decode cL_execute 17 = .ok (.astore_n 2, 1) := by decide +kernel
theorem dL_execute_18 : decode cL_execute 18 = .ok (.iconst 3, 1) := by decide +kernel
theorem dL_execute_19 : decode cL_execute 19 = .ok (.ireturn, 1) := by decide +kernel
theorem dL_execute_20 : decode cL_execute 20 = .ok (.iconst 0, 1) := by decide +kernel
theorem dL_execute_21 : decode cL_execute 21 = .ok (.ireturn, 1) := by decide +kernel
theorem dL_syntaxErrorOffset_0 : decode cL_syntaxErrorOffset 0 = .ok (.aload_n 1, 1) := by decide +kernel
theorem dL_syntaxErrorOffset_1 : decode cL_syntaxErrorOffset 1 = .ok (.iconst 0, 1) := by decide +kernel
theorem dL_syntaxErrorOffset_2 : decode cL_syntaxErrorOffset 2 = .ok (.aload_n 0, 1) := by decide +kernel
theorem dL_syntaxErrorOffset_3 : decode cL_syntaxErrorOffset 3 = .ok (.invokevirtual 142, 3) := by decide +kernel
theorem dL_syntaxErrorOffset_6 : decode cL_syntaxErrorOffset 6 = .ok (.i2l, 1) := by decide +kernel
theorem dL_syntaxErrorOffset_7 : decode cL_syntaxErrorOffset 7 = .ok (.lastore, 1) := by decide +kernel
theorem dL_syntaxErrorOffset_8 : decode cL_syntaxErrorOffset 8 = .ok (.goto 6, 3) := by decide +kernel
theorem dL_syntaxErrorOffset_11 : decode cL_syntaxErrorOffset 11 = .ok (.astore_n 2, 1) := by decide +kernel
theorem dL_syntaxErrorOffset_12 : decode cL_syntaxErrorOffset 12 = .ok (.iconst 1, 1) := by decide +kernel
theorem dL_syntaxErrorOffset_13 : decode cL_syntaxErrorOffset 13 = .ok (.ireturn, 1) := by decide +kernel
theorem dL_syntaxErrorOffset_14 : decode cL_syntaxErrorOffset 14 = .ok (.iconst 0, 1) := by decide +kernel
theorem dL_syntaxErrorOffset_15 : decode cL_syntaxErrorOffset 15 = .ok (.ireturn, 1) := by decide +kernel
theorem dL_rejectionReason_0 : decode cL_rejectionReason 0 = .ok (.aload_n 1, 1) := by decide +kernel
theorem dL_rejectionReason_1 : decode cL_rejectionReason 1 = .ok (.iconst 0, 1) := by decide +kernel
theorem dL_rejectionReason_2 : decode cL_rejectionReason 2 = .ok (.aload_n 0, 1) := by decide +kernel
theorem dL_rejectionReason_3 : decode cL_rejectionReason 3 = .ok (.invokevirtual 145, 3) := by decide +kernel
theorem dL_rejectionReason_6 : decode cL_rejectionReason 6 = .ok (.i2l, 1) := by decide +kernel
theorem dL_rejectionReason_7 : decode cL_rejectionReason 7 = .ok (.lastore, 1) := by decide +kernel
theorem dL_rejectionReason_8 : decode cL_rejectionReason 8 = .ok (.goto 6, 3) := by decide +kernel
theorem dL_rejectionReason_11 : decode cL_rejectionReason 11 = .ok (.astore_n 2, 1) := by decide +kernel
theorem dL_rejectionReason_12 : decode cL_rejectionReason 12 = .ok (.iconst 1, 1) := by decide +kernel
theorem dL_rejectionReason_13 : decode cL_rejectionReason 13 = .ok (.ireturn, 1) := by decide +kernel
theorem dL_rejectionReason_14 : decode cL_rejectionReason 14 = .ok (.iconst 0, 1) := by decide +kernel
theorem dL_rejectionReason_15 : decode cL_rejectionReason 15 = .ok (.ireturn, 1) := by decide +kernel
theorem dL_rejectionDetail_0 : decode cL_rejectionDetail 0 = .ok (.aload_n 1, 1) := by decide +kernel
theorem dL_rejectionDetail_1 : decode cL_rejectionDetail 1 = .ok (.iconst 0, 1) := by decide +kernel
theorem dL_rejectionDetail_2 : decode cL_rejectionDetail 2 = .ok (.aload_n 0, 1) := by decide +kernel
theorem dL_rejectionDetail_3 : decode cL_rejectionDetail 3 = .ok (.invokevirtual 148, 3) := by decide +kernel
theorem dL_rejectionDetail_6 : decode cL_rejectionDetail 6 = .ok (.i2l, 1) := by decide +kernel
theorem dL_rejectionDetail_7 : decode cL_rejectionDetail 7 = .ok (.lastore, 1) := by decide +kernel
theorem dL_rejectionDetail_8 : decode cL_rejectionDetail 8 = .ok (.goto 6, 3) := by decide +kernel
theorem dL_rejectionDetail_11 : decode cL_rejectionDetail 11 = .ok (.astore_n 2, 1) := by decide +kernel
theorem dL_rejectionDetail_12 : decode cL_rejectionDetail 12 = .ok (.iconst 1, 1) := by decide +kernel
theorem dL_rejectionDetail_13 : decode cL_rejectionDetail 13 = .ok (.ireturn, 1) := by decide +kernel
theorem dL_rejectionDetail_14 : decode cL_rejectionDetail 14 = .ok (.iconst 0, 1) := by decide +kernel
theorem dL_rejectionDetail_15 : decode cL_rejectionDetail 15 = .ok (.ireturn, 1) := by decide +kernel
theorem dL_causeReason_0 : decode cL_causeReason 0 = .ok (.aload_n 1, 1) := by decide +kernel
theorem dL_causeReason_1 : decode cL_causeReason 1 = .ok (.iconst 0, 1) := by decide +kernel
theorem dL_causeReason_2 : decode cL_causeReason 2 = .ok (.aload_n 0, 1) := by decide +kernel
theorem dL_causeReason_3 : decode cL_causeReason 3 = .ok (.invokevirtual 151, 3) := by decide +kernel
theorem dL_causeReason_6 : decode cL_causeReason 6 = .ok (.i2l, 1) := by decide +kernel
theorem dL_causeReason_7 : decode cL_causeReason 7 = .ok (.lastore, 1) := by decide +kernel
theorem dL_causeReason_8 : decode cL_causeReason 8 = .ok (.goto 6, 3) := by decide +kernel
theorem dL_causeReason_11 : decode cL_causeReason 11 = .ok (.astore_n 2, 1) := by decide +kernel
theorem dL_causeReason_12 : decode cL_causeReason 12 = .ok (.iconst 1, 1) := by decide +kernel
theorem dL_causeReason_13 : decode cL_causeReason 13 = .ok (.ireturn, 1) := by decide +kernel
theorem dL_causeReason_14 : decode cL_causeReason 14 = .ok (.iconst 0, 1) := by decide +kernel
theorem dL_causeReason_15 : decode cL_causeReason 15 = .ok (.ireturn, 1) := by decide +kernel
theorem dL_undo_0 : decode cL_undo 0 = .ok (.aload_n 1, 1) := by decide +kernel
theorem dL_undo_1 : decode cL_undo 1 = .ok (.iconst 0, 1) := by decide +kernel
theorem dL_undo_2 : decode cL_undo 2 = .ok (.aload_n 0, 1) := by decide +kernel
theorem dL_undo_3 : decode cL_undo 3 = .ok (.invokevirtual 154, 3) := by decide +kernel
theorem dL_undo_6 : decode cL_undo 6 = .ok (.i2l, 1) := by decide +kernel
theorem dL_undo_7 : decode cL_undo 7 = .ok (.lastore, 1) := by decide +kernel
theorem dL_undo_8 : decode cL_undo 8 = .ok (.goto 6, 3) := by decide +kernel
theorem dL_undo_11 : decode cL_undo 11 = .ok (.astore_n 2, 1) := by decide +kernel
theorem dL_undo_12 : decode cL_undo 12 = .ok (.iconst 1, 1) := by decide +kernel
theorem dL_undo_13 : decode cL_undo 13 = .ok (.ireturn, 1) := by decide +kernel
theorem dL_undo_14 : decode cL_undo 14 = .ok (.iconst 0, 1) := by decide +kernel
theorem dL_undo_15 : decode cL_undo 15 = .ok (.ireturn, 1) := by decide +kernel
theorem dL_restoreSnapshot_0 : decode cL_restoreSnapshot 0 = .ok (.aload_n 1, 1) := by decide +kernel
theorem dL_restoreSnapshot_1 : decode cL_restoreSnapshot 1 = .ok (.iconst 0, 1) := by decide +kernel
theorem dL_restoreSnapshot_2 : decode cL_restoreSnapshot 2 = .ok (.aload_n 0, 1) := by decide +kernel
theorem dL_restoreSnapshot_3 : decode cL_restoreSnapshot 3 = .ok (.invokevirtual 157, 3) := by decide +kernel
theorem dL_restoreSnapshot_6 : decode cL_restoreSnapshot 6 = .ok (.i2l, 1) := by decide +kernel
theorem dL_restoreSnapshot_7 : decode cL_restoreSnapshot 7 = .ok (.lastore, 1) := by decide +kernel
theorem dL_restoreSnapshot_8 : decode cL_restoreSnapshot 8 = .ok (.goto 6, 3) := by decide +kernel
theorem dL_restoreSnapshot_11 : decode cL_restoreSnapshot 11 = .ok (.astore_n 2, 1) := by decide +kernel
theorem dL_restoreSnapshot_12 : decode cL_restoreSnapshot 12 = .ok (.iconst 1, 1) := by decide +kernel
theorem dL_restoreSnapshot_13 : decode cL_restoreSnapshot 13 = .ok (.ireturn, 1) := by decide +kernel
theorem dL_restoreSnapshot_14 : decode cL_restoreSnapshot 14 = .ok (.iconst 0, 1) := by decide +kernel
theorem dL_restoreSnapshot_15 : decode cL_restoreSnapshot 15 = .ok (.ireturn, 1) := by decide +kernel
