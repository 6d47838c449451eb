theorem dL_cell_0 : decode cL_cell 0 = .ok (.iload_n 1, 1) := by decide +kernel
theorem dL_cell_1 : decode cL_cell 1 = .ok (.aload_n 0, 1) := by decide +kernel
theorem dL_cell_2 : decode cL_cell 2 = .ok (.arraylength, 1) := by decide +kernel
theorem dL_cell_3 : decode cL_cell 3 = .ok (.if_icmp .ge 9, 3) := by decide +kernel
theorem dL_cell_6 : decode cL_cell 6 = .ok (.aload_n 0, 1) := by decide +kernel
theorem dL_cell_7 : decode cL_cell 7 = .ok (.iload_n 1, 1) := by decide +kernel
theorem dL_cell_8 : decode cL_cell 8 = .ok (.iaload, 1) := by decide +kernel
theorem dL_cell_9 : decode cL_cell 9 = .ok (.goto 11, 3) := by decide +kernel
theorem dL_cell_12 : decode cL_cell 12 = .ok (.sipush 7919, 3) := by decide +kernel
theorem dL_cell_15 : decode cL_cell 15 = .ok (.iload_n 1, 1) := by decide +kernel
theorem dL_cell_16 : decode cL_cell 16 = .ok (.imul, 1) := by decide +kernel
theorem dL_cell_17 : decode cL_cell 17 = .ok (.bipush 12, 2) := by decide +kernel
theorem dL_cell_19 : decode cL_cell 19 = .ok (.iadd, 1) := by decide +kernel
theorem dL_cell_20 : decode cL_cell 20 = .ok (.ireturn, 1) := by decide +kernel
theorem dL_some_0 : decode cL_some 0 = .ok (.aload_n 0, 1) := by decide +kernel
theorem dL_some_1 : decode cL_some 1 = .ok (.iload_n 1, 1) := by decide +kernel
theorem dL_some_2 : decode cL_some 2 = .ok (.invokestatic 7, 3) := by decide +kernel
theorem dL_some_5 : decode cL_some 5 = .ok (.iconst 3, 1) := by decide +kernel
theorem dL_some_6 : decode cL_some 6 = .ok (.iushr, 1) := by decide +kernel
theorem dL_some_7 : decode cL_some 7 = .ok (.iload_n 2, 1) := by decide +kernel
theorem dL_some_8 : decode cL_some 8 = .ok (.irem, 1) := by decide +kernel
theorem dL_some_9 : decode cL_some 9 = .ok (.ireturn, 1) := by decide +kernel
theorem dL_addTurbine_0 : decode cL_addTurbine 0 = .ok (.aload_n 0, 1) := by decide +kernel
theorem dL_addTurbine_1 : decode cL_addTurbine 1 = .ok (.iload_n 1, 1) := by decide +kernel
theorem dL_addTurbine_2 : decode cL_addTurbine 2 = .ok (.iload_n 2, 1) := by decide +kernel
theorem dL_addTurbine_3 : decode cL_addTurbine 3 = .ok (.iload_n 3, 1) := by decide +kernel
theorem dL_addTurbine_4 : decode cL_addTurbine 4 = .ok (.invokevirtual 13, 3) := by decide +kernel
theorem dL_addTurbine_7 : decode cL_addTurbine 7 = .ok (.ireturn, 1) := by decide +kernel
theorem dL_addTurbine_8 : decode cL_addTurbine 8 = .ok (.astore 4, 2) := by decide +kernel
theorem dL_addTurbine_10 : decode cL_addTurbine 10 = .ok (.sipush (-25000), 3) := by decide +kernel
theorem dL_addTurbine_13 : decode cL_addTurbine 13 = .ok (.ireturn, 1) := by decide +kernel
theorem dL_addTurbine_14 : decode cL_addTurbine 14 = .ok (.astore 4, 2) := by decide +kernel
theorem dL_addTurbine_16 : decode cL_addTurbine 16 = .ok (.sipush (-20000), 3) := by decide +kernel
theorem dL_addTurbine_19 : decode cL_addTurbine 19 = .ok (.ireturn, 1) := by decide +kernel
theorem dL_addTurbine_20 : decode cL_addTurbine 20 = .ok (.astore 4, 2) := by decide +kernel
theorem dL_addTurbine_22 : decode cL_addTurbine 22 = .ok (.sipush (-10000), 3) := by decide +kernel
theorem dL_addTurbine_25 : decode cL_addTurbine 25 = .ok (.aload_n 0, 1) := by decide +kernel
theorem dL_addTurbine_26 : decode cL_addTurbine 26 = .ok (.invokevirtual 25, 3) := by decide +kernel
theorem dL_addTurbine_29 : decode cL_addTurbine 29 = .ok (.isub, 1) := by decide +kernel
theorem dL_addTurbine_30 : decode cL_addTurbine 30 = .ok (.ireturn, 1) := by decide +kernel
theorem dL_fail_0 : decode cL_fail 0 = .ok (.aload_n 0, 1) := by decide +kernel
theorem dL_fail_1 : decode cL_fail 1 = .ok (.iload_n 1, 1) := by decide +kernel
theorem dL_fail_2 : decode cL_fail 2 = .ok (.invokevirtual 29, 3) := by decide +kernel
theorem dL_fail_5 : decode cL_fail 5 = .ok (.ireturn, 1) := by decide +kernel
theorem dL_fail_6 : decode cL_fail 6 = .ok (.astore_n 2, 1) := by decide +kernel
theorem dL_fail_7 : decode cL_fail 7 = .ok (.sipush (-25000), 3) := by decide +kernel
theorem dL_fail_10 : decode cL_fail 10 = .ok (.ireturn, 1) := by decide +kernel
theorem dL_fail_11 : decode cL_fail 11 = .ok (.astore_n 2, 1) := by decide +kernel
theorem dL_fail_12 : decode cL_fail 12 = .ok (.sipush (-10000), 3) := by decide +kernel
theorem dL_fail_15 : decode cL_fail 15 = .ok (.aload_n 0, 1) := by decide +kernel
theorem dL_fail_16 : decode cL_fail 16 = .ok (.invokevirtual 25, 3) := by decide +kernel
theorem dL_fail_19 : decode cL_fail 19 = .ok (.isub, 1) := by decide +kernel
theorem dL_fail_20 : decode cL_fail 20 = .ok (.ireturn, 1) := by decide +kernel
theorem dL_sendCrew_0 : decode cL_sendCrew 0 = .ok (.aload_n 0, 1) := by decide +kernel
theorem dL_sendCrew_1 : decode cL_sendCrew 1 = .ok (.iload_n 1, 1) := by decide +kernel
theorem dL_sendCrew_2 : decode cL_sendCrew 2 = .ok (.iload_n 2, 1) := by decide +kernel
theorem dL_sendCrew_3 : decode cL_sendCrew 3 = .ok (.invokevirtual 33, 3) := by decide +kernel
theorem dL_sendCrew_6 : decode cL_sendCrew 6 = .ok (.ireturn, 1) := by decide +kernel
theorem dL_sendCrew_7 : decode cL_sendCrew 7 = .ok (.astore_n 3, 1) := by decide +kernel
theorem dL_sendCrew_8 : decode cL_sendCrew 8 = .ok (.sipush (-25000), 3) := by decide +kernel
theorem dL_sendCrew_11 : decode cL_sendCrew 11 = .ok (.ireturn, 1) := by decide +kernel
theorem dL_sendCrew_12 : decode cL_sendCrew 12 = .ok (.astore_n 3, 1) := by decide +kernel
theorem dL_sendCrew_13 : decode cL_sendCrew 13 = .ok (.sipush (-20000), 3) := by decide +kernel
theorem dL_sendCrew_16 : decode cL_sendCrew 16 = .ok (.ireturn, 1) := by decide +kernel
theorem dL_sendCrew_17 : decode cL_sendCrew 17 = .ok (.astore_n 3, 1) := by decide +kernel
theorem dL_sendCrew_18 : decode cL_sendCrew 18 = .ok (.sipush (-10000), 3) := by decide +kernel
theorem dL_sendCrew_21 : decode cL_sendCrew 21 = .ok (.aload_n 0, 1) := by decide +kernel
theorem dL_sendCrew_22 : decode cL_sendCrew 22 = .ok (.invokevirtual 25, 3) := by decide +kernel
theorem dL_sendCrew_25 : decode cL_sendCrew 25 = .ok (.isub, 1) := by decide +kernel
theorem dL_sendCrew_26 : decode cL_sendCrew 26 = .ok (.ireturn, 1) := by decide +kernel
theorem dL_recallCrew_0 : decode cL_recallCrew 0 = .ok (.aload_n 0, 1) := by decide +kernel
theorem dL_recallCrew_1 : decode cL_recallCrew 1 = .ok (.iload_n 1, 1) := by decide +kernel
theorem dL_recallCrew_2 : decode cL_recallCrew 2 = .ok (.invokevirtual 37, 3) := by decide +kernel
theorem dL_recallCrew_5 : decode cL_recallCrew 5 = .ok (.ireturn, 1) := by decide +kernel
theorem dL_recallCrew_6 : decode cL_recallCrew 6 = .ok (.astore_n 2, 1) := by decide +kernel
theorem dL_recallCrew_7 : decode cL_recallCrew 7 = .ok (.sipush (-25000), 3) := by decide +kernel
theorem dL_recallCrew_10 : decode cL_recallCrew 10 = .ok (.ireturn, 1) := by decide +kernel
theorem dL_recallCrew_11 : decode cL_recallCrew 11 = .ok (.astore_n 2, 1) := by decide +kernel
theorem dL_recallCrew_12 : decode cL_recallCrew 12 = .ok (.sipush (-10000), 3) := by decide +kernel
theorem dL_recallCrew_15 : decode cL_recallCrew 15 = .ok (.aload_n 0, 1) := by decide +kernel
theorem dL_recallCrew_16 : decode cL_recallCrew 16 = .ok (.invokevirtual 25, 3) := by decide +kernel
theorem dL_recallCrew_19 : decode cL_recallCrew 19 = .ok (.isub, 1) := by decide +kernel
theorem dL_recallCrew_20 : decode cL_recallCrew 20 = .ok (.ireturn, 1) := by decide +kernel
theorem dL_curtail_0 : decode cL_curtail 0 = .ok (.aload_n 0, 1) := by decide +kernel
theorem dL_curtail_1 : decode cL_curtail 1 = .ok (.iload_n 1, 1) := by decide +kernel
theorem dL_curtail_2 : decode cL_curtail 2 = .ok (.iload_n 2, 1) := by decide +kernel
theorem dL_curtail_3 : decode cL_curtail 3 = .ok (.invokevirtual 40, 3) := by decide +kernel
theorem dL_curtail_6 : decode cL_curtail 6 = .ok (.ireturn, 1) := by decide +kernel
theorem dL_curtail_7 : decode cL_curtail 7 = .ok (.astore_n 3, 1) := by decide +kernel
theorem dL_curtail_8 : decode cL_curtail 8 = .ok (.sipush (-25000), 3) := by decide +kernel
theorem dL_curtail_11 : decode cL_curtail 11 = .ok (.ireturn, 1) := by decide +kernel
theorem dL_curtail_12 : decode cL_curtail 12 = .ok (.astore_n 3, 1) := by decide +kernel
theorem dL_curtail_13 : decode cL_curtail 13 = .ok (.sipush (-20000), 3) := by decide +kernel
theorem dL_curtail_16 : decode cL_curtail 16 = .ok (.ireturn, 1) := by decide +kernel
theorem dL_curtail_17 : decode cL_curtail 17 = .ok (.astore_n 3, 1) := by decide +kernel
theorem dL_curtail_18 : decode cL_curtail 18 = .ok (.sipush (-10000), 3) := by decide +kernel
theorem dL_curtail_21 : decode cL_curtail 21 = .ok (.aload_n 0, 1) := by decide +kernel
theorem dL_curtail_22 : decode cL_curtail 22 = .ok (.invokevirtual 25, 3) := by decide +kernel
theorem dL_curtail_25 : decode cL_curtail 25 = .ok (.isub, 1) := by decide +kernel
theorem dL_curtail_26 : decode cL_curtail 26 = .ok (.ireturn, 1) := by decide +kernel
theorem dL_release_0 : decode cL_release 0 = .ok (.aload_n 0, 1) := by decide +kernel
theorem dL_release_1 : decode cL_release 1 = .ok (.iload_n 1, 1) := by decide +kernel
theorem dL_release_2 : decode cL_release 2 = .ok (.invokevirtual 43, 3) := by decide +kernel
theorem dL_release_5 : decode cL_release 5 = .ok (.ireturn, 1) := by decide +kernel
theorem dL_release_6 : decode cL_release 6 = .ok (.astore_n 2, 1) := by decide +kernel
theorem dL_release_7 : decode cL_release 7 = .ok (.sipush (-25000), 3) := by decide +kernel
theorem dL_release_10 : decode cL_release 10 = .ok (.ireturn, 1) := by decide +kernel
theorem dL_release_11 : decode cL_release 11 = .ok (.astore_n 2, 1) := by decide +kernel
theorem dL_release_12 : decode cL_release 12 = .ok (.sipush (-10000), 3) := by decide +kernel
theorem dL_release_15 : decode cL_release 15 = .ok (.aload_n 0, 1) := by decide +kernel
theorem dL_release_16 : decode cL_release 16 = .ok (.invokevirtual 25, 3) := by decide +kernel
theorem dL_release_19 : decode cL_release 19 = .ok (.isub, 1) := by decide +kernel
theorem dL_release_20 : decode cL_release 20 = .ok (.ireturn, 1) := by decide +kernel
theorem dL_turbineAt_0 : decode cL_turbineAt 0 = .ok (.aload_n 0, 1) := by decide +kernel
theorem dL_turbineAt_1 : decode cL_turbineAt 1 = .ok (.iload_n 1, 1) := by decide +kernel
theorem dL_turbineAt_2 : decode cL_turbineAt 2 = .ok (.iload_n 2, 1) := by decide +kernel
theorem dL_turbineAt_3 : decode cL_turbineAt 3 = .ok (.invokevirtual 46, 3) := by decide +kernel
theorem dL_turbineAt_6 : decode cL_turbineAt 6 = .ok (.ireturn, 1) := by decide +kernel
theorem dL_turbineAt_7 : decode cL_turbineAt 7 = .ok (.astore_n 3, 1) := by decide +kernel
theorem dL_turbineAt_8 : decode cL_turbineAt 8 = .ok (.sipush (-25000), 3) := by decide +kernel
theorem dL_turbineAt_11 : decode cL_turbineAt 11 = .ok (.ireturn, 1) := by decide +kernel
theorem dL_turbineAt_12 : decode cL_turbineAt 12 = .ok (.astore_n 3, 1) := by decide +kernel
theorem dL_turbineAt_13 : decode cL_turbineAt 13 = .ok (.sipush (-30000), 3) := by decide +kernel
theorem dL_turbineAt_16 : decode cL_turbineAt 16 = .ok (.ireturn, 1) := by decide +kernel
theorem dL_limitOf_0 : decode cL_limitOf 0 = .ok (.aload_n 0, 1) := by decide +kernel
theorem dL_limitOf_1 : decode cL_limitOf 1 = .ok (.iload_n 1, 1) := by decide +kernel
theorem dL_limitOf_2 : decode cL_limitOf 2 = .ok (.invokevirtual 51, 3) := by decide +kernel
theorem dL_limitOf_5 : decode cL_limitOf 5 = .ok (.ireturn, 1) := by decide +kernel
theorem dL_limitOf_6 : decode cL_limitOf 6 = .ok (.astore_n 2, 1) := by decide +kernel
theorem dL_limitOf_7 : decode cL_limitOf 7 = .ok (.sipush (-25000), 3) := by decide +kernel
theorem dL_limitOf_10 : decode cL_limitOf 10 = .ok (.ireturn, 1) := by decide +kernel
theorem dL_limitOf_11 : decode cL_limitOf 11 = .ok (.astore_n 2, 1) := by decide +kernel
theorem dL_limitOf_12 : decode cL_limitOf 12 = .ok (.sipush (-30000), 3) := by decide +kernel
theorem dL_limitOf_15 : decode cL_limitOf 15 = .ok (.ireturn, 1) := by decide +kernel
theorem dL_serviceHoursLeft_0 : decode cL_serviceHoursLeft 0 = .ok (.aload_n 0, 1) := by decide +kernel
theorem dL_serviceHoursLeft_1 : decode cL_serviceHoursLeft 1 = .ok (.iload_n 1, 1) := by decide +kernel
theorem dL_serviceHoursLeft_2 : decode cL_serviceHoursLeft 2 = .ok (.invokevirtual 54, 3) := by decide +kernel
theorem dL_serviceHoursLeft_5 : decode cL_serviceHoursLeft 5 = .ok (.ireturn, 1) := by decide +kernel
theorem dL_serviceHoursLeft_6 : decode cL_serviceHoursLeft 6 = .ok (.astore_n 2, 1) := by decide +kernel
theorem dL_serviceHoursLeft_7 : decode cL_serviceHoursLeft 7 = .ok (.sipush (-25000), 3) := by decide +kernel
theorem dL_serviceHoursLeft_10 : decode cL_serviceHoursLeft 10 = .ok (.ireturn, 1) := by decide +kernel
theorem dL_serviceHoursLeft_11 : decode cL_serviceHoursLeft 11 = .ok (.astore_n 2, 1) := by decide +kernel
theorem dL_serviceHoursLeft_12 : decode cL_serviceHoursLeft 12 = .ok (.sipush (-30000), 3) := by decide +kernel
theorem dL_serviceHoursLeft_15 : decode cL_serviceHoursLeft 15 = .ok (.ireturn, 1) := by decide +kernel
theorem dL_setWind_0 : decode cL_setWind 0 = .ok (.aload_n 0, 1) := by decide +kernel
theorem dL_setWind_1 : decode cL_setWind 1 = .ok (.iload_n 1, 1) := by decide +kernel
theorem dL_setWind_2 : decode cL_setWind 2 = .ok (.iload_n 2, 1) := by decide +kernel
theorem dL_setWind_3 : decode cL_setWind 3 = .ok (.invokevirtual 57, 3) := by decide +kernel
theorem dL_setWind_6 : decode cL_setWind 6 = .ok (.ireturn, 1) := by decide +kernel
theorem dL_setWind_7 : decode cL_setWind 7 = .ok (.astore_n 3, 1) := by decide +kernel
theorem dL_setWind_8 : decode cL_setWind 8 = .ok (.sipush (-20000), 3) := by decide +kernel
theorem dL_setWind_11 : decode cL_setWind 11 = .ok (.ireturn, 1) := by decide +kernel
theorem dL_setGridLimit_0 : decode cL_setGridLimit 0 = .ok (.aload_n 0, 1) := by decide +kernel
theorem dL_setGridLimit_1 : decode cL_setGridLimit 1 = .ok (.iload_n 1, 1) := by decide +kernel
theorem dL_setGridLimit_2 : decode cL_setGridLimit 2 = .ok (.invokevirtual 61, 3) := by decide +kernel
theorem dL_setGridLimit_5 : decode cL_setGridLimit 5 = .ok (.ireturn, 1) := by decide +kernel
theorem dL_setGridLimit_6 : decode cL_setGridLimit 6 = .ok (.astore_n 2, 1) := by decide +kernel
theorem dL_setGridLimit_7 : decode cL_setGridLimit 7 = .ok (.sipush (-20000), 3) := by decide +kernel
theorem dL_setGridLimit_10 : decode cL_setGridLimit 10 = .ok (.ireturn, 1) := by decide +kernel
theorem dL_placeBid_0 : decode cL_placeBid 0 = .ok (.aload_n 0, 1) := by decide +kernel
theorem dL_placeBid_1 : decode cL_placeBid 1 = .ok (.iload_n 1, 1) := by decide +kernel
theorem dL_placeBid_2 : decode cL_placeBid 2 = .ok (.iload_n 2, 1) := by decide +kernel
theorem dL_placeBid_3 : decode cL_placeBid 3 = .ok (.iload_n 3, 1) := by decide +kernel
theorem dL_placeBid_4 : decode cL_placeBid 4 = .ok (.invokevirtual 64, 3) := by decide +kernel
theorem dL_placeBid_7 : decode cL_placeBid 7 = .ok (.ireturn, 1) := by decide +kernel
theorem dL_placeBid_8 : decode cL_placeBid 8 = .ok (.astore 4, 2) := by decide +kernel
theorem dL_placeBid_10 : decode cL_placeBid 10 = .ok (.sipush (-25000), 3) := by decide +kernel
theorem dL_placeBid_13 : decode cL_placeBid 13 = .ok (.ireturn, 1) := by decide +kernel
theorem dL_placeBid_14 : decode cL_placeBid 14 = .ok (.astore 4, 2) := by decide +kernel
theorem dL_placeBid_16 : decode cL_placeBid 16 = .ok (.sipush (-20000), 3) := by decide +kernel
theorem dL_placeBid_19 : decode cL_placeBid 19 = .ok (.ireturn, 1) := by decide +kernel
theorem dL_placeBid_20 : decode cL_placeBid 20 = .ok (.astore 4, 2) := by decide +kernel
theorem dL_placeBid_22 : decode cL_placeBid 22 = .ok (.sipush (-10000), 3) := by decide +kernel
theorem dL_placeBid_25 : decode cL_placeBid 25 = .ok (.aload_n 0, 1) := by decide +kernel
theorem dL_placeBid_26 : decode cL_placeBid 26 = .ok (.invokevirtual 25, 3) := by decide +kernel
theorem dL_placeBid_29 : decode cL_placeBid 29 = .ok (.isub, 1) := by decide +kernel
theorem dL_placeBid_30 : decode cL_placeBid 30 = .ok (.ireturn, 1) := by decide +kernel
theorem dL_withdrawBid_0 : decode cL_withdrawBid 0 = .ok (.aload_n 0, 1) := by decide +kernel
theorem dL_withdrawBid_1 : decode cL_withdrawBid 1 = .ok (.iload_n 1, 1) := by decide +kernel
theorem dL_withdrawBid_2 : decode cL_withdrawBid 2 = .ok (.invokevirtual 67, 3) := by decide +kernel
theorem dL_withdrawBid_5 : decode cL_withdrawBid 5 = .ok (.ireturn, 1) := by decide +kernel
theorem dL_withdrawBid_6 : decode cL_withdrawBid 6 = .ok (.astore_n 2, 1) := by decide +kernel
theorem dL_withdrawBid_7 : decode cL_withdrawBid 7 = .ok (.sipush (-25000), 3) := by decide +kernel
theorem dL_withdrawBid_10 : decode cL_withdrawBid 10 = .ok (.ireturn, 1) := by decide +kernel
theorem dL_withdrawBid_11 : decode cL_withdrawBid 11 = .ok (.astore_n 2, 1) := by decide +kernel
theorem dL_withdrawBid_12 : decode cL_withdrawBid 12 = .ok (.sipush (-10000), 3) := by decide +kernel
theorem dL_withdrawBid_15 : decode cL_withdrawBid 15 = .ok (.aload_n 0, 1) := by decide +kernel
theorem dL_withdrawBid_16 : decode cL_withdrawBid 16 = .ok (.invokevirtual 25, 3) := by decide +kernel
theorem dL_withdrawBid_19 : decode cL_withdrawBid 19 = .ok (.isub, 1) := by decide +kernel
theorem dL_withdrawBid_20 : decode cL_withdrawBid 20 = .ok (.ireturn, 1) := by decide +kernel
theorem dL_bidPrice_0 : decode cL_bidPrice 0 = .ok (.aload_n 0, 1) := by decide +kernel
theorem dL_bidPrice_1 : decode cL_bidPrice 1 = .ok (.iload_n 1, 1) := by decide +kernel
theorem dL_bidPrice_2 : decode cL_bidPrice 2 = .ok (.invokevirtual 70, 3) := by decide +kernel
theorem dL_bidPrice_5 : decode cL_bidPrice 5 = .ok (.ireturn, 1) := by decide +kernel
theorem dL_bidPrice_6 : decode cL_bidPrice 6 = .ok (.astore_n 2, 1) := by decide +kernel
theorem dL_bidPrice_7 : decode cL_bidPrice 7 = .ok (.sipush (-25000), 3) := by decide +kernel
theorem dL_bidPrice_10 : decode cL_bidPrice 10 = .ok (.ireturn, 1) := by decide +kernel
theorem dL_bidPrice_11 : decode cL_bidPrice 11 = .ok (.astore_n 2, 1) := by decide +kernel
theorem dL_bidPrice_12 : decode cL_bidPrice 12 = .ok (.sipush (-30000), 3) := by decide +kernel
theorem dL_bidPrice_15 : decode cL_bidPrice 15 = .ok (.ireturn, 1) := by decide +kernel
theorem dL_bidQuantity_0 : decode cL_bidQuantity 0 = .ok (.aload_n 0, 1) := by decide +kernel
theorem dL_bidQuantity_1 : decode cL_bidQuantity 1 = .ok (.iload_n 1, 1) := by decide +kernel
theorem dL_bidQuantity_2 : decode cL_bidQuantity 2 = .ok (.invokevirtual 73, 3) := by decide +kernel
theorem dL_bidQuantity_5 : decode cL_bidQuantity 5 = .ok (.ireturn, 1) := by decide +kernel
theorem dL_bidQuantity_6 : decode cL_bidQuantity 6 = .ok (.astore_n 2, 1) := by decide +kernel
theorem dL_bidQuantity_7 : decode cL_bidQuantity 7 = .ok (.sipush (-25000), 3) := by decide +kernel
theorem dL_bidQuantity_10 : decode cL_bidQuantity 10 = .ok (.ireturn, 1) := by decide +kernel
theorem dL_bidQuantity_11 : decode cL_bidQuantity 11 = .ok (.astore_n 2, 1) := by decide +kernel
theorem dL_bidQuantity_12 : decode cL_bidQuantity 12 = .ok (.sipush (-30000), 3) := by decide +kernel
theorem dL_bidQuantity_15 : decode cL_bidQuantity 15 = .ok (.ireturn, 1) := by decide +kernel
theorem dL_bidByPrice_0 : decode cL_bidByPrice 0 = .ok (.aload_n 0, 1) := by decide +kernel
theorem dL_bidByPrice_1 : decode cL_bidByPrice 1 = .ok (.iload_n 1, 1) := by decide +kernel
theorem dL_bidByPrice_2 : decode cL_bidByPrice 2 = .ok (.invokevirtual 76, 3) := by decide +kernel
theorem dL_bidByPrice_5 : decode cL_bidByPrice 5 = .ok (.ireturn, 1) := by decide +kernel
theorem dL_bidByPrice_6 : decode cL_bidByPrice 6 = .ok (.astore_n 2, 1) := by decide +kernel
theorem dL_bidByPrice_7 : decode cL_bidByPrice 7 = .ok (.sipush (-30000), 3) := by decide +kernel
theorem dL_bidByPrice_10 : decode cL_bidByPrice 10 = .ok (.ireturn, 1) := by decide +kernel
theorem dL_passHours_0 : decode cL_passHours 0 = .ok (.aload_n 0, 1) := by decide +kernel
theorem dL_passHours_1 : decode cL_passHours 1 = .ok (.iload_n 1, 1) := by decide +kernel
theorem dL_passHours_2 : decode cL_passHours 2 = .ok (.invokevirtual 79, 3) := by decide +kernel
theorem dL_passHours_5 : decode cL_passHours 5 = .ok (.ireturn, 1) := by decide +kernel
theorem dL_passHours_6 : decode cL_passHours 6 = .ok (.astore_n 2, 1) := by decide +kernel
theorem dL_passHours_7 : decode cL_passHours 7 = .ok (.sipush (-20000), 3) := by decide +kernel
theorem dL_passHours_10 : decode cL_passHours 10 = .ok (.ireturn, 1) := by decide +kernel
theorem dL_hoursToBid_0 : decode cL_hoursToBid 0 = .ok (.aload_n 0, 1) := by decide +kernel
theorem dL_hoursToBid_1 : decode cL_hoursToBid 1 = .ok (.invokevirtual 82, 3) := by decide +kernel
theorem dL_hoursToBid_4 : decode cL_hoursToBid 4 = .ok (.ireturn, 1) := by decide +kernel
theorem dL_hoursToBid_5 : decode cL_hoursToBid 5 = .ok (.astore_n 1, 1) := by decide +kernel
theorem dL_hoursToBid_6 : decode cL_hoursToBid 6 = .ok (.sipush (-30000), 3) := by decide +kernel
theorem dL_hoursToBid_9 : decode cL_hoursToBid 9 = .ok (.ireturn, 1) := by decide +kernel
theorem dL_turbineByOutput_0 : decode cL_turbineByOutput 0 = .ok (.aload_n 0, 1) := by decide +kernel
theorem dL_turbineByOutput_1 : decode cL_turbineByOutput 1 = .ok (.iload_n 1, 1) := by decide +kernel
theorem dL_turbineByOutput_2 : decode cL_turbineByOutput 2 = .ok (.invokevirtual 85, 3) := by decide +kernel
theorem dL_turbineByOutput_5 : decode cL_turbineByOutput 5 = .ok (.ireturn, 1) := by decide +kernel
theorem dL_turbineByOutput_6 : decode cL_turbineByOutput 6 = .ok (.astore_n 2, 1) := by decide +kernel
theorem dL_turbineByOutput_7 : decode cL_turbineByOutput 7 = .ok (.sipush (-30000), 3) := by decide +kernel
theorem dL_turbineByOutput_10 : decode cL_turbineByOutput 10 = .ok (.ireturn, 1) := by decide +kernel
theorem dL_way_0 : decode cL_way 0 = .ok (.iload_n 0, 1) := by decide +kernel
theorem dL_way_1 : decode cL_way 1 = .ok (.iconst 4, 1) := by decide +kernel
theorem dL_way_2 : decode cL_way 2 = .ok (.irem, 1) := by decide +kernel
theorem dL_way_3 : decode cL_way 3 = .ok (.ifCond .ne 8, 3) := by decide +kernel
theorem dL_way_6 : decode cL_way 6 = .ok (.bipush 78, 2) := by decide +kernel
theorem dL_way_8 : decode cL_way 8 = .ok (.goto 29, 3) := by decide +kernel
theorem dL_way_11 : decode cL_way 11 = .ok (.iload_n 0, 1) := by decide +kernel
theorem dL_way_12 : decode cL_way 12 = .ok (.iconst 4, 1) := by decide +kernel
theorem dL_way_13 : decode cL_way 13 = .ok (.irem, 1) := by decide +kernel
theorem dL_way_14 : decode cL_way 14 = .ok (.iconst 1, 1) := by decide +kernel
theorem dL_way_15 : decode cL_way 15 = .ok (.if_icmp .ne 8, 3) := by decide +kernel
theorem dL_way_18 : decode cL_way 18 = .ok (.bipush 69, 2) := by decide +kernel
theorem dL_way_20 : decode cL_way 20 = .ok (.goto 17, 3) := by decide +kernel
theorem dL_way_23 : decode cL_way 23 = .ok (.iload_n 0, 1) := by decide +kernel
theorem dL_way_24 : decode cL_way 24 = .ok (.iconst 4, 1) := by decide +kernel
theorem dL_way_25 : decode cL_way 25 = .ok (.irem, 1) := by decide +kernel
theorem dL_way_26 : decode cL_way 26 = .ok (.iconst 2, 1) := by decide +kernel
theorem dL_way_27 : decode cL_way 27 = .ok (.if_icmp .ne 8, 3) := by decide +kernel
theorem dL_way_30 : decode cL_way 30 = .ok (.bipush 83, 2) := by decide +kernel
theorem dL_way_32 : decode cL_way 32 = .ok (.goto 5, 3) := by decide +kernel
theorem dL_way_35 : decode cL_way 35 = .ok (.bipush 87, 2) := by decide +kernel
theorem dL_way_37 : decode cL_way 37 = .ok (.ireturn, 1) := by decide +kernel
theorem dL_build_0 : decode cL_build 0 = .ok (.iconst 0, 1) := by decide +kernel
theorem dL_build_1 : decode cL_build 1 = .ok (.istore_n 3, 1) := by decide +kernel
theorem dL_build_2 : decode cL_build 2 = .ok (.iload_n 3, 1) := by decide +kernel
theorem dL_build_3 : decode cL_build 3 = .ok (.bipush 8, 2) := by decide +kernel
theorem dL_build_5 : decode cL_build 5 = .ok (.if_icmp .ge 42, 3) := by decide +kernel
theorem dL_build_8 : decode cL_build 8 = .ok (.aload_n 0, 1) := by decide +kernel
theorem dL_build_9 : decode cL_build 9 = .ok (.aload_n 1, 1) := by decide +kernel
theorem dL_build_10 : decode cL_build 10 = .ok (.iload_n 3, 1) := by decide +kernel
theorem dL_build_11 : decode cL_build 11 = .ok (.iconst 5, 1) := by decide +kernel
theorem dL_build_12 : decode cL_build 12 = .ok (.invokestatic 88, 3) := by decide +kernel
theorem dL_build_15 : decode cL_build 15 = .ok (.aload_n 1, 1) := by decide +kernel
theorem dL_build_16 : decode cL_build 16 = .ok (.bipush 10, 2) := by decide +kernel
theorem dL_build_18 : decode cL_build 18 = .ok (.iload_n 3, 1) := by decide +kernel
theorem dL_build_19 : decode cL_build 19 = .ok (.iadd, 1) := by decide +kernel
theorem dL_build_20 : decode cL_build 20 = .ok (.bipush 6, 2) := by decide +kernel
theorem dL_build_22 : decode cL_build 22 = .ok (.invokestatic 88, 3) := by decide +kernel
theorem dL_build_25 : decode cL_build 25 = .ok (.iconst 1, 1) := by decide +kernel
theorem dL_build_26 : decode cL_build 26 = .ok (.aload_n 1, 1) := by decide +kernel
theorem dL_build_27 : decode cL_build 27 = .ok (.bipush 20, 2) := by decide +kernel
theorem dL_build_29 : decode cL_build 29 = .ok (.iload_n 3, 1) := by decide +kernel
theorem dL_build_30 : decode cL_build 30 = .ok (.iadd, 1) := by decide +kernel
theorem dL_build_31 : decode cL_build 31 = .ok (.bipush 9, 2) := by decide +kernel
theorem dL_build_33 : decode cL_build 33 = .ok (.invokestatic 88, 3) := by decide +kernel
theorem dL_build_36 : decode cL_build 36 = .ok (.iadd, 1) := by decide +kernel
theorem dL_build_37 : decode cL_build 37 = .ok (.invokestatic 92, 3) := by decide +kernel
theorem dL_build_40 : decode cL_build 40 = .ok (.istore_n 2, 1) := by decide +kernel
theorem dL_build_41 : decode cL_build 41 = .ok (.iinc 3 1, 3) := by decide +kernel
theorem dL_build_44 : decode cL_build 44 = .ok (.goto (-42), 3) := by decide +kernel
theorem dL_build_47 : decode cL_build 47 = .ok (.aload_n 0, 1) := by decide +kernel
theorem dL_build_48 : decode cL_build 48 = .ok (.aload_n 1, 1) := by decide +kernel
theorem dL_build_49 : decode cL_build 49 = .ok (.bipush 30, 2) := by decide +kernel
theorem dL_build_51 : decode cL_build 51 = .ok (.iconst 4, 1) := by decide +kernel
theorem dL_build_52 : decode cL_build 52 = .ok (.invokestatic 88, 3) := by decide +kernel
theorem dL_build_55 : decode cL_build 55 = .ok (.invokestatic 95, 3) := by decide +kernel
theorem dL_build_58 : decode cL_build 58 = .ok (.iconst 3, 1) := by decide +kernel
theorem dL_build_59 : decode cL_build 59 = .ok (.aload_n 1, 1) := by decide +kernel
theorem dL_build_60 : decode cL_build 60 = .ok (.bipush 31, 2) := by decide +kernel
theorem dL_build_62 : decode cL_build 62 = .ok (.bipush 20, 2) := by decide +kernel
theorem dL_build_64 : decode cL_build 64 = .ok (.invokestatic 88, 3) := by decide +kernel
theorem dL_build_67 : decode cL_build 67 = .ok (.iadd, 1) := by decide +kernel
theorem dL_build_68 : decode cL_build 68 = .ok (.invokestatic 99, 3) := by decide +kernel
theorem dL_build_71 : decode cL_build 71 = .ok (.istore_n 2, 1) := by decide +kernel
theorem dL_build_72 : decode cL_build 72 = .ok (.iconst 0, 1) := by decide +kernel
theorem dL_build_73 : decode cL_build 73 = .ok (.istore_n 3, 1) := by decide +kernel
theorem dL_build_74 : decode cL_build 74 = .ok (.iload_n 3, 1) := by decide +kernel
theorem dL_build_75 : decode cL_build 75 = .ok (.iconst 3, 1) := by decide +kernel
theorem dL_build_76 : decode cL_build 76 = .ok (.if_icmp .ge 49, 3) := by decide +kernel
theorem dL_build_79 : decode cL_build 79 = .ok (.aload_n 0, 1) := by decide +kernel
theorem dL_build_80 : decode cL_build 80 = .ok (.aload_n 1, 1) := by decide +kernel
theorem dL_build_81 : decode cL_build 81 = .ok (.bipush 32, 2) := by decide +kernel
theorem dL_build_83 : decode cL_build 83 = .ok (.iload_n 3, 1) := by decide +kernel
theorem dL_build_84 : decode cL_build 84 = .ok (.iadd, 1) := by decide +kernel
theorem dL_build_85 : decode cL_build 85 = .ok (.bipush 24, 2) := by decide +kernel
theorem dL_build_87 : decode cL_build 87 = .ok (.invokestatic 88, 3) := by decide +kernel
theorem dL_build_90 : decode cL_build 90 = .ok (.iconst 1, 1) := by decide +kernel
theorem dL_build_91 : decode cL_build 91 = .ok (.aload_n 1, 1) := by decide +kernel
theorem dL_build_92 : decode cL_build 92 = .ok (.bipush 36, 2) := by decide +kernel
theorem dL_build_94 : decode cL_build 94 = .ok (.iload_n 3, 1) := by decide +kernel
theorem dL_build_95 : decode cL_build 95 = .ok (.iadd, 1) := by decide +kernel
theorem dL_build_96 : decode cL_build 96 = .ok (.bipush 50, 2) := by decide +kernel
theorem dL_build_98 : decode cL_build 98 = .ok (.invokestatic 88, 3) := by decide +kernel
theorem dL_build_101 : decode cL_build 101 = .ok (.iadd, 1) := by decide +kernel
theorem dL_build_102 : decode cL_build 102 = .ok (.iconst 1, 1) := by decide +kernel
theorem dL_build_103 : decode cL_build 103 = .ok (.aload_n 1, 1) := by decide +kernel
theorem dL_build_104 : decode cL_build 104 = .ok (.bipush 40, 2) := by decide +kernel
theorem dL_build_106 : decode cL_build 106 = .ok (.iload_n 3, 1) := by decide +kernel
theorem dL_build_107 : decode cL_build 107 = .ok (.iadd, 1) := by decide +kernel
theorem dL_build_108 : decode cL_build 108 = .ok (.sipush 500, 3) := by decide +kernel
theorem dL_build_111 : decode cL_build 111 = .ok (.invokestatic 88, 3) := by decide +kernel
theorem dL_build_114 : decode cL_build 114 = .ok (.iadd, 1) := by decide +kernel
theorem dL_build_115 : decode cL_build 115 = .ok (.invokestatic 102, 3) := by decide +kernel
theorem dL_build_118 : decode cL_build 118 = .ok (.istore_n 2, 1) := by decide +kernel
theorem dL_build_119 : decode cL_build 119 = .ok (.iinc 3 1, 3) := by decide +kernel
theorem dL_build_122 : decode cL_build 122 = .ok (.goto (-48), 3) := by decide +kernel
theorem dL_build_125 : decode cL_build 125 = .ok (.iconst 0, 1) := by decide +kernel
theorem dL_build_126 : decode cL_build 126 = .ok (.istore_n 3, 1) := by decide +kernel
theorem dL_build_127 : decode cL_build 127 = .ok (.iload_n 3, 1) := by decide +kernel
theorem dL_build_128 : decode cL_build 128 = .ok (.bipush 12, 2) := by decide +kernel
theorem dL_build_130 : decode cL_build 130 = .ok (.if_icmp .ge 20, 3) := by decide +kernel
theorem dL_build_133 : decode cL_build 133 = .ok (.aload_n 0, 1) := by decide +kernel
theorem dL_build_134 : decode cL_build 134 = .ok (.aload_n 1, 1) := by decide +kernel
theorem dL_build_135 : decode cL_build 135 = .ok (.bipush 44, 2) := by decide +kernel
theorem dL_build_137 : decode cL_build 137 = .ok (.iconst 4, 1) := by decide +kernel
theorem dL_build_138 : decode cL_build 138 = .ok (.iload_n 3, 1) := by decide +kernel
theorem dL_build_139 : decode cL_build 139 = .ok (.imul, 1) := by decide +kernel
theorem dL_build_140 : decode cL_build 140 = .ok (.iadd, 1) := by decide +kernel
theorem dL_build_141 : decode cL_build 141 = .ok (.invokestatic 104, 3) := by decide +kernel
theorem dL_build_144 : decode cL_build 144 = .ok (.iinc 3 1, 3) := by decide +kernel
theorem dL_build_147 : decode cL_build 147 = .ok (.goto (-20), 3) := by decide +kernel
theorem dL_build_150 : decode cL_build 150 = .ok (.return_, 1) := by decide +kernel
theorem dL_acts_0 : decode cL_acts 0 = .ok (.aload_n 1, 1) := by decide +kernel
theorem dL_acts_1 : decode cL_acts 1 = .ok (.iload_n 2, 1) := by decide +kernel
theorem dL_acts_2 : decode cL_acts 2 = .ok (.iconst 1, 1) := by decide +kernel
theorem dL_acts_3 : decode cL_acts 3 = .ok (.iadd, 1) := by decide +kernel
theorem dL_acts_4 : decode cL_acts 4 = .ok (.sipush 400, 3) := by decide +kernel
theorem dL_acts_7 : decode cL_acts 7 = .ok (.invokestatic 88, 3) := by decide +kernel
theorem dL_acts_10 : decode cL_acts 10 = .ok (.istore_n 3, 1) := by decide +kernel
theorem dL_acts_11 : decode cL_acts 11 = .ok (.aload_n 1, 1) := by decide +kernel
theorem dL_acts_12 : decode cL_acts 12 = .ok (.iload_n 2, 1) := by decide +kernel
theorem dL_acts_13 : decode cL_acts 13 = .ok (.iconst 2, 1) := by decide +kernel
theorem dL_acts_14 : decode cL_acts 14 = .ok (.iadd, 1) := by decide +kernel
theorem dL_acts_15 : decode cL_acts 15 = .ok (.aload_n 0, 1) := by decide +kernel
theorem dL_acts_16 : decode cL_acts 16 = .ok (.invokevirtual 108, 3) := by decide +kernel
theorem dL_acts_19 : decode cL_acts 19 = .ok (.invokestatic 88, 3) := by decide +kernel
theorem dL_acts_22 : decode cL_acts 22 = .ok (.istore 4, 2) := by decide +kernel
theorem dL_acts_24 : decode cL_acts 24 = .ok (.aload_n 1, 1) := by decide +kernel
theorem dL_acts_25 : decode cL_acts 25 = .ok (.iload_n 2, 1) := by decide +kernel
theorem dL_acts_26 : decode cL_acts 26 = .ok (.iconst 3, 1) := by decide +kernel
theorem dL_acts_27 : decode cL_acts 27 = .ok (.iadd, 1) := by decide +kernel
theorem dL_acts_28 : decode cL_acts 28 = .ok (.bipush 24, 2) := by decide +kernel
theorem dL_acts_30 : decode cL_acts 30 = .ok (.invokestatic 88, 3) := by decide +kernel
theorem dL_acts_33 : decode cL_acts 33 = .ok (.istore 5, 2) := by decide +kernel
theorem dL_acts_35 : decode cL_acts 35 = .ok (.aload_n 1, 1) := by decide +kernel
theorem dL_acts_36 : decode cL_acts 36 = .ok (.iload_n 2, 1) := by decide +kernel
theorem dL_acts_37 : decode cL_acts 37 = .ok (.bipush 16, 2) := by decide +kernel
theorem dL_acts_39 : decode cL_acts 39 = .ok (.invokestatic 88, 3) := by decide +kernel
theorem dL_acts_42 : decode cL_acts 42 = .ok (.tableswitch 252 0 13 #[70, 106, 106, 117, 117, 134, 145, 160, 171, 171, 189, 199, 208, 241], 70) := by decide +kernel
theorem dL_acts_112 : decode cL_acts 112 = .ok (.aload_n 0, 1) := by decide +kernel
theorem dL_acts_113 : decode cL_acts 113 = .ok (.invokevirtual 108, 3) := by decide +kernel
theorem dL_acts_116 : decode cL_acts 116 = .ok (.bipush 10, 2) := by decide +kernel
theorem dL_acts_118 : decode cL_acts 118 = .ok (.if_icmp .ge 24, 3) := by decide +kernel
theorem dL_acts_121 : decode cL_acts 121 = .ok (.aload_n 0, 1) := by decide +kernel
theorem dL_acts_122 : decode cL_acts 122 = .ok (.iload_n 3, 1) := by decide +kernel
theorem dL_acts_123 : decode cL_acts 123 = .ok (.iconst 5, 1) := by decide +kernel
theorem dL_acts_124 : decode cL_acts 124 = .ok (.irem, 1) := by decide +kernel
theorem dL_acts_125 : decode cL_acts 125 = .ok (.iload 5, 2) := by decide +kernel
theorem dL_acts_127 : decode cL_acts 127 = .ok (.bipush 6, 2) := by decide +kernel
theorem dL_acts_129 : decode cL_acts 129 = .ok (.irem, 1) := by decide +kernel
theorem dL_acts_130 : decode cL_acts 130 = .ok (.iconst 1, 1) := by decide +kernel
theorem dL_acts_131 : decode cL_acts 131 = .ok (.iload_n 3, 1) := by decide +kernel
theorem dL_acts_132 : decode cL_acts 132 = .ok (.bipush 9, 2) := by decide +kernel
theorem dL_acts_134 : decode cL_acts 134 = .ok (.irem, 1) := by decide +kernel
theorem dL_acts_135 : decode cL_acts 135 = .ok (.iadd, 1) := by decide +kernel
theorem dL_acts_136 : decode cL_acts 136 = .ok (.invokestatic 92, 3) := by decide +kernel
theorem dL_acts_139 : decode cL_acts 139 = .ok (.goto 4, 3) := by decide +kernel
theorem dL_acts_142 : decode cL_acts 142 = .ok (.iconst 0, 1) := by decide +kernel
theorem dL_acts_143 : decode cL_acts 143 = .ok (.istore 6, 2) := by decide +kernel
theorem dL_acts_145 : decode cL_acts 145 = .ok (.goto 161, 3) := by decide +kernel
theorem dL_acts_148 : decode cL_acts 148 = .ok (.aload_n 0, 1) := by decide +kernel
theorem dL_acts_149 : decode cL_acts 149 = .ok (.iload 4, 2) := by decide +kernel
theorem dL_acts_151 : decode cL_acts 151 = .ok (.invokestatic 111, 3) := by decide +kernel
theorem dL_acts_154 : decode cL_acts 154 = .ok (.istore 6, 2) := by decide +kernel
theorem dL_acts_156 : decode cL_acts 156 = .ok (.goto 150, 3) := by decide +kernel
theorem dL_acts_159 : decode cL_acts 159 = .ok (.aload_n 0, 1) := by decide +kernel
theorem dL_acts_160 : decode cL_acts 160 = .ok (.iload 4, 2) := by decide +kernel
theorem dL_acts_162 : decode cL_acts 162 = .ok (.iconst 1, 1) := by decide +kernel
theorem dL_acts_163 : decode cL_acts 163 = .ok (.iload_n 3, 1) := by decide +kernel
theorem dL_acts_164 : decode cL_acts 164 = .ok (.bipush 12, 2) := by decide +kernel
theorem dL_acts_166 : decode cL_acts 166 = .ok (.irem, 1) := by decide +kernel
theorem dL_acts_167 : decode cL_acts 167 = .ok (.iadd, 1) := by decide +kernel
theorem dL_acts_168 : decode cL_acts 168 = .ok (.invokestatic 114, 3) := by decide +kernel
theorem dL_acts_171 : decode cL_acts 171 = .ok (.istore 6, 2) := by decide +kernel
theorem dL_acts_173 : decode cL_acts 173 = .ok (.goto 133, 3) := by decide +kernel
theorem dL_acts_176 : decode cL_acts 176 = .ok (.aload_n 0, 1) := by decide +kernel
theorem dL_acts_177 : decode cL_acts 177 = .ok (.iload 4, 2) := by decide +kernel
theorem dL_acts_179 : decode cL_acts 179 = .ok (.invokestatic 117, 3) := by decide +kernel
theorem dL_acts_182 : decode cL_acts 182 = .ok (.istore 6, 2) := by decide +kernel
theorem dL_acts_184 : decode cL_acts 184 = .ok (.goto 122, 3) := by decide +kernel
theorem dL_acts_187 : decode cL_acts 187 = .ok (.aload_n 0, 1) := by decide +kernel
theorem dL_acts_188 : decode cL_acts 188 = .ok (.iload 4, 2) := by decide +kernel
theorem dL_acts_190 : decode cL_acts 190 = .ok (.iload_n 3, 1) := by decide +kernel
theorem dL_acts_191 : decode cL_acts 191 = .ok (.bipush 91, 2) := by decide +kernel
theorem dL_acts_193 : decode cL_acts 193 = .ok (.irem, 1) := by decide +kernel
theorem dL_acts_194 : decode cL_acts 194 = .ok (.invokestatic 119, 3) := by decide +kernel
theorem dL_acts_197 : decode cL_acts 197 = .ok (.istore 6, 2) := by decide +kernel
theorem dL_acts_199 : decode cL_acts 199 = .ok (.goto 107, 3) := by decide +kernel
theorem dL_acts_202 : decode cL_acts 202 = .ok (.aload_n 0, 1) := by decide +kernel
theorem dL_acts_203 : decode cL_acts 203 = .ok (.iload 4, 2) := by decide +kernel
theorem dL_acts_205 : decode cL_acts 205 = .ok (.invokestatic 121, 3) := by decide +kernel
theorem dL_acts_208 : decode cL_acts 208 = .ok (.istore 6, 2) := by decide +kernel
theorem dL_acts_210 : decode cL_acts 210 = .ok (.goto 96, 3) := by decide +kernel
theorem dL_acts_213 : decode cL_acts 213 = .ok (.aload_n 0, 1) := by decide +kernel
theorem dL_acts_214 : decode cL_acts 214 = .ok (.iload 5, 2) := by decide +kernel
theorem dL_acts_216 : decode cL_acts 216 = .ok (.invokestatic 95, 3) := by decide +kernel
theorem dL_acts_219 : decode cL_acts 219 = .ok (.iload_n 3, 1) := by decide +kernel
theorem dL_acts_220 : decode cL_acts 220 = .ok (.bipush 31, 2) := by decide +kernel
theorem dL_acts_222 : decode cL_acts 222 = .ok (.irem, 1) := by decide +kernel
theorem dL_acts_223 : decode cL_acts 223 = .ok (.invokestatic 99, 3) := by decide +kernel
theorem dL_acts_226 : decode cL_acts 226 = .ok (.istore 6, 2) := by decide +kernel
theorem dL_acts_228 : decode cL_acts 228 = .ok (.goto 78, 3) := by decide +kernel
theorem dL_acts_231 : decode cL_acts 231 = .ok (.aload_n 0, 1) := by decide +kernel
theorem dL_acts_232 : decode cL_acts 232 = .ok (.iload_n 3, 1) := by decide +kernel
theorem dL_acts_233 : decode cL_acts 233 = .ok (.invokestatic 123, 3) := by decide +kernel
theorem dL_acts_236 : decode cL_acts 236 = .ok (.istore 6, 2) := by decide +kernel
theorem dL_acts_238 : decode cL_acts 238 = .ok (.goto 68, 3) := by decide +kernel
theorem dL_acts_241 : decode cL_acts 241 = .ok (.aload_n 0, 1) := by decide +kernel
theorem dL_acts_242 : decode cL_acts 242 = .ok (.invokevirtual 125, 3) := by decide +kernel
theorem dL_acts_245 : decode cL_acts 245 = .ok (.istore 6, 2) := by decide +kernel
theorem dL_acts_247 : decode cL_acts 247 = .ok (.goto 59, 3) := by decide +kernel
theorem dL_acts_250 : decode cL_acts 250 = .ok (.iload_n 3, 1) := by decide +kernel
theorem dL_acts_251 : decode cL_acts 251 = .ok (.iconst 3, 1) := by decide +kernel
theorem dL_acts_252 : decode cL_acts 252 = .ok (.irem, 1) := by decide +kernel
theorem dL_acts_253 : decode cL_acts 253 = .ok (.ifCond .ne 10, 3) := by decide +kernel
theorem dL_acts_256 : decode cL_acts 256 = .ok (.aload_n 0, 1) := by decide +kernel
theorem dL_acts_257 : decode cL_acts 257 = .ok (.invokevirtual 128, 3) := by decide +kernel
theorem dL_acts_260 : decode cL_acts 260 = .ok (.goto 18, 3) := by decide +kernel
theorem dL_acts_263 : decode cL_acts 263 = .ok (.aload_n 0, 1) := by decide +kernel
theorem dL_acts_264 : decode cL_acts 264 = .ok (.iload 5, 2) := by decide +kernel
theorem dL_acts_266 : decode cL_acts 266 = .ok (.iconst 1, 1) := by decide +kernel
theorem dL_acts_267 : decode cL_acts 267 = .ok (.iload_n 3, 1) := by decide +kernel
theorem dL_acts_268 : decode cL_acts 268 = .ok (.bipush 50, 2) := by decide +kernel
theorem dL_acts_270 : decode cL_acts 270 = .ok (.irem, 1) := by decide +kernel
theorem dL_acts_271 : decode cL_acts 271 = .ok (.iadd, 1) := by decide +kernel
theorem dL_acts_272 : decode cL_acts 272 = .ok (.iconst 1, 1) := by decide +kernel
theorem dL_acts_273 : decode cL_acts 273 = .ok (.iload_n 3, 1) := by decide +kernel
theorem dL_acts_274 : decode cL_acts 274 = .ok (.iadd, 1) := by decide +kernel
theorem dL_acts_275 : decode cL_acts 275 = .ok (.invokestatic 102, 3) := by decide +kernel
theorem dL_acts_278 : decode cL_acts 278 = .ok (.istore 6, 2) := by decide +kernel
theorem dL_acts_280 : decode cL_acts 280 = .ok (.goto 26, 3) := by decide +kernel
theorem dL_acts_283 : decode cL_acts 283 = .ok (.aload_n 0, 1) := by decide +kernel
theorem dL_acts_284 : decode cL_acts 284 = .ok (.iload 5, 2) := by decide +kernel
theorem dL_acts_286 : decode cL_acts 286 = .ok (.invokestatic 131, 3) := by decide +kernel
theorem dL_acts_289 : decode cL_acts 289 = .ok (.istore 6, 2) := by decide +kernel
theorem dL_acts_291 : decode cL_acts 291 = .ok (.goto 15, 3) := by decide +kernel
theorem dL_acts_294 : decode cL_acts 294 = .ok (.aload_n 0, 1) := by decide +kernel
theorem dL_acts_295 : decode cL_acts 295 = .ok (.iconst 1, 1) := by decide +kernel
theorem dL_acts_296 : decode cL_acts 296 = .ok (.iload_n 3, 1) := by decide +kernel
theorem dL_acts_297 : decode cL_acts 297 = .ok (.bipush 9, 2) := by decide +kernel
theorem dL_acts_299 : decode cL_acts 299 = .ok (.irem, 1) := by decide +kernel
theorem dL_acts_300 : decode cL_acts 300 = .ok (.iadd, 1) := by decide +kernel
theorem dL_acts_301 : decode cL_acts 301 = .ok (.invokestatic 133, 3) := by decide +kernel
theorem dL_acts_304 : decode cL_acts 304 = .ok (.istore 6, 2) := by decide +kernel
theorem dL_acts_306 : decode cL_acts 306 = .ok (.return_, 1) := by decide +kernel
theorem dL_factor_0 : decode cL_factor 0 = .ok (.iload_n 0, 1) := by decide +kernel
theorem dL_factor_1 : decode cL_factor 1 = .ok (.iconst 3, 1) := by decide +kernel
theorem dL_factor_2 : decode cL_factor 2 = .ok (.if_icmp .lt 9, 3) := by decide +kernel
theorem dL_factor_5 : decode cL_factor 5 = .ok (.iload_n 0, 1) := by decide +kernel
theorem dL_factor_6 : decode cL_factor 6 = .ok (.bipush 22, 2) := by decide +kernel
theorem dL_factor_8 : decode cL_factor 8 = .ok (.if_icmp .le 7, 3) := by decide +kernel
theorem dL_factor_11 : decode cL_factor 11 = .ok (.iconst 0, 1) := by decide +kernel
theorem dL_factor_12 : decode cL_factor 12 = .ok (.goto 35, 3) := by decide +kernel
theorem dL_factor_15 : decode cL_factor 15 = .ok (.iload_n 0, 1) := by decide +kernel
theorem dL_factor_16 : decode cL_factor 16 = .ok (.iconst 5, 1) := by decide +kernel
theorem dL_factor_17 : decode cL_factor 17 = .ok (.if_icmp .ge 7, 3) := by decide +kernel
theorem dL_factor_20 : decode cL_factor 20 = .ok (.iconst 2, 1) := by decide +kernel
theorem dL_factor_21 : decode cL_factor 21 = .ok (.goto 26, 3) := by decide +kernel
theorem dL_factor_24 : decode cL_factor 24 = .ok (.iload_n 0, 1) := by decide +kernel
theorem dL_factor_25 : decode cL_factor 25 = .ok (.bipush 8, 2) := by decide +kernel
theorem dL_factor_27 : decode cL_factor 27 = .ok (.if_icmp .ge 7, 3) := by decide +kernel
theorem dL_factor_30 : decode cL_factor 30 = .ok (.iconst 5, 1) := by decide +kernel
theorem dL_factor_31 : decode cL_factor 31 = .ok (.goto 16, 3) := by decide +kernel
theorem dL_factor_34 : decode cL_factor 34 = .ok (.iload_n 0, 1) := by decide +kernel
theorem dL_factor_35 : decode cL_factor 35 = .ok (.bipush 12, 2) := by decide +kernel
theorem dL_factor_37 : decode cL_factor 37 = .ok (.if_icmp .ge 8, 3) := by decide +kernel
theorem dL_factor_40 : decode cL_factor 40 = .ok (.bipush 8, 2) := by decide +kernel
theorem dL_factor_42 : decode cL_factor 42 = .ok (.goto 5, 3) := by decide +kernel
theorem dL_factor_45 : decode cL_factor 45 = .ok (.bipush 10, 2) := by decide +kernel
theorem dL_factor_47 : decode cL_factor 47 = .ok (.ireturn, 1) := by decide +kernel
theorem dL_isUpwind_0 : decode cL_isUpwind 0 = .ok (.aload_n 0, 1) := by decide +kernel
theorem dL_isUpwind_1 : decode cL_isUpwind 1 = .ok (.iload_n 1, 1) := by decide +kernel
theorem dL_isUpwind_2 : decode cL_isUpwind 2 = .ok (.invokevirtual 135, 3) := by decide +kernel
theorem dL_isUpwind_5 : decode cL_isUpwind 5 = .ok (.iload_n 3, 1) := by decide +kernel
theorem dL_isUpwind_6 : decode cL_isUpwind 6 = .ok (.bipush 78, 2) := by decide +kernel
theorem dL_isUpwind_8 : decode cL_isUpwind 8 = .ok (.if_icmp .ne 8, 3) := by decide +kernel
theorem dL_isUpwind_11 : decode cL_isUpwind 11 = .ok (.iload_n 2, 1) := by decide +kernel
theorem dL_isUpwind_12 : decode cL_isUpwind 12 = .ok (.ineg, 1) := by decide +kernel
theorem dL_isUpwind_13 : decode cL_isUpwind 13 = .ok (.goto 14, 3) := by decide +kernel
theorem dL_isUpwind_16 : decode cL_isUpwind 16 = .ok (.iload_n 3, 1) := by decide +kernel
theorem dL_isUpwind_17 : decode cL_isUpwind 17 = .ok (.bipush 83, 2) := by decide +kernel
theorem dL_isUpwind_19 : decode cL_isUpwind 19 = .ok (.if_icmp .ne 7, 3) := by decide +kernel
theorem dL_isUpwind_22 : decode cL_isUpwind 22 = .ok (.iload_n 2, 1) := by decide +kernel
theorem dL_isUpwind_23 : decode cL_isUpwind 23 = .ok (.goto 4, 3) := by decide +kernel
theorem dL_isUpwind_26 : decode cL_isUpwind 26 = .ok (.iconst 0, 1) := by decide +kernel
theorem dL_isUpwind_27 : decode cL_isUpwind 27 = .ok (.iadd, 1) := by decide +kernel
theorem dL_isUpwind_28 : decode cL_isUpwind 28 = .ok (.istore 4, 2) := by decide +kernel
theorem dL_isUpwind_30 : decode cL_isUpwind 30 = .ok (.aload_n 0, 1) := by decide +kernel
theorem dL_isUpwind_31 : decode cL_isUpwind 31 = .ok (.iload_n 1, 1) := by decide +kernel
theorem dL_isUpwind_32 : decode cL_isUpwind 32 = .ok (.invokevirtual 138, 3) := by decide +kernel
theorem dL_isUpwind_35 : decode cL_isUpwind 35 = .ok (.iload_n 3, 1) := by decide +kernel
theorem dL_isUpwind_36 : decode cL_isUpwind 36 = .ok (.bipush 69, 2) := by decide +kernel
theorem dL_isUpwind_38 : decode cL_isUpwind 38 = .ok (.if_icmp .ne 7, 3) := by decide +kernel
theorem dL_isUpwind_41 : decode cL_isUpwind 41 = .ok (.iload_n 2, 1) := by decide +kernel
theorem dL_isUpwind_42 : decode cL_isUpwind 42 = .ok (.goto 15, 3) := by decide +kernel
theorem dL_isUpwind_45 : decode cL_isUpwind 45 = .ok (.iload_n 3, 1) := by decide +kernel
theorem dL_isUpwind_46 : decode cL_isUpwind 46 = .ok (.bipush 87, 2) := by decide +kernel
theorem dL_isUpwind_48 : decode cL_isUpwind 48 = .ok (.if_icmp .ne 8, 3) := by decide +kernel
theorem dL_isUpwind_51 : decode cL_isUpwind 51 = .ok (.iload_n 2, 1) := by decide +kernel
theorem dL_isUpwind_52 : decode cL_isUpwind 52 = .ok (.ineg, 1) := by decide +kernel
theorem dL_isUpwind_53 : decode cL_isUpwind 53 = .ok (.goto 4, 3) := by decide +kernel
theorem dL_isUpwind_56 : decode cL_isUpwind 56 = .ok (.iconst 0, 1) := by decide +kernel
theorem dL_isUpwind_57 : decode cL_isUpwind 57 = .ok (.iadd, 1) := by decide +kernel
theorem dL_isUpwind_58 : decode cL_isUpwind 58 = .ok (.istore 5, 2) := by decide +kernel
theorem dL_isUpwind_60 : decode cL_isUpwind 60 = .ok (.aload_n 0, 1) := by decide +kernel
theorem dL_isUpwind_61 : decode cL_isUpwind 61 = .ok (.iload 4, 2) := by decide +kernel
theorem dL_isUpwind_63 : decode cL_isUpwind 63 = .ok (.iload 5, 2) := by decide +kernel
theorem dL_isUpwind_65 : decode cL_isUpwind 65 = .ok (.invokestatic 141, 3) := by decide +kernel
theorem dL_isUpwind_68 : decode cL_isUpwind 68 = .ok (.istore 6, 2) := by decide +kernel
theorem dL_isUpwind_70 : decode cL_isUpwind 70 = .ok (.iload 6, 2) := by decide +kernel
theorem dL_isUpwind_72 : decode cL_isUpwind 72 = .ok (.ifCond .lt 16, 3) := by decide +kernel
theorem dL_isUpwind_75 : decode cL_isUpwind 75 = .ok (.aload_n 0, 1) := by decide +kernel
theorem dL_isUpwind_76 : decode cL_isUpwind 76 = .ok (.iload 6, 2) := by decide +kernel
theorem dL_isUpwind_78 : decode cL_isUpwind 78 = .ok (.invokevirtual 143, 3) := by decide +kernel
theorem dL_isUpwind_81 : decode cL_isUpwind 81 = .ok (.ifCond .eq 7, 3) := by decide +kernel
theorem dL_isUpwind_84 : decode cL_isUpwind 84 = .ok (.iconst 1, 1) := by decide +kernel
theorem dL_isUpwind_85 : decode cL_isUpwind 85 = .ok (.goto 4, 3) := by decide +kernel
theorem dL_isUpwind_88 : decode cL_isUpwind 88 = .ok (.iconst 0, 1) := by decide +kernel
theorem dL_isUpwind_89 : decode cL_isUpwind 89 = .ok (.ireturn, 1) := by decide +kernel
theorem dL_output_0 : decode cL_output 0 = .ok (.aload_n 0, 1) := by decide +kernel
theorem dL_output_1 : decode cL_output 1 = .ok (.iload_n 1, 1) := by decide +kernel
theorem dL_output_2 : decode cL_output 2 = .ok (.iconst 1, 1) := by decide +kernel
theorem dL_output_3 : decode cL_output 3 = .ok (.iload_n 2, 1) := by decide +kernel
theorem dL_output_4 : decode cL_output 4 = .ok (.invokestatic 147, 3) := by decide +kernel
theorem dL_output_7 : decode cL_output 7 = .ok (.ifCond .eq 7, 3) := by decide +kernel
theorem dL_output_10 : decode cL_output 10 = .ok (.iconst 3, 1) := by decide +kernel
theorem dL_output_11 : decode cL_output 11 = .ok (.goto 4, 3) := by decide +kernel
theorem dL_output_14 : decode cL_output 14 = .ok (.iconst 0, 1) := by decide +kernel
theorem dL_output_15 : decode cL_output 15 = .ok (.aload_n 0, 1) := by decide +kernel
theorem dL_output_16 : decode cL_output 16 = .ok (.iload_n 1, 1) := by decide +kernel
theorem dL_output_17 : decode cL_output 17 = .ok (.iconst 2, 1) := by decide +kernel
theorem dL_output_18 : decode cL_output 18 = .ok (.iload_n 2, 1) := by decide +kernel
theorem dL_output_19 : decode cL_output 19 = .ok (.invokestatic 147, 3) := by decide +kernel
theorem dL_output_22 : decode cL_output 22 = .ok (.ifCond .eq 7, 3) := by decide +kernel
theorem dL_output_25 : decode cL_output 25 = .ok (.iconst 1, 1) := by decide +kernel
theorem dL_output_26 : decode cL_output 26 = .ok (.goto 4, 3) := by decide +kernel
theorem dL_output_29 : decode cL_output 29 = .ok (.iconst 0, 1) := by decide +kernel
theorem dL_output_30 : decode cL_output 30 = .ok (.iadd, 1) := by decide +kernel
theorem dL_output_31 : decode cL_output 31 = .ok (.istore 4, 2) := by decide +kernel
theorem dL_output_33 : decode cL_output 33 = .ok (.aload_n 0, 1) := by decide +kernel
theorem dL_output_34 : decode cL_output 34 = .ok (.iload_n 1, 1) := by decide +kernel
theorem dL_output_35 : decode cL_output 35 = .ok (.invokestatic 151, 3) := by decide +kernel
theorem dL_output_38 : decode cL_output 38 = .ok (.istore 5, 2) := by decide +kernel
theorem dL_output_40 : decode cL_output 40 = .ok (.aload_n 0, 1) := by decide +kernel
theorem dL_output_41 : decode cL_output 41 = .ok (.iload_n 1, 1) := by decide +kernel
theorem dL_output_42 : decode cL_output 42 = .ok (.invokevirtual 143, 3) := by decide +kernel
theorem dL_output_45 : decode cL_output 45 = .ok (.ifCond .eq 23, 3) := by decide +kernel
theorem dL_output_48 : decode cL_output 48 = .ok (.aload_n 0, 1) := by decide +kernel
theorem dL_output_49 : decode cL_output 49 = .ok (.iload_n 1, 1) := by decide +kernel
theorem dL_output_50 : decode cL_output 50 = .ok (.invokevirtual 153, 3) := by decide +kernel
theorem dL_output_53 : decode cL_output 53 = .ok (.iconst 0, 1) := by decide +kernel
theorem dL_output_54 : decode cL_output 54 = .ok (.iload_n 3, 1) := by decide +kernel
theorem dL_output_55 : decode cL_output 55 = .ok (.invokestatic 156, 3) := by decide +kernel
theorem dL_output_58 : decode cL_output 58 = .ok (.iload 4, 2) := by decide +kernel
theorem dL_output_60 : decode cL_output 60 = .ok (.isub, 1) := by decide +kernel
theorem dL_output_61 : decode cL_output 61 = .ok (.invokestatic 159, 3) := by decide +kernel
theorem dL_output_64 : decode cL_output 64 = .ok (.imul, 1) := by decide +kernel
theorem dL_output_65 : decode cL_output 65 = .ok (.goto 4, 3) := by decide +kernel
theorem dL_output_68 : decode cL_output 68 = .ok (.iconst 0, 1) := by decide +kernel
theorem dL_output_69 : decode cL_output 69 = .ok (.istore 6, 2) := by decide +kernel
theorem dL_output_71 : decode cL_output 71 = .ok (.iload 5, 2) := by decide +kernel
theorem dL_output_73 : decode cL_output 73 = .ok (.sipush (-30000), 3) := by decide +kernel
theorem dL_output_76 : decode cL_output 76 = .ok (.if_icmp .ne 8, 3) := by decide +kernel
theorem dL_output_79 : decode cL_output 79 = .ok (.iload 6, 2) := by decide +kernel
theorem dL_output_81 : decode cL_output 81 = .ok (.goto 10, 3) := by decide +kernel
theorem dL_output_84 : decode cL_output 84 = .ok (.iload 5, 2) := by decide +kernel
theorem dL_output_86 : decode cL_output 86 = .ok (.iload 6, 2) := by decide +kernel
theorem dL_output_88 : decode cL_output 88 = .ok (.invokestatic 164, 3) := by decide +kernel
theorem dL_output_91 : decode cL_output 91 = .ok (.ireturn, 1) := by decide +kernel
theorem dL_isLine_0 : decode cL_isLine 0 = .ok (.iload_n 1, 1) := by decide +kernel
theorem dL_isLine_1 : decode cL_isLine 1 = .ok (.aload_n 2, 1) := by decide +kernel
theorem dL_isLine_2 : decode cL_isLine 2 = .ok (.invokevirtual 167, 3) := by decide +kernel
theorem dL_isLine_5 : decode cL_isLine 5 = .ok (.if_icmp .eq 5, 3) := by decide +kernel
theorem dL_isLine_8 : decode cL_isLine 8 = .ok (.iconst 0, 1) := by decide +kernel
theorem dL_isLine_9 : decode cL_isLine 9 = .ok (.ireturn, 1) := by decide +kernel
theorem dL_isLine_10 : decode cL_isLine 10 = .ok (.iconst 0, 1) := by decide +kernel
theorem dL_isLine_11 : decode cL_isLine 11 = .ok (.istore_n 3, 1) := by decide +kernel
theorem dL_isLine_12 : decode cL_isLine 12 = .ok (.iload_n 3, 1) := by decide +kernel
theorem dL_isLine_13 : decode cL_isLine 13 = .ok (.iload_n 1, 1) := by decide +kernel
theorem dL_isLine_14 : decode cL_isLine 14 = .ok (.if_icmp .ge 24, 3) := by decide +kernel
theorem dL_isLine_17 : decode cL_isLine 17 = .ok (.aload_n 0, 1) := by decide +kernel
theorem dL_isLine_18 : decode cL_isLine 18 = .ok (.iload_n 3, 1) := by decide +kernel
theorem dL_isLine_19 : decode cL_isLine 19 = .ok (.invokevirtual 172, 3) := by decide +kernel
theorem dL_isLine_22 : decode cL_isLine 22 = .ok (.aload_n 2, 1) := by decide +kernel
theorem dL_isLine_23 : decode cL_isLine 23 = .ok (.iload_n 3, 1) := by decide +kernel
theorem dL_isLine_24 : decode cL_isLine 24 = .ok (.invokevirtual 175, 3) := by decide +kernel
theorem dL_isLine_27 : decode cL_isLine 27 = .ok (.if_icmp .eq 5, 3) := by decide +kernel
theorem dL_isLine_30 : decode cL_isLine 30 = .ok (.iconst 0, 1) := by decide +kernel
theorem dL_isLine_31 : decode cL_isLine 31 = .ok (.ireturn, 1) := by decide +kernel
theorem dL_isLine_32 : decode cL_isLine 32 = .ok (.iinc 3 1, 3) := by decide +kernel
theorem dL_isLine_35 : decode cL_isLine 35 = .ok (.goto (-23), 3) := by decide +kernel
theorem dL_isLine_38 : decode cL_isLine 38 = .ok (.iconst 1, 1) := by decide +kernel
theorem dL_isLine_39 : decode cL_isLine 39 = .ok (.ireturn, 1) := by decide +kernel
