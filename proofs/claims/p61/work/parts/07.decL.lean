theorem dL_cell_0 : decode cL_cell 0 = .ok (.iload_n 1, 1) := by decide +kernel
theorem dL_cell_1 : decode cL_cell 1 = .ok (.aload_n 0, 1) := by decide +kernel
theorem dL_cell_2 : decode cL_cell 2 = .ok (.arraylength, 1) := by decide +kernel
theorem dL_cell_3 : decode cL_cell 3 = .ok (.if_icmp .ge 9, 3) := by decide +kernel
theorem dL_cell_6 : decode cL_cell 6 = .ok (.aload_n 0, 1) := by decide +kernel
theorem dL_cell_7 : decode cL_cell 7 = .ok (.iload_n 1, 1) := by decide +kernel
theorem dL_cell_8 : decode cL_cell 8 = .ok (.iaload, 1) := by decide +kernel
theorem dL_cell_9 : decode cL_cell 9 = .ok (.goto 7, 3) := by decide +kernel
theorem dL_cell_12 : decode cL_cell 12 = .ok (.ldc 7, 2) := by decide +kernel
theorem dL_cell_14 : decode cL_cell 14 = .ok (.iload_n 1, 1) := by decide +kernel
theorem dL_cell_15 : decode cL_cell 15 = .ok (.imul, 1) := by decide +kernel
theorem dL_cell_16 : decode cL_cell 16 = .ok (.ireturn, 1) := by decide +kernel
theorem dL_pick_0 : decode cL_pick 0 = .ok (.aload_n 0, 1) := by decide +kernel
theorem dL_pick_1 : decode cL_pick 1 = .ok (.iload_n 1, 1) := by decide +kernel
theorem dL_pick_2 : decode cL_pick 2 = .ok (.invokestatic 8, 3) := by decide +kernel
theorem dL_pick_5 : decode cL_pick 5 = .ok (.iconst 1, 1) := by decide +kernel
theorem dL_pick_6 : decode cL_pick 6 = .ok (.iushr, 1) := by decide +kernel
theorem dL_pick_7 : decode cL_pick 7 = .ok (.iload_n 2, 1) := by decide +kernel
theorem dL_pick_8 : decode cL_pick 8 = .ok (.irem, 1) := by decide +kernel
theorem dL_pick_9 : decode cL_pick 9 = .ok (.ireturn, 1) := by decide +kernel
theorem dL_addLot_0 : decode cL_addLot 0 = .ok (.aload_n 0, 1) := by decide +kernel
theorem dL_addLot_1 : decode cL_addLot 1 = .ok (.iload_n 1, 1) := by decide +kernel
theorem dL_addLot_2 : decode cL_addLot 2 = .ok (.iload_n 2, 1) := by decide +kernel
theorem dL_addLot_3 : decode cL_addLot 3 = .ok (.iload_n 3, 1) := by decide +kernel
theorem dL_addLot_4 : decode cL_addLot 4 = .ok (.iload 4, 2) := by decide +kernel
theorem dL_addLot_6 : decode cL_addLot 6 = .ok (.invokevirtual 14, 3) := by decide +kernel
theorem dL_addLot_9 : decode cL_addLot 9 = .ok (.ireturn, 1) := by decide +kernel
theorem dL_addLot_10 : decode cL_addLot 10 = .ok (.astore 5, 2) := by decide +kernel
theorem dL_addLot_12 : decode cL_addLot 12 = .ok (.bipush (-77), 2) := by decide +kernel
theorem dL_addLot_14 : decode cL_addLot 14 = .ok (.ireturn, 1) := by decide +kernel
theorem dL_addLot_15 : decode cL_addLot 15 = .ok (.astore 5, 2) := by decide +kernel
theorem dL_addLot_17 : decode cL_addLot 17 = .ok (.bipush (-78), 2) := by decide +kernel
theorem dL_addLot_19 : decode cL_addLot 19 = .ok (.ireturn, 1) := by decide +kernel
theorem dL_addLot_20 : decode cL_addLot 20 = .ok (.astore 5, 2) := by decide +kernel
theorem dL_addLot_22 : decode cL_addLot 22 = .ok (.bipush (-79), 2) := by decide +kernel
theorem dL_addLot_24 : decode cL_addLot 24 = .ok (.ireturn, 1) := by decide +kernel
theorem dL_addLot_25 : decode cL_addLot 25 = .ok (.astore 5, 2) := by decide +kernel
theorem dL_addLot_27 : decode cL_addLot 27 = .ok (.bipush (-76), 2) := by decide +kernel
theorem dL_addLot_29 : decode cL_addLot 29 = .ok (.ireturn, 1) := by decide +kernel
theorem dL_seal_0 : decode cL_seal 0 = .ok (.aload_n 0, 1) := by decide +kernel
theorem dL_seal_1 : decode cL_seal 1 = .ok (.iload_n 1, 1) := by decide +kernel
theorem dL_seal_2 : decode cL_seal 2 = .ok (.invokevirtual 28, 3) := by decide +kernel
theorem dL_seal_5 : decode cL_seal 5 = .ok (.ireturn, 1) := by decide +kernel
theorem dL_seal_6 : decode cL_seal 6 = .ok (.astore_n 2, 1) := by decide +kernel
theorem dL_seal_7 : decode cL_seal 7 = .ok (.bipush (-75), 2) := by decide +kernel
theorem dL_seal_9 : decode cL_seal 9 = .ok (.ireturn, 1) := by decide +kernel
theorem dL_seal_10 : decode cL_seal 10 = .ok (.astore_n 2, 1) := by decide +kernel
theorem dL_seal_11 : decode cL_seal 11 = .ok (.bipush (-79), 2) := by decide +kernel
theorem dL_seal_13 : decode cL_seal 13 = .ok (.ireturn, 1) := by decide +kernel
theorem dL_seal_14 : decode cL_seal 14 = .ok (.astore_n 2, 1) := by decide +kernel
theorem dL_seal_15 : decode cL_seal 15 = .ok (.bipush (-76), 2) := by decide +kernel
theorem dL_seal_17 : decode cL_seal 17 = .ok (.ireturn, 1) := by decide +kernel
theorem dL_open_0 : decode cL_open 0 = .ok (.aload_n 0, 1) := by decide +kernel
theorem dL_open_1 : decode cL_open 1 = .ok (.iload_n 1, 1) := by decide +kernel
theorem dL_open_2 : decode cL_open 2 = .ok (.invokevirtual 34, 3) := by decide +kernel
theorem dL_open_5 : decode cL_open 5 = .ok (.ireturn, 1) := by decide +kernel
theorem dL_open_6 : decode cL_open 6 = .ok (.astore_n 2, 1) := by decide +kernel
theorem dL_open_7 : decode cL_open 7 = .ok (.bipush (-75), 2) := by decide +kernel
theorem dL_open_9 : decode cL_open 9 = .ok (.ireturn, 1) := by decide +kernel
theorem dL_open_10 : decode cL_open 10 = .ok (.astore_n 2, 1) := by decide +kernel
theorem dL_open_11 : decode cL_open 11 = .ok (.bipush (-79), 2) := by decide +kernel
theorem dL_open_13 : decode cL_open 13 = .ok (.ireturn, 1) := by decide +kernel
theorem dL_wet_0 : decode cL_wet 0 = .ok (.aload_n 0, 1) := by decide +kernel
theorem dL_wet_1 : decode cL_wet 1 = .ok (.iload_n 1, 1) := by decide +kernel
theorem dL_wet_2 : decode cL_wet 2 = .ok (.invokevirtual 37, 3) := by decide +kernel
theorem dL_wet_5 : decode cL_wet 5 = .ok (.ireturn, 1) := by decide +kernel
theorem dL_wet_6 : decode cL_wet 6 = .ok (.astore_n 2, 1) := by decide +kernel
theorem dL_wet_7 : decode cL_wet 7 = .ok (.bipush (-75), 2) := by decide +kernel
theorem dL_wet_9 : decode cL_wet 9 = .ok (.ireturn, 1) := by decide +kernel
theorem dL_wet_10 : decode cL_wet 10 = .ok (.astore_n 2, 1) := by decide +kernel
theorem dL_wet_11 : decode cL_wet 11 = .ok (.bipush (-79), 2) := by decide +kernel
theorem dL_wet_13 : decode cL_wet 13 = .ok (.ireturn, 1) := by decide +kernel
theorem dL_move_0 : decode cL_move 0 = .ok (.aload_n 0, 1) := by decide +kernel
theorem dL_move_1 : decode cL_move 1 = .ok (.iload_n 1, 1) := by decide +kernel
theorem dL_move_2 : decode cL_move 2 = .ok (.iload_n 2, 1) := by decide +kernel
theorem dL_move_3 : decode cL_move 3 = .ok (.invokevirtual 40, 3) := by decide +kernel
theorem dL_move_6 : decode cL_move 6 = .ok (.ireturn, 1) := by decide +kernel
theorem dL_move_7 : decode cL_move 7 = .ok (.astore_n 3, 1) := by decide +kernel
theorem dL_move_8 : decode cL_move 8 = .ok (.bipush (-75), 2) := by decide +kernel
theorem dL_move_10 : decode cL_move 10 = .ok (.ireturn, 1) := by decide +kernel
theorem dL_move_11 : decode cL_move 11 = .ok (.astore_n 3, 1) := by decide +kernel
theorem dL_move_12 : decode cL_move 12 = .ok (.bipush (-77), 2) := by decide +kernel
theorem dL_move_14 : decode cL_move 14 = .ok (.ireturn, 1) := by decide +kernel
theorem dL_move_15 : decode cL_move 15 = .ok (.astore_n 3, 1) := by decide +kernel
theorem dL_move_16 : decode cL_move 16 = .ok (.bipush (-76), 2) := by decide +kernel
theorem dL_move_18 : decode cL_move 18 = .ok (.ireturn, 1) := by decide +kernel
theorem dL_lot_0 : decode cL_lot 0 = .ok (.aload_n 0, 1) := by decide +kernel
theorem dL_lot_1 : decode cL_lot 1 = .ok (.iload_n 1, 1) := by decide +kernel
theorem dL_lot_2 : decode cL_lot 2 = .ok (.invokevirtual 44, 3) := by decide +kernel
theorem dL_lot_5 : decode cL_lot 5 = .ok (.ireturn, 1) := by decide +kernel
theorem dL_lot_6 : decode cL_lot 6 = .ok (.astore_n 2, 1) := by decide +kernel
theorem dL_lot_7 : decode cL_lot 7 = .ok (.bipush (-77), 2) := by decide +kernel
theorem dL_lot_9 : decode cL_lot 9 = .ok (.ireturn, 1) := by decide +kernel
theorem dL_quantity_0 : decode cL_quantity 0 = .ok (.aload_n 0, 1) := by decide +kernel
theorem dL_quantity_1 : decode cL_quantity 1 = .ok (.iload_n 1, 1) := by decide +kernel
theorem dL_quantity_2 : decode cL_quantity 2 = .ok (.invokevirtual 51, 3) := by decide +kernel
theorem dL_quantity_5 : decode cL_quantity 5 = .ok (.ireturn, 1) := by decide +kernel
theorem dL_quantity_6 : decode cL_quantity 6 = .ok (.astore_n 2, 1) := by decide +kernel
theorem dL_quantity_7 : decode cL_quantity 7 = .ok (.bipush (-75), 2) := by decide +kernel
theorem dL_quantity_9 : decode cL_quantity 9 = .ok (.ireturn, 1) := by decide +kernel
theorem dL_price_0 : decode cL_price 0 = .ok (.aload_n 0, 1) := by decide +kernel
theorem dL_price_1 : decode cL_price 1 = .ok (.iload_n 1, 1) := by decide +kernel
theorem dL_price_2 : decode cL_price 2 = .ok (.invokevirtual 54, 3) := by decide +kernel
theorem dL_price_5 : decode cL_price 5 = .ok (.ireturn, 1) := by decide +kernel
theorem dL_price_6 : decode cL_price 6 = .ok (.astore_n 2, 1) := by decide +kernel
theorem dL_price_7 : decode cL_price 7 = .ok (.bipush (-75), 2) := by decide +kernel
theorem dL_price_9 : decode cL_price 9 = .ok (.ireturn, 1) := by decide +kernel
theorem dL_value_0 : decode cL_value 0 = .ok (.aload_n 0, 1) := by decide +kernel
theorem dL_value_1 : decode cL_value 1 = .ok (.iload_n 1, 1) := by decide +kernel
theorem dL_value_2 : decode cL_value 2 = .ok (.invokevirtual 57, 3) := by decide +kernel
theorem dL_value_5 : decode cL_value 5 = .ok (.ireturn, 1) := by decide +kernel
theorem dL_value_6 : decode cL_value 6 = .ok (.astore_n 2, 1) := by decide +kernel
theorem dL_value_7 : decode cL_value 7 = .ok (.bipush (-75), 2) := by decide +kernel
theorem dL_value_9 : decode cL_value 9 = .ok (.ireturn, 1) := by decide +kernel
theorem dL_bay_0 : decode cL_bay 0 = .ok (.aload_n 0, 1) := by decide +kernel
theorem dL_bay_1 : decode cL_bay 1 = .ok (.iload_n 1, 1) := by decide +kernel
theorem dL_bay_2 : decode cL_bay 2 = .ok (.invokevirtual 60, 3) := by decide +kernel
theorem dL_bay_5 : decode cL_bay 5 = .ok (.ireturn, 1) := by decide +kernel
theorem dL_bay_6 : decode cL_bay 6 = .ok (.astore_n 2, 1) := by decide +kernel
theorem dL_bay_7 : decode cL_bay 7 = .ok (.bipush (-75), 2) := by decide +kernel
theorem dL_bay_9 : decode cL_bay 9 = .ok (.ireturn, 1) := by decide +kernel
theorem dL_isSealed_0 : decode cL_isSealed 0 = .ok (.aload_n 0, 1) := by decide +kernel
theorem dL_isSealed_1 : decode cL_isSealed 1 = .ok (.iload_n 1, 1) := by decide +kernel
theorem dL_isSealed_2 : decode cL_isSealed 2 = .ok (.invokevirtual 63, 3) := by decide +kernel
theorem dL_isSealed_5 : decode cL_isSealed 5 = .ok (.ifCond .eq 7, 3) := by decide +kernel
theorem dL_isSealed_8 : decode cL_isSealed 8 = .ok (.iconst 1, 1) := by decide +kernel
theorem dL_isSealed_9 : decode cL_isSealed 9 = .ok (.goto 4, 3) := by decide +kernel
theorem dL_isSealed_12 : decode cL_isSealed 12 = .ok (.iconst 0, 1) := by decide +kernel
theorem dL_isSealed_13 : decode cL_isSealed 13 = .ok (.ireturn, 1) := by decide +kernel
theorem dL_isSealed_14 : decode cL_isSealed 14 = .ok (.astore_n 2, 1) := by decide +kernel
theorem dL_isSealed_15 : decode cL_isSealed 15 = .ok (.bipush (-75), 2) := by decide +kernel
theorem dL_isSealed_17 : decode cL_isSealed 17 = .ok (.ireturn, 1) := by decide +kernel
theorem dL_isDamp_0 : decode cL_isDamp 0 = .ok (.aload_n 0, 1) := by decide +kernel
theorem dL_isDamp_1 : decode cL_isDamp 1 = .ok (.iload_n 1, 1) := by decide +kernel
theorem dL_isDamp_2 : decode cL_isDamp 2 = .ok (.invokevirtual 67, 3) := by decide +kernel
theorem dL_isDamp_5 : decode cL_isDamp 5 = .ok (.ifCond .eq 7, 3) := by decide +kernel
theorem dL_isDamp_8 : decode cL_isDamp 8 = .ok (.iconst 1, 1) := by decide +kernel
theorem dL_isDamp_9 : decode cL_isDamp 9 = .ok (.goto 4, 3) := by decide +kernel
theorem dL_isDamp_12 : decode cL_isDamp 12 = .ok (.iconst 0, 1) := by decide +kernel
theorem dL_isDamp_13 : decode cL_isDamp 13 = .ok (.ireturn, 1) := by decide +kernel
theorem dL_isDamp_14 : decode cL_isDamp 14 = .ok (.astore_n 2, 1) := by decide +kernel
theorem dL_isDamp_15 : decode cL_isDamp 15 = .ok (.bipush (-75), 2) := by decide +kernel
theorem dL_isDamp_17 : decode cL_isDamp 17 = .ok (.ireturn, 1) := by decide +kernel
theorem dL_lotAt_0 : decode cL_lotAt 0 = .ok (.aload_n 0, 1) := by decide +kernel
theorem dL_lotAt_1 : decode cL_lotAt 1 = .ok (.iload_n 1, 1) := by decide +kernel
theorem dL_lotAt_2 : decode cL_lotAt 2 = .ok (.invokevirtual 70, 3) := by decide +kernel
theorem dL_lotAt_5 : decode cL_lotAt 5 = .ok (.ireturn, 1) := by decide +kernel
theorem dL_lotAt_6 : decode cL_lotAt 6 = .ok (.astore_n 2, 1) := by decide +kernel
theorem dL_lotAt_7 : decode cL_lotAt 7 = .ok (.bipush (-77), 2) := by decide +kernel
theorem dL_lotAt_9 : decode cL_lotAt 9 = .ok (.ireturn, 1) := by decide +kernel
theorem dL_lotAt_10 : decode cL_lotAt 10 = .ok (.astore_n 2, 1) := by decide +kernel
theorem dL_lotAt_11 : decode cL_lotAt 11 = .ok (.bipush (-75), 2) := by decide +kernel
theorem dL_lotAt_13 : decode cL_lotAt 13 = .ok (.ireturn, 1) := by decide +kernel
theorem dL_nextEmptyBay_0 : decode cL_nextEmptyBay 0 = .ok (.aload_n 0, 1) := by decide +kernel
theorem dL_nextEmptyBay_1 : decode cL_nextEmptyBay 1 = .ok (.iload_n 1, 1) := by decide +kernel
theorem dL_nextEmptyBay_2 : decode cL_nextEmptyBay 2 = .ok (.invokevirtual 73, 3) := by decide +kernel
theorem dL_nextEmptyBay_5 : decode cL_nextEmptyBay 5 = .ok (.ireturn, 1) := by decide +kernel
theorem dL_nextEmptyBay_6 : decode cL_nextEmptyBay 6 = .ok (.astore_n 2, 1) := by decide +kernel
theorem dL_nextEmptyBay_7 : decode cL_nextEmptyBay 7 = .ok (.bipush (-77), 2) := by decide +kernel
theorem dL_nextEmptyBay_9 : decode cL_nextEmptyBay 9 = .ok (.ireturn, 1) := by decide +kernel
theorem dL_nextEmptyBay_10 : decode cL_nextEmptyBay 10 = .ok (.astore_n 2, 1) := by decide +kernel
theorem dL_nextEmptyBay_11 : decode cL_nextEmptyBay 11 = .ok (.bipush (-75), 2) := by decide +kernel
theorem dL_nextEmptyBay_13 : decode cL_nextEmptyBay 13 = .ok (.ireturn, 1) := by decide +kernel
theorem dL_quantityOfKind_0 : decode cL_quantityOfKind 0 = .ok (.aload_n 0, 1) := by decide +kernel
theorem dL_quantityOfKind_1 : decode cL_quantityOfKind 1 = .ok (.iload_n 1, 1) := by decide +kernel
theorem dL_quantityOfKind_2 : decode cL_quantityOfKind 2 = .ok (.invokevirtual 76, 3) := by decide +kernel
theorem dL_quantityOfKind_5 : decode cL_quantityOfKind 5 = .ok (.ireturn, 1) := by decide +kernel
theorem dL_quantityOfKind_6 : decode cL_quantityOfKind 6 = .ok (.astore_n 2, 1) := by decide +kernel
theorem dL_quantityOfKind_7 : decode cL_quantityOfKind 7 = .ok (.bipush (-78), 2) := by decide +kernel
theorem dL_quantityOfKind_9 : decode cL_quantityOfKind 9 = .ok (.ireturn, 1) := by decide +kernel
theorem dL_lotByValue_0 : decode cL_lotByValue 0 = .ok (.aload_n 0, 1) := by decide +kernel
theorem dL_lotByValue_1 : decode cL_lotByValue 1 = .ok (.iload_n 1, 1) := by decide +kernel
theorem dL_lotByValue_2 : decode cL_lotByValue 2 = .ok (.invokevirtual 80, 3) := by decide +kernel
theorem dL_lotByValue_5 : decode cL_lotByValue 5 = .ok (.ireturn, 1) := by decide +kernel
theorem dL_lotByValue_6 : decode cL_lotByValue 6 = .ok (.astore_n 2, 1) := by decide +kernel
theorem dL_lotByValue_7 : decode cL_lotByValue 7 = .ok (.bipush (-77), 2) := by decide +kernel
theorem dL_lotByValue_9 : decode cL_lotByValue 9 = .ok (.ireturn, 1) := by decide +kernel
theorem dL_addStep_0 : decode cL_addStep 0 = .ok (.aload_n 0, 1) := by decide +kernel
theorem dL_addStep_1 : decode cL_addStep 1 = .ok (.iload_n 1, 1) := by decide +kernel
theorem dL_addStep_2 : decode cL_addStep 2 = .ok (.iload_n 2, 1) := by decide +kernel
theorem dL_addStep_3 : decode cL_addStep 3 = .ok (.invokevirtual 83, 3) := by decide +kernel
theorem dL_addStep_6 : decode cL_addStep 6 = .ok (.ireturn, 1) := by decide +kernel
theorem dL_addStep_7 : decode cL_addStep 7 = .ok (.astore_n 3, 1) := by decide +kernel
theorem dL_addStep_8 : decode cL_addStep 8 = .ok (.bipush (-78), 2) := by decide +kernel
theorem dL_addStep_10 : decode cL_addStep 10 = .ok (.ireturn, 1) := by decide +kernel
theorem dL_addStep_11 : decode cL_addStep 11 = .ok (.astore_n 3, 1) := by decide +kernel
theorem dL_addStep_12 : decode cL_addStep 12 = .ok (.bipush (-76), 2) := by decide +kernel
theorem dL_addStep_14 : decode cL_addStep 14 = .ok (.ireturn, 1) := by decide +kernel
theorem dL_addStep_15 : decode cL_addStep 15 = .ok (.astore_n 3, 1) := by decide +kernel
theorem dL_addStep_16 : decode cL_addStep 16 = .ok (.bipush (-79), 2) := by decide +kernel
theorem dL_addStep_18 : decode cL_addStep 18 = .ok (.ireturn, 1) := by decide +kernel
theorem dL_removeStep_0 : decode cL_removeStep 0 = .ok (.aload_n 0, 1) := by decide +kernel
theorem dL_removeStep_1 : decode cL_removeStep 1 = .ok (.iload_n 1, 1) := by decide +kernel
theorem dL_removeStep_2 : decode cL_removeStep 2 = .ok (.invokevirtual 86, 3) := by decide +kernel
theorem dL_removeStep_5 : decode cL_removeStep 5 = .ok (.ireturn, 1) := by decide +kernel
theorem dL_removeStep_6 : decode cL_removeStep 6 = .ok (.astore_n 2, 1) := by decide +kernel
theorem dL_removeStep_7 : decode cL_removeStep 7 = .ok (.bipush (-75), 2) := by decide +kernel
theorem dL_removeStep_9 : decode cL_removeStep 9 = .ok (.ireturn, 1) := by decide +kernel
theorem dL_threshold_0 : decode cL_threshold 0 = .ok (.aload_n 0, 1) := by decide +kernel
theorem dL_threshold_1 : decode cL_threshold 1 = .ok (.iload_n 1, 1) := by decide +kernel
theorem dL_threshold_2 : decode cL_threshold 2 = .ok (.invokevirtual 89, 3) := by decide +kernel
theorem dL_threshold_5 : decode cL_threshold 5 = .ok (.ireturn, 1) := by decide +kernel
theorem dL_threshold_6 : decode cL_threshold 6 = .ok (.astore_n 2, 1) := by decide +kernel
theorem dL_threshold_7 : decode cL_threshold 7 = .ok (.bipush (-77), 2) := by decide +kernel
theorem dL_threshold_9 : decode cL_threshold 9 = .ok (.ireturn, 1) := by decide +kernel
theorem dL_rate_0 : decode cL_rate 0 = .ok (.aload_n 0, 1) := by decide +kernel
theorem dL_rate_1 : decode cL_rate 1 = .ok (.iload_n 1, 1) := by decide +kernel
theorem dL_rate_2 : decode cL_rate 2 = .ok (.invokevirtual 92, 3) := by decide +kernel
theorem dL_rate_5 : decode cL_rate 5 = .ok (.ireturn, 1) := by decide +kernel
theorem dL_rate_6 : decode cL_rate 6 = .ok (.astore_n 2, 1) := by decide +kernel
theorem dL_rate_7 : decode cL_rate 7 = .ok (.bipush (-77), 2) := by decide +kernel
theorem dL_rate_9 : decode cL_rate 9 = .ok (.ireturn, 1) := by decide +kernel
theorem dL_dutyOn_0 : decode cL_dutyOn 0 = .ok (.aload_n 0, 1) := by decide +kernel
theorem dL_dutyOn_1 : decode cL_dutyOn 1 = .ok (.iload_n 1, 1) := by decide +kernel
theorem dL_dutyOn_2 : decode cL_dutyOn 2 = .ok (.invokevirtual 95, 3) := by decide +kernel
theorem dL_dutyOn_5 : decode cL_dutyOn 5 = .ok (.ireturn, 1) := by decide +kernel
theorem dL_dutyOn_6 : decode cL_dutyOn 6 = .ok (.astore_n 2, 1) := by decide +kernel
theorem dL_dutyOn_7 : decode cL_dutyOn 7 = .ok (.bipush (-78), 2) := by decide +kernel
theorem dL_dutyOn_9 : decode cL_dutyOn 9 = .ok (.ireturn, 1) := by decide +kernel
theorem dL_dutyOnByCoins_0 : decode cL_dutyOnByCoins 0 = .ok (.aload_n 0, 1) := by decide +kernel
theorem dL_dutyOnByCoins_1 : decode cL_dutyOnByCoins 1 = .ok (.iload_n 1, 1) := by decide +kernel
theorem dL_dutyOnByCoins_2 : decode cL_dutyOnByCoins 2 = .ok (.invokevirtual 98, 3) := by decide +kernel
theorem dL_dutyOnByCoins_5 : decode cL_dutyOnByCoins 5 = .ok (.ireturn, 1) := by decide +kernel
theorem dL_dutyOnByCoins_6 : decode cL_dutyOnByCoins 6 = .ok (.astore_n 2, 1) := by decide +kernel
theorem dL_dutyOnByCoins_7 : decode cL_dutyOnByCoins 7 = .ok (.bipush (-78), 2) := by decide +kernel
theorem dL_dutyOnByCoins_9 : decode cL_dutyOnByCoins 9 = .ok (.ireturn, 1) := by decide +kernel
theorem dL_duty_0 : decode cL_duty 0 = .ok (.aload_n 0, 1) := by decide +kernel
theorem dL_duty_1 : decode cL_duty 1 = .ok (.iload_n 1, 1) := by decide +kernel
theorem dL_duty_2 : decode cL_duty 2 = .ok (.invokevirtual 101, 3) := by decide +kernel
theorem dL_duty_5 : decode cL_duty 5 = .ok (.ireturn, 1) := by decide +kernel
theorem dL_duty_6 : decode cL_duty 6 = .ok (.astore_n 2, 1) := by decide +kernel
theorem dL_duty_7 : decode cL_duty 7 = .ok (.bipush (-75), 2) := by decide +kernel
theorem dL_duty_9 : decode cL_duty 9 = .ok (.ireturn, 1) := by decide +kernel
theorem dL_passDays_0 : decode cL_passDays 0 = .ok (.aload_n 0, 1) := by decide +kernel
theorem dL_passDays_1 : decode cL_passDays 1 = .ok (.iload_n 1, 1) := by decide +kernel
theorem dL_passDays_2 : decode cL_passDays 2 = .ok (.invokevirtual 104, 3) := by decide +kernel
theorem dL_passDays_5 : decode cL_passDays 5 = .ok (.ireturn, 1) := by decide +kernel
theorem dL_passDays_6 : decode cL_passDays 6 = .ok (.astore_n 2, 1) := by decide +kernel
theorem dL_passDays_7 : decode cL_passDays 7 = .ok (.bipush (-78), 2) := by decide +kernel
theorem dL_passDays_9 : decode cL_passDays 9 = .ok (.ireturn, 1) := by decide +kernel
theorem dL_dampAfter_0 : decode cL_dampAfter 0 = .ok (.aload_n 0, 1) := by decide +kernel
theorem dL_dampAfter_1 : decode cL_dampAfter 1 = .ok (.iload_n 1, 1) := by decide +kernel
theorem dL_dampAfter_2 : decode cL_dampAfter 2 = .ok (.invokevirtual 107, 3) := by decide +kernel
theorem dL_dampAfter_5 : decode cL_dampAfter 5 = .ok (.ireturn, 1) := by decide +kernel
theorem dL_dampAfter_6 : decode cL_dampAfter 6 = .ok (.astore_n 2, 1) := by decide +kernel
theorem dL_dampAfter_7 : decode cL_dampAfter 7 = .ok (.bipush (-78), 2) := by decide +kernel
theorem dL_dampAfter_9 : decode cL_dampAfter 9 = .ok (.ireturn, 1) := by decide +kernel
theorem dL_enqueue_0 : decode cL_enqueue 0 = .ok (.aload_n 0, 1) := by decide +kernel
theorem dL_enqueue_1 : decode cL_enqueue 1 = .ok (.iload_n 1, 1) := by decide +kernel
theorem dL_enqueue_2 : decode cL_enqueue 2 = .ok (.invokevirtual 110, 3) := by decide +kernel
theorem dL_enqueue_5 : decode cL_enqueue 5 = .ok (.ireturn, 1) := by decide +kernel
theorem dL_enqueue_6 : decode cL_enqueue 6 = .ok (.astore_n 2, 1) := by decide +kernel
theorem dL_enqueue_7 : decode cL_enqueue 7 = .ok (.bipush (-75), 2) := by decide +kernel
theorem dL_enqueue_9 : decode cL_enqueue 9 = .ok (.ireturn, 1) := by decide +kernel
theorem dL_enqueue_10 : decode cL_enqueue 10 = .ok (.astore_n 2, 1) := by decide +kernel
theorem dL_enqueue_11 : decode cL_enqueue 11 = .ok (.bipush (-79), 2) := by decide +kernel
theorem dL_enqueue_13 : decode cL_enqueue 13 = .ok (.ireturn, 1) := by decide +kernel
theorem dL_audit_0 : decode cL_audit 0 = .ok (.aload_n 0, 1) := by decide +kernel
theorem dL_audit_1 : decode cL_audit 1 = .ok (.invokevirtual 113, 3) := by decide +kernel
theorem dL_audit_4 : decode cL_audit 4 = .ok (.ireturn, 1) := by decide +kernel
theorem dL_audit_5 : decode cL_audit 5 = .ok (.astore_n 1, 1) := by decide +kernel
theorem dL_audit_6 : decode cL_audit 6 = .ok (.bipush (-75), 2) := by decide +kernel
theorem dL_audit_8 : decode cL_audit 8 = .ok (.ireturn, 1) := by decide +kernel
theorem dL_queued_0 : decode cL_queued 0 = .ok (.aload_n 0, 1) := by decide +kernel
theorem dL_queued_1 : decode cL_queued 1 = .ok (.iload_n 1, 1) := by decide +kernel
theorem dL_queued_2 : decode cL_queued 2 = .ok (.invokevirtual 117, 3) := by decide +kernel
theorem dL_queued_5 : decode cL_queued 5 = .ok (.ireturn, 1) := by decide +kernel
theorem dL_queued_6 : decode cL_queued 6 = .ok (.astore_n 2, 1) := by decide +kernel
theorem dL_queued_7 : decode cL_queued 7 = .ok (.bipush (-77), 2) := by decide +kernel
theorem dL_queued_9 : decode cL_queued 9 = .ok (.ireturn, 1) := by decide +kernel
theorem dL_deposit_0 : decode cL_deposit 0 = .ok (.aload_n 0, 1) := by decide +kernel
theorem dL_deposit_1 : decode cL_deposit 1 = .ok (.iload_n 1, 1) := by decide +kernel
theorem dL_deposit_2 : decode cL_deposit 2 = .ok (.invokevirtual 120, 3) := by decide +kernel
theorem dL_deposit_5 : decode cL_deposit 5 = .ok (.ireturn, 1) := by decide +kernel
theorem dL_deposit_6 : decode cL_deposit 6 = .ok (.astore_n 2, 1) := by decide +kernel
theorem dL_deposit_7 : decode cL_deposit 7 = .ok (.bipush (-78), 2) := by decide +kernel
theorem dL_deposit_9 : decode cL_deposit 9 = .ok (.ireturn, 1) := by decide +kernel
theorem dL_deposit_10 : decode cL_deposit 10 = .ok (.astore_n 2, 1) := by decide +kernel
theorem dL_deposit_11 : decode cL_deposit 11 = .ok (.bipush (-79), 2) := by decide +kernel
theorem dL_deposit_13 : decode cL_deposit 13 = .ok (.ireturn, 1) := by decide +kernel
theorem dL_release_0 : decode cL_release 0 = .ok (.aload_n 0, 1) := by decide +kernel
theorem dL_release_1 : decode cL_release 1 = .ok (.iload_n 1, 1) := by decide +kernel
theorem dL_release_2 : decode cL_release 2 = .ok (.invokevirtual 123, 3) := by decide +kernel
theorem dL_release_5 : decode cL_release 5 = .ok (.ireturn, 1) := by decide +kernel
theorem dL_release_6 : decode cL_release 6 = .ok (.astore_n 2, 1) := by decide +kernel
theorem dL_release_7 : decode cL_release 7 = .ok (.bipush (-75), 2) := by decide +kernel
theorem dL_release_9 : decode cL_release 9 = .ok (.ireturn, 1) := by decide +kernel
theorem dL_release_10 : decode cL_release 10 = .ok (.astore_n 2, 1) := by decide +kernel
theorem dL_release_11 : decode cL_release 11 = .ok (.bipush (-76), 2) := by decide +kernel
theorem dL_release_13 : decode cL_release 13 = .ok (.ireturn, 1) := by decide +kernel
theorem dL_meanValue_0 : decode cL_meanValue 0 = .ok (.aload_n 0, 1) := by decide +kernel
theorem dL_meanValue_1 : decode cL_meanValue 1 = .ok (.invokevirtual 126, 3) := by decide +kernel
theorem dL_meanValue_4 : decode cL_meanValue 4 = .ok (.dreturn, 1) := by decide +kernel
theorem dL_meanValue_5 : decode cL_meanValue 5 = .ok (.astore_n 1, 1) := by decide +kernel
theorem dL_meanValue_6 : decode cL_meanValue 6 = .ok (.ldc2_w 132, 3) := by decide +kernel
theorem dL_meanValue_9 : decode cL_meanValue 9 = .ok (.dreturn, 1) := by decide +kernel
theorem dL_sealedFraction_0 : decode cL_sealedFraction 0 = .ok (.aload_n 0, 1) := by decide +kernel
theorem dL_sealedFraction_1 : decode cL_sealedFraction 1 = .ok (.invokevirtual 134, 3) := by decide +kernel
theorem dL_sealedFraction_4 : decode cL_sealedFraction 4 = .ok (.freturn, 1) := by decide +kernel
theorem dL_sealedFraction_5 : decode cL_sealedFraction 5 = .ok (.astore_n 1, 1) := by decide +kernel
theorem dL_sealedFraction_6 : decode cL_sealedFraction 6 = .ok (.ldc 138, 2) := by decide +kernel
theorem dL_sealedFraction_8 : decode cL_sealedFraction 8 = .ok (.freturn, 1) := by decide +kernel
theorem dL_writeLot_0 : decode cL_writeLot 0 = .ok (.aload_n 0, 1) := by decide +kernel
theorem dL_writeLot_1 : decode cL_writeLot 1 = .ok (.iload_n 1, 1) := by decide +kernel
theorem dL_writeLot_2 : decode cL_writeLot 2 = .ok (.invokevirtual 139, 3) := by decide +kernel
theorem dL_writeLot_5 : decode cL_writeLot 5 = .ok (.ireturn, 1) := by decide +kernel
theorem dL_writeLot_6 : decode cL_writeLot 6 = .ok (.astore_n 2, 1) := by decide +kernel
theorem dL_writeLot_7 : decode cL_writeLot 7 = .ok (.bipush (-75), 2) := by decide +kernel
theorem dL_writeLot_9 : decode cL_writeLot 9 = .ok (.ireturn, 1) := by decide +kernel
theorem dL_outputCharacter_0 : decode cL_outputCharacter 0 = .ok (.aload_n 0, 1) := by decide +kernel
theorem dL_outputCharacter_1 : decode cL_outputCharacter 1 = .ok (.iload_n 1, 1) := by decide +kernel
theorem dL_outputCharacter_2 : decode cL_outputCharacter 2 = .ok (.invokevirtual 142, 3) := by decide +kernel
theorem dL_outputCharacter_5 : decode cL_outputCharacter 5 = .ok (.ireturn, 1) := by decide +kernel
theorem dL_outputCharacter_6 : decode cL_outputCharacter 6 = .ok (.astore_n 2, 1) := by decide +kernel
theorem dL_outputCharacter_7 : decode cL_outputCharacter 7 = .ok (.bipush (-77), 2) := by decide +kernel
theorem dL_outputCharacter_9 : decode cL_outputCharacter 9 = .ok (.ireturn, 1) := by decide +kernel
theorem dL_feed_0 : decode cL_feed 0 = .ok (.aload_n 0, 1) := by decide +kernel
theorem dL_feed_1 : decode cL_feed 1 = .ok (.iload_n 1, 1) := by decide +kernel
theorem dL_feed_2 : decode cL_feed 2 = .ok (.invokevirtual 145, 3) := by decide +kernel
theorem dL_feed_5 : decode cL_feed 5 = .ok (.ireturn, 1) := by decide +kernel
theorem dL_feed_6 : decode cL_feed 6 = .ok (.astore_n 2, 1) := by decide +kernel
theorem dL_feed_7 : decode cL_feed 7 = .ok (.bipush (-79), 2) := by decide +kernel
theorem dL_feed_9 : decode cL_feed 9 = .ok (.ireturn, 1) := by decide +kernel
theorem dL_execute_0 : decode cL_execute 0 = .ok (.aload_n 0, 1) := by decide +kernel
theorem dL_execute_1 : decode cL_execute 1 = .ok (.invokevirtual 148, 3) := by decide +kernel
theorem dL_execute_4 : decode cL_execute 4 = .ok (.ireturn, 1) := by decide +kernel
theorem dL_execute_5 : decode cL_execute 5 = .ok (.astore_n 1, 1) := by decide +kernel
theorem dL_execute_6 : decode cL_execute 6 = .ok (.bipush (-78), 2) := by decide +kernel
theorem dL_execute_8 : decode cL_execute 8 = .ok (.ireturn, 1) := by decide +kernel
theorem dL_execute_9 : decode cL_execute 9 = .ok (.astore_n 1, 1) := by decide +kernel
theorem dL_execute_10 : decode cL_execute 10 = .ok (.bipush (-76), 2) := by decide +kernel
theorem dL_execute_12 : decode cL_execute 12 = .ok (.ireturn, 1) := by decide +kernel
theorem dL_undo_0 : decode cL_undo 0 = .ok (.aload_n 0, 1) := by decide +kernel
theorem dL_undo_1 : decode cL_undo 1 = .ok (.invokevirtual 157, 3) := by decide +kernel
theorem dL_undo_4 : decode cL_undo 4 = .ok (.ireturn, 1) := by decide +kernel
theorem dL_undo_5 : decode cL_undo 5 = .ok (.astore_n 1, 1) := by decide +kernel
theorem dL_undo_6 : decode cL_undo 6 = .ok (.bipush (-79), 2) := by decide +kernel
theorem dL_undo_8 : decode cL_undo 8 = .ok (.ireturn, 1) := by decide +kernel
theorem dL_restore_0 : decode cL_restore 0 = .ok (.aload_n 0, 1) := by decide +kernel
theorem dL_restore_1 : decode cL_restore 1 = .ok (.invokevirtual 160, 3) := by decide +kernel
theorem dL_restore_4 : decode cL_restore 4 = .ok (.ireturn, 1) := by decide +kernel
theorem dL_restore_5 : decode cL_restore 5 = .ok (.astore_n 1, 1) := by decide +kernel
theorem dL_restore_6 : decode cL_restore 6 = .ok (.bipush (-79), 2) := by decide +kernel
theorem dL_restore_8 : decode cL_restore 8 = .ok (.ireturn, 1) := by decide +kernel
theorem dL_runs_0 : decode cL_runs 0 = .ok (.iconst 0, 1) := by decide +kernel
theorem dL_runs_1 : decode cL_runs 1 = .ok (.istore_n 2, 1) := by decide +kernel
theorem dL_runs_2 : decode cL_runs 2 = .ok (.iload_n 2, 1) := by decide +kernel
theorem dL_runs_3 : decode cL_runs 3 = .ok (.aload_n 1, 1) := by decide +kernel
theorem dL_runs_4 : decode cL_runs 4 = .ok (.invokevirtual 163, 3) := by decide +kernel
theorem dL_runs_7 : decode cL_runs 7 = .ok (.if_icmp .ge 19, 3) := by decide +kernel
theorem dL_runs_10 : decode cL_runs 10 = .ok (.aload_n 0, 1) := by decide +kernel
theorem dL_runs_11 : decode cL_runs 11 = .ok (.aload_n 1, 1) := by decide +kernel
theorem dL_runs_12 : decode cL_runs 12 = .ok (.iload_n 2, 1) := by decide +kernel
theorem dL_runs_13 : decode cL_runs 13 = .ok (.invokevirtual 168, 3) := by decide +kernel
theorem dL_runs_16 : decode cL_runs 16 = .ok (.invokestatic 171, 3) := by decide +kernel
theorem dL_runs_19 : decode cL_runs 19 = .ok (.istore_n 3, 1) := by decide +kernel
theorem dL_runs_20 : decode cL_runs 20 = .ok (.iinc 2 1, 3) := by decide +kernel
theorem dL_runs_23 : decode cL_runs 23 = .ok (.goto (-21), 3) := by decide +kernel
theorem dL_runs_26 : decode cL_runs 26 = .ok (.aload_n 0, 1) := by decide +kernel
theorem dL_runs_27 : decode cL_runs 27 = .ok (.invokestatic 174, 3) := by decide +kernel
theorem dL_runs_30 : decode cL_runs 30 = .ok (.ireturn, 1) := by decide +kernel
theorem dL_does_0 : decode cL_does 0 = .ok (.aload_n 0, 1) := by decide +kernel
theorem dL_does_1 : decode cL_does 1 = .ok (.iload_n 1, 1) := by decide +kernel
theorem dL_does_2 : decode cL_does 2 = .ok (.iconst 3, 1) := by decide +kernel
theorem dL_does_3 : decode cL_does 3 = .ok (.iadd, 1) := by decide +kernel
theorem dL_does_4 : decode cL_does 4 = .ok (.sipush 1000, 3) := by decide +kernel
theorem dL_does_7 : decode cL_does 7 = .ok (.invokestatic 188, 3) := by decide +kernel
theorem dL_does_10 : decode cL_does 10 = .ok (.istore 6, 2) := by decide +kernel
theorem dL_does_12 : decode cL_does 12 = .ok (.aload_n 0, 1) := by decide +kernel
theorem dL_does_13 : decode cL_does 13 = .ok (.iload_n 1, 1) := by decide +kernel
theorem dL_does_14 : decode cL_does 14 = .ok (.iconst 4, 1) := by decide +kernel
theorem dL_does_15 : decode cL_does 15 = .ok (.iadd, 1) := by decide +kernel
theorem dL_does_16 : decode cL_does 16 = .ok (.sipush 10000, 3) := by decide +kernel
theorem dL_does_19 : decode cL_does 19 = .ok (.invokestatic 188, 3) := by decide +kernel
theorem dL_does_22 : decode cL_does 22 = .ok (.istore 7, 2) := by decide +kernel
theorem dL_does_24 : decode cL_does 24 = .ok (.iload 6, 2) := by decide +kernel
theorem dL_does_26 : decode cL_does 26 = .ok (.iconst 2, 1) := by decide +kernel
theorem dL_does_27 : decode cL_does 27 = .ok (.irem, 1) := by decide +kernel
theorem dL_does_28 : decode cL_does 28 = .ok (.ifCond .ne 11, 3) := by decide +kernel
theorem dL_does_31 : decode cL_does 31 = .ok (.iload 7, 2) := by decide +kernel
theorem dL_does_33 : decode cL_does 33 = .ok (.bipush 25, 2) := by decide +kernel
theorem dL_does_35 : decode cL_does 35 = .ok (.irem, 1) := by decide +kernel
theorem dL_does_36 : decode cL_does 36 = .ok (.goto 8, 3) := by decide +kernel
theorem dL_does_39 : decode cL_does 39 = .ok (.iload 7, 2) := by decide +kernel
theorem dL_does_41 : decode cL_does 41 = .ok (.bipush 9, 2) := by decide +kernel
theorem dL_does_43 : decode cL_does 43 = .ok (.irem, 1) := by decide +kernel
theorem dL_does_44 : decode cL_does 44 = .ok (.istore 8, 2) := by decide +kernel
theorem dL_does_46 : decode cL_does 46 = .ok (.iload_n 2, 1) := by decide +kernel
theorem dL_does_47 : decode cL_does 47 = .ok (.tableswitch 450 0 43 #[189, 189, 189, 189, 189, 189, 189, 189, 250, 255, 255, 250, 266, 273, 273, 273, 280, 280, 280, 311, 325, 325, 325, 325, 325, 325, 266, 332, 332, 332, 332, 332, 339, 339, 339, 339, 339, 348, 443, 443, 443, 443, 443, 443], 189) := by decide +kernel
theorem dL_does_236 : decode cL_does 236 = .ok (.aload_n 3, 1) := by decide +kernel
theorem dL_does_237 : decode cL_does 237 = .ok (.bipush 97, 2) := by decide +kernel
theorem dL_does_239 : decode cL_does 239 = .ok (.iload 6, 2) := by decide +kernel
theorem dL_does_241 : decode cL_does 241 = .ok (.bipush 6, 2) := by decide +kernel
theorem dL_does_243 : decode cL_does 243 = .ok (.irem, 1) := by decide +kernel
theorem dL_does_244 : decode cL_does 244 = .ok (.iload 6, 2) := by decide +kernel
theorem dL_does_246 : decode cL_does 246 = .ok (.bipush 29, 2) := by decide +kernel
theorem dL_does_248 : decode cL_does 248 = .ok (.irem, 1) := by decide +kernel
theorem dL_does_249 : decode cL_does 249 = .ok (.ifCond .ne 8, 3) := by decide +kernel
theorem dL_does_252 : decode cL_does 252 = .ok (.bipush 6, 2) := by decide +kernel
theorem dL_does_254 : decode cL_does 254 = .ok (.goto 4, 3) := by decide +kernel
theorem dL_does_257 : decode cL_does 257 = .ok (.iconst 5, 1) := by decide +kernel
theorem dL_does_258 : decode cL_does 258 = .ok (.irem, 1) := by decide +kernel
theorem dL_does_259 : decode cL_does 259 = .ok (.iadd, 1) := by decide +kernel
theorem dL_does_260 : decode cL_does 260 = .ok (.i2c, 1) := by decide +kernel
theorem dL_does_261 : decode cL_does 261 = .ok (.iload 7, 2) := by decide +kernel
theorem dL_does_263 : decode cL_does 263 = .ok (.bipush 7, 2) := by decide +kernel
theorem dL_does_265 : decode cL_does 265 = .ok (.idiv, 1) := by decide +kernel
theorem dL_does_266 : decode cL_does 266 = .ok (.iload 6, 2) := by decide +kernel
theorem dL_does_268 : decode cL_does 268 = .ok (.iconst 3, 1) := by decide +kernel
theorem dL_does_269 : decode cL_does 269 = .ok (.irem, 1) := by decide +kernel
theorem dL_does_270 : decode cL_does 270 = .ok (.ifCond .ne 8, 3) := by decide +kernel
theorem dL_does_273 : decode cL_does 273 = .ok (.bipush 101, 2) := by decide +kernel
theorem dL_does_275 : decode cL_does 275 = .ok (.goto 5, 3) := by decide +kernel
theorem dL_does_278 : decode cL_does 278 = .ok (.bipush 6, 2) := by decide +kernel
theorem dL_does_280 : decode cL_does 280 = .ok (.irem, 1) := by decide +kernel
theorem dL_does_281 : decode cL_does 281 = .ok (.iconst 1, 1) := by decide +kernel
theorem dL_does_282 : decode cL_does 282 = .ok (.iload 7, 2) := by decide +kernel
theorem dL_does_284 : decode cL_does 284 = .ok (.bipush 11, 2) := by decide +kernel
theorem dL_does_286 : decode cL_does 286 = .ok (.idiv, 1) := by decide +kernel
theorem dL_does_287 : decode cL_does 287 = .ok (.bipush 99, 2) := by decide +kernel
theorem dL_does_289 : decode cL_does 289 = .ok (.irem, 1) := by decide +kernel
theorem dL_does_290 : decode cL_does 290 = .ok (.iadd, 1) := by decide +kernel
theorem dL_does_291 : decode cL_does 291 = .ok (.iload 8, 2) := by decide +kernel
theorem dL_does_293 : decode cL_does 293 = .ok (.invokestatic 237, 3) := by decide +kernel
theorem dL_does_296 : decode cL_does 296 = .ok (.ireturn, 1) := by decide +kernel
theorem dL_does_297 : decode cL_does 297 = .ok (.aload_n 3, 1) := by decide +kernel
theorem dL_does_298 : decode cL_does 298 = .ok (.invokestatic 240, 3) := by decide +kernel
theorem dL_does_301 : decode cL_does 301 = .ok (.ireturn, 1) := by decide +kernel
theorem dL_does_302 : decode cL_does 302 = .ok (.aload_n 3, 1) := by decide +kernel
theorem dL_does_303 : decode cL_does 303 = .ok (.iload 7, 2) := by decide +kernel
theorem dL_does_305 : decode cL_does 305 = .ok (.sipush 1001, 3) := by decide +kernel
theorem dL_does_308 : decode cL_does 308 = .ok (.irem, 1) := by decide +kernel
theorem dL_does_309 : decode cL_does 309 = .ok (.invokestatic 242, 3) := by decide +kernel
theorem dL_does_312 : decode cL_does 312 = .ok (.ireturn, 1) := by decide +kernel
theorem dL_does_313 : decode cL_does 313 = .ok (.aload_n 3, 1) := by decide +kernel
theorem dL_does_314 : decode cL_does 314 = .ok (.iload 4, 2) := by decide +kernel
theorem dL_does_316 : decode cL_does 316 = .ok (.invokestatic 244, 3) := by decide +kernel
theorem dL_does_319 : decode cL_does 319 = .ok (.ireturn, 1) := by decide +kernel
theorem dL_does_320 : decode cL_does 320 = .ok (.aload_n 3, 1) := by decide +kernel
theorem dL_does_321 : decode cL_does 321 = .ok (.iload 5, 2) := by decide +kernel
theorem dL_does_323 : decode cL_does 323 = .ok (.invokestatic 246, 3) := by decide +kernel
theorem dL_does_326 : decode cL_does 326 = .ok (.ireturn, 1) := by decide +kernel
theorem dL_does_327 : decode cL_does 327 = .ok (.aload_n 3, 1) := by decide +kernel
theorem dL_does_328 : decode cL_does 328 = .ok (.iload 6, 2) := by decide +kernel
theorem dL_does_330 : decode cL_does 330 = .ok (.iconst 3, 1) := by decide +kernel
theorem dL_does_331 : decode cL_does 331 = .ok (.irem, 1) := by decide +kernel
theorem dL_does_332 : decode cL_does 332 = .ok (.ifCond .ne 8, 3) := by decide +kernel
theorem dL_does_335 : decode cL_does 335 = .ok (.iload 7, 2) := by decide +kernel
theorem dL_does_337 : decode cL_does 337 = .ok (.goto 12, 3) := by decide +kernel
theorem dL_does_340 : decode cL_does 340 = .ok (.iload 7, 2) := by decide +kernel
theorem dL_does_342 : decode cL_does 342 = .ok (.bipush 9, 2) := by decide +kernel
theorem dL_does_344 : decode cL_does 344 = .ok (.irem, 1) := by decide +kernel
theorem dL_does_345 : decode cL_does 345 = .ok (.sipush 200, 3) := by decide +kernel
theorem dL_does_348 : decode cL_does 348 = .ok (.imul, 1) := by decide +kernel
theorem dL_does_349 : decode cL_does 349 = .ok (.iload 6, 2) := by decide +kernel
theorem dL_does_351 : decode cL_does 351 = .ok (.bipush 70, 2) := by decide +kernel
theorem dL_does_353 : decode cL_does 353 = .ok (.irem, 1) := by decide +kernel
theorem dL_does_354 : decode cL_does 354 = .ok (.invokestatic 248, 3) := by decide +kernel
theorem dL_does_357 : decode cL_does 357 = .ok (.ireturn, 1) := by decide +kernel
theorem dL_does_358 : decode cL_does 358 = .ok (.aload_n 3, 1) := by decide +kernel
theorem dL_does_359 : decode cL_does 359 = .ok (.iload 7, 2) := by decide +kernel
theorem dL_does_361 : decode cL_does 361 = .ok (.bipush 9, 2) := by decide +kernel
theorem dL_does_363 : decode cL_does 363 = .ok (.irem, 1) := by decide +kernel
theorem dL_does_364 : decode cL_does 364 = .ok (.sipush 200, 3) := by decide +kernel
theorem dL_does_367 : decode cL_does 367 = .ok (.imul, 1) := by decide +kernel
theorem dL_does_368 : decode cL_does 368 = .ok (.invokestatic 251, 3) := by decide +kernel
theorem dL_does_371 : decode cL_does 371 = .ok (.ireturn, 1) := by decide +kernel
theorem dL_does_372 : decode cL_does 372 = .ok (.aload_n 3, 1) := by decide +kernel
theorem dL_does_373 : decode cL_does 373 = .ok (.iload 4, 2) := by decide +kernel
theorem dL_does_375 : decode cL_does 375 = .ok (.invokestatic 253, 3) := by decide +kernel
theorem dL_does_378 : decode cL_does 378 = .ok (.ireturn, 1) := by decide +kernel
theorem dL_does_379 : decode cL_does 379 = .ok (.aload_n 3, 1) := by decide +kernel
theorem dL_does_380 : decode cL_does 380 = .ok (.iload 4, 2) := by decide +kernel
theorem dL_does_382 : decode cL_does 382 = .ok (.invokestatic 255, 3) := by decide +kernel
theorem dL_does_385 : decode cL_does 385 = .ok (.ireturn, 1) := by decide +kernel
theorem dL_does_386 : decode cL_does 386 = .ok (.aload_n 3, 1) := by decide +kernel
theorem dL_does_387 : decode cL_does 387 = .ok (.iload 4, 2) := by decide +kernel
theorem dL_does_389 : decode cL_does 389 = .ok (.iload 8, 2) := by decide +kernel
theorem dL_does_391 : decode cL_does 391 = .ok (.invokestatic 257, 3) := by decide +kernel
theorem dL_does_394 : decode cL_does 394 = .ok (.ireturn, 1) := by decide +kernel
theorem dL_does_395 : decode cL_does 395 = .ok (.aload_n 3, 1) := by decide +kernel
theorem dL_does_396 : decode cL_does 396 = .ok (.new 259, 3) := by decide +kernel
theorem dL_does_399 : decode cL_does 399 = .ok (.dup, 1) := by decide +kernel
theorem dL_does_400 : decode cL_does 400 = .ok (.invokespecial 261, 3) := by decide +kernel
theorem dL_does_403 : decode cL_does 403 = .ok (.ldc_w 262, 3) := by decide +kernel
theorem dL_does_406 : decode cL_does 406 = .ok (.invokevirtual 264, 3) := by decide +kernel
theorem dL_does_409 : decode cL_does 409 = .ok (.iload 4, 2) := by decide +kernel
theorem dL_does_411 : decode cL_does 411 = .ok (.invokevirtual 268, 3) := by decide +kernel
theorem dL_does_414 : decode cL_does 414 = .ok (.iload 6, 2) := by decide +kernel
theorem dL_does_416 : decode cL_does 416 = .ok (.iconst 3, 1) := by decide +kernel
theorem dL_does_417 : decode cL_does 417 = .ok (.irem, 1) := by decide +kernel
theorem dL_does_418 : decode cL_does 418 = .ok (.ifCond .ne 27, 3) := by decide +kernel
theorem dL_does_421 : decode cL_does 421 = .ok (.new 259, 3) := by decide +kernel
theorem dL_does_424 : decode cL_does 424 = .ok (.dup, 1) := by decide +kernel
theorem dL_does_425 : decode cL_does 425 = .ok (.invokespecial 261, 3) := by decide +kernel
theorem dL_does_428 : decode cL_does 428 = .ok (.ldc_w 271, 3) := by decide +kernel
theorem dL_does_431 : decode cL_does 431 = .ok (.invokevirtual 264, 3) := by decide +kernel
theorem dL_does_434 : decode cL_does 434 = .ok (.iload 4, 2) := by decide +kernel
theorem dL_does_436 : decode cL_does 436 = .ok (.invokevirtual 268, 3) := by decide +kernel
theorem dL_does_439 : decode cL_does 439 = .ok (.invokevirtual 273, 3) := by decide +kernel
theorem dL_does_442 : decode cL_does 442 = .ok (.goto 38, 3) := by decide +kernel
theorem dL_does_445 : decode cL_does 445 = .ok (.iload 6, 2) := by decide +kernel
theorem dL_does_447 : decode cL_does 447 = .ok (.iconst 3, 1) := by decide +kernel
theorem dL_does_448 : decode cL_does 448 = .ok (.irem, 1) := by decide +kernel
theorem dL_does_449 : decode cL_does 449 = .ok (.iconst 1, 1) := by decide +kernel
theorem dL_does_450 : decode cL_does 450 = .ok (.if_icmp .ne 27, 3) := by decide +kernel
theorem dL_does_453 : decode cL_does 453 = .ok (.new 259, 3) := by decide +kernel
theorem dL_does_456 : decode cL_does 456 = .ok (.dup, 1) := by decide +kernel
theorem dL_does_457 : decode cL_does 457 = .ok (.invokespecial 261, 3) := by decide +kernel
theorem dL_does_460 : decode cL_does 460 = .ok (.ldc_w 277, 3) := by decide +kernel
theorem dL_does_463 : decode cL_does 463 = .ok (.invokevirtual 264, 3) := by decide +kernel
theorem dL_does_466 : decode cL_does 466 = .ok (.iload 4, 2) := by decide +kernel
theorem dL_does_468 : decode cL_does 468 = .ok (.invokevirtual 268, 3) := by decide +kernel
theorem dL_does_471 : decode cL_does 471 = .ok (.invokevirtual 273, 3) := by decide +kernel
theorem dL_does_474 : decode cL_does 474 = .ok (.goto 6, 3) := by decide +kernel
theorem dL_does_477 : decode cL_does 477 = .ok (.ldc_w 279, 3) := by decide +kernel
theorem dL_does_480 : decode cL_does 480 = .ok (.invokevirtual 264, 3) := by decide +kernel
theorem dL_does_483 : decode cL_does 483 = .ok (.invokevirtual 273, 3) := by decide +kernel
theorem dL_does_486 : decode cL_does 486 = .ok (.invokestatic 281, 3) := by decide +kernel
theorem dL_does_489 : decode cL_does 489 = .ok (.ireturn, 1) := by decide +kernel
theorem dL_does_490 : decode cL_does 490 = .ok (.aload_n 3, 1) := by decide +kernel
theorem dL_does_491 : decode cL_does 491 = .ok (.iload 4, 2) := by decide +kernel
theorem dL_does_493 : decode cL_does 493 = .ok (.invokestatic 285, 3) := by decide +kernel
theorem dL_does_496 : decode cL_does 496 = .ok (.ireturn, 1) := by decide +kernel
theorem dL_does_497 : decode cL_does 497 = .ok (.aload_n 3, 1) := by decide +kernel
theorem dL_does_498 : decode cL_does 498 = .ok (.iload 4, 2) := by decide +kernel
theorem dL_does_500 : decode cL_does 500 = .ok (.invokestatic 287, 3) := by decide +kernel
theorem dL_does_503 : decode cL_does 503 = .ok (.ireturn, 1) := by decide +kernel
theorem dL_sum_0 : decode cL_sum 0 = .ok (.ldc2_w 289, 3) := by decide +kernel
theorem dL_sum_3 : decode cL_sum 3 = .ok (.aload_n 0, 1) := by decide +kernel
theorem dL_sum_4 : decode cL_sum 4 = .ok (.invokevirtual 204, 3) := by decide +kernel
theorem dL_sum_7 : decode cL_sum 7 = .ok (.i2l, 1) := by decide +kernel
theorem dL_sum_8 : decode cL_sum 8 = .ok (.lmul, 1) := by decide +kernel
theorem dL_sum_9 : decode cL_sum 9 = .ok (.aload_n 0, 1) := by decide +kernel
theorem dL_sum_10 : decode cL_sum 10 = .ok (.invokevirtual 226, 3) := by decide +kernel
theorem dL_sum_13 : decode cL_sum 13 = .ok (.i2l, 1) := by decide +kernel
theorem dL_sum_14 : decode cL_sum 14 = .ok (.ladd, 1) := by decide +kernel
theorem dL_sum_15 : decode cL_sum 15 = .ok (.lstore_n 1, 1) := by decide +kernel
theorem dL_sum_16 : decode cL_sum 16 = .ok (.ldc2_w 289, 3) := by decide +kernel
theorem dL_sum_19 : decode cL_sum 19 = .ok (.lload_n 1, 1) := by decide +kernel
theorem dL_sum_20 : decode cL_sum 20 = .ok (.lmul, 1) := by decide +kernel
theorem dL_sum_21 : decode cL_sum 21 = .ok (.ldc2_w 291, 3) := by decide +kernel
theorem dL_sum_24 : decode cL_sum 24 = .ok (.aload_n 0, 1) := by decide +kernel
theorem dL_sum_25 : decode cL_sum 25 = .ok (.invokevirtual 293, 3) := by decide +kernel
theorem dL_sum_28 : decode cL_sum 28 = .ok (.i2l, 1) := by decide +kernel
theorem dL_sum_29 : decode cL_sum 29 = .ok (.lmul, 1) := by decide +kernel
theorem dL_sum_30 : decode cL_sum 30 = .ok (.ladd, 1) := by decide +kernel
theorem dL_sum_31 : decode cL_sum 31 = .ok (.aload_n 0, 1) := by decide +kernel
theorem dL_sum_32 : decode cL_sum 32 = .ok (.invokevirtual 201, 3) := by decide +kernel
theorem dL_sum_35 : decode cL_sum 35 = .ok (.i2l, 1) := by decide +kernel
theorem dL_sum_36 : decode cL_sum 36 = .ok (.ladd, 1) := by decide +kernel
theorem dL_sum_37 : decode cL_sum 37 = .ok (.lstore_n 1, 1) := by decide +kernel
theorem dL_sum_38 : decode cL_sum 38 = .ok (.iconst 0, 1) := by decide +kernel
theorem dL_sum_39 : decode cL_sum 39 = .ok (.istore_n 3, 1) := by decide +kernel
theorem dL_sum_40 : decode cL_sum 40 = .ok (.iload_n 3, 1) := by decide +kernel
theorem dL_sum_41 : decode cL_sum 41 = .ok (.aload_n 0, 1) := by decide +kernel
theorem dL_sum_42 : decode cL_sum 42 = .ok (.invokevirtual 192, 3) := by decide +kernel
theorem dL_sum_45 : decode cL_sum 45 = .ok (.if_icmp .ge 64, 3) := by decide +kernel
theorem dL_sum_48 : decode cL_sum 48 = .ok (.aload_n 0, 1) := by decide +kernel
theorem dL_sum_49 : decode cL_sum 49 = .ok (.iload_n 3, 1) := by decide +kernel
theorem dL_sum_50 : decode cL_sum 50 = .ok (.invokestatic 195, 3) := by decide +kernel
theorem dL_sum_53 : decode cL_sum 53 = .ok (.istore 4, 2) := by decide +kernel
theorem dL_sum_55 : decode cL_sum 55 = .ok (.ldc2_w 289, 3) := by decide +kernel
theorem dL_sum_58 : decode cL_sum 58 = .ok (.lload_n 1, 1) := by decide +kernel
theorem dL_sum_59 : decode cL_sum 59 = .ok (.lmul, 1) := by decide +kernel
theorem dL_sum_60 : decode cL_sum 60 = .ok (.iload 4, 2) := by decide +kernel
theorem dL_sum_62 : decode cL_sum 62 = .ok (.i2l, 1) := by decide +kernel
theorem dL_sum_63 : decode cL_sum 63 = .ok (.ladd, 1) := by decide +kernel
theorem dL_sum_64 : decode cL_sum 64 = .ok (.lstore_n 1, 1) := by decide +kernel
theorem dL_sum_65 : decode cL_sum 65 = .ok (.aload_n 0, 1) := by decide +kernel
theorem dL_sum_66 : decode cL_sum 66 = .ok (.iload 4, 2) := by decide +kernel
theorem dL_sum_68 : decode cL_sum 68 = .ok (.invokestatic 296, 3) := by decide +kernel
theorem dL_sum_71 : decode cL_sum 71 = .ok (.istore 5, 2) := by decide +kernel
theorem dL_sum_73 : decode cL_sum 73 = .ok (.iconst 0, 1) := by decide +kernel
theorem dL_sum_74 : decode cL_sum 74 = .ok (.istore 6, 2) := by decide +kernel
theorem dL_sum_76 : decode cL_sum 76 = .ok (.iload 6, 2) := by decide +kernel
theorem dL_sum_78 : decode cL_sum 78 = .ok (.iload 5, 2) := by decide +kernel
theorem dL_sum_80 : decode cL_sum 80 = .ok (.if_icmp .ge 23, 3) := by decide +kernel
theorem dL_sum_83 : decode cL_sum 83 = .ok (.ldc2_w 289, 3) := by decide +kernel
theorem dL_sum_86 : decode cL_sum 86 = .ok (.lload_n 1, 1) := by decide +kernel
theorem dL_sum_87 : decode cL_sum 87 = .ok (.lmul, 1) := by decide +kernel
theorem dL_sum_88 : decode cL_sum 88 = .ok (.aload_n 0, 1) := by decide +kernel
theorem dL_sum_89 : decode cL_sum 89 = .ok (.iload 6, 2) := by decide +kernel
theorem dL_sum_91 : decode cL_sum 91 = .ok (.invokestatic 177, 3) := by decide +kernel
theorem dL_sum_94 : decode cL_sum 94 = .ok (.i2l, 1) := by decide +kernel
theorem dL_sum_95 : decode cL_sum 95 = .ok (.ladd, 1) := by decide +kernel
theorem dL_sum_96 : decode cL_sum 96 = .ok (.lstore_n 1, 1) := by decide +kernel
theorem dL_sum_97 : decode cL_sum 97 = .ok (.iinc 6 1, 3) := by decide +kernel
theorem dL_sum_100 : decode cL_sum 100 = .ok (.goto (-24), 3) := by decide +kernel
theorem dL_sum_103 : decode cL_sum 103 = .ok (.iinc 3 1, 3) := by decide +kernel
theorem dL_sum_106 : decode cL_sum 106 = .ok (.goto (-66), 3) := by decide +kernel
theorem dL_sum_109 : decode cL_sum 109 = .ok (.iconst 0, 1) := by decide +kernel
theorem dL_sum_110 : decode cL_sum 110 = .ok (.istore_n 3, 1) := by decide +kernel
theorem dL_sum_111 : decode cL_sum 111 = .ok (.iload_n 3, 1) := by decide +kernel
theorem dL_sum_112 : decode cL_sum 112 = .ok (.aload_n 0, 1) := by decide +kernel
theorem dL_sum_113 : decode cL_sum 113 = .ok (.invokevirtual 209, 3) := by decide +kernel
theorem dL_sum_116 : decode cL_sum 116 = .ok (.if_icmp .ge 22, 3) := by decide +kernel
theorem dL_sum_119 : decode cL_sum 119 = .ok (.ldc2_w 289, 3) := by decide +kernel
theorem dL_sum_122 : decode cL_sum 122 = .ok (.lload_n 1, 1) := by decide +kernel
theorem dL_sum_123 : decode cL_sum 123 = .ok (.lmul, 1) := by decide +kernel
theorem dL_sum_124 : decode cL_sum 124 = .ok (.aload_n 0, 1) := by decide +kernel
theorem dL_sum_125 : decode cL_sum 125 = .ok (.iload_n 3, 1) := by decide +kernel
theorem dL_sum_126 : decode cL_sum 126 = .ok (.invokestatic 207, 3) := by decide +kernel
theorem dL_sum_129 : decode cL_sum 129 = .ok (.i2l, 1) := by decide +kernel
theorem dL_sum_130 : decode cL_sum 130 = .ok (.ladd, 1) := by decide +kernel
theorem dL_sum_131 : decode cL_sum 131 = .ok (.lstore_n 1, 1) := by decide +kernel
theorem dL_sum_132 : decode cL_sum 132 = .ok (.iinc 3 1, 3) := by decide +kernel
theorem dL_sum_135 : decode cL_sum 135 = .ok (.goto (-24), 3) := by decide +kernel
theorem dL_sum_138 : decode cL_sum 138 = .ok (.iconst 0, 1) := by decide +kernel
theorem dL_sum_139 : decode cL_sum 139 = .ok (.istore_n 3, 1) := by decide +kernel
theorem dL_sum_140 : decode cL_sum 140 = .ok (.iload_n 3, 1) := by decide +kernel
theorem dL_sum_141 : decode cL_sum 141 = .ok (.aload_n 0, 1) := by decide +kernel
theorem dL_sum_142 : decode cL_sum 142 = .ok (.invokevirtual 298, 3) := by decide +kernel
theorem dL_sum_145 : decode cL_sum 145 = .ok (.if_icmp .ge 33, 3) := by decide +kernel
theorem dL_sum_148 : decode cL_sum 148 = .ok (.ldc2_w 289, 3) := by decide +kernel
theorem dL_sum_151 : decode cL_sum 151 = .ok (.lload_n 1, 1) := by decide +kernel
theorem dL_sum_152 : decode cL_sum 152 = .ok (.lmul, 1) := by decide +kernel
theorem dL_sum_153 : decode cL_sum 153 = .ok (.ldc2_w 291, 3) := by decide +kernel
theorem dL_sum_156 : decode cL_sum 156 = .ok (.aload_n 0, 1) := by decide +kernel
theorem dL_sum_157 : decode cL_sum 157 = .ok (.iload_n 3, 1) := by decide +kernel
theorem dL_sum_158 : decode cL_sum 158 = .ok (.invokestatic 301, 3) := by decide +kernel
theorem dL_sum_161 : decode cL_sum 161 = .ok (.i2l, 1) := by decide +kernel
theorem dL_sum_162 : decode cL_sum 162 = .ok (.lmul, 1) := by decide +kernel
theorem dL_sum_163 : decode cL_sum 163 = .ok (.ladd, 1) := by decide +kernel
theorem dL_sum_164 : decode cL_sum 164 = .ok (.aload_n 0, 1) := by decide +kernel
theorem dL_sum_165 : decode cL_sum 165 = .ok (.iload_n 3, 1) := by decide +kernel
theorem dL_sum_166 : decode cL_sum 166 = .ok (.invokestatic 303, 3) := by decide +kernel
theorem dL_sum_169 : decode cL_sum 169 = .ok (.i2l, 1) := by decide +kernel
theorem dL_sum_170 : decode cL_sum 170 = .ok (.ladd, 1) := by decide +kernel
theorem dL_sum_171 : decode cL_sum 171 = .ok (.lstore_n 1, 1) := by decide +kernel
theorem dL_sum_172 : decode cL_sum 172 = .ok (.iinc 3 1, 3) := by decide +kernel
theorem dL_sum_175 : decode cL_sum 175 = .ok (.goto (-35), 3) := by decide +kernel
theorem dL_sum_178 : decode cL_sum 178 = .ok (.lload_n 1, 1) := by decide +kernel
theorem dL_sum_179 : decode cL_sum 179 = .ok (.lreturn, 1) := by decide +kernel
theorem dL_areLots_0 : decode cL_areLots 0 = .ok (.aload_n 0, 1) := by decide +kernel
theorem dL_areLots_1 : decode cL_areLots 1 = .ok (.invokevirtual 192, 3) := by decide +kernel
theorem dL_areLots_4 : decode cL_areLots 4 = .ok (.istore_n 1, 1) := by decide +kernel
theorem dL_areLots_5 : decode cL_areLots 5 = .ok (.iconst 0, 1) := by decide +kernel
theorem dL_areLots_6 : decode cL_areLots 6 = .ok (.istore_n 2, 1) := by decide +kernel
theorem dL_areLots_7 : decode cL_areLots 7 = .ok (.iconst 0, 1) := by decide +kernel
theorem dL_areLots_8 : decode cL_areLots 8 = .ok (.istore_n 3, 1) := by decide +kernel
theorem dL_areLots_9 : decode cL_areLots 9 = .ok (.iconst 0, 1) := by decide +kernel
theorem dL_areLots_10 : decode cL_areLots 10 = .ok (.istore 4, 2) := by decide +kernel
theorem dL_areLots_12 : decode cL_areLots 12 = .ok (.iconst 0, 1) := by decide +kernel
theorem dL_areLots_13 : decode cL_areLots 13 = .ok (.istore 5, 2) := by decide +kernel
theorem dL_areLots_15 : decode cL_areLots 15 = .ok (.iconst 0, 1) := by decide +kernel
theorem dL_areLots_16 : decode cL_areLots 16 = .ok (.istore 6, 2) := by decide +kernel
theorem dL_areLots_18 : decode cL_areLots 18 = .ok (.iconst 0, 1) := by decide +kernel
theorem dL_areLots_19 : decode cL_areLots 19 = .ok (.istore 7, 2) := by decide +kernel
theorem dL_areLots_21 : decode cL_areLots 21 = .ok (.iload 7, 2) := by decide +kernel
theorem dL_areLots_23 : decode cL_areLots 23 = .ok (.iload_n 1, 1) := by decide +kernel
theorem dL_areLots_24 : decode cL_areLots 24 = .ok (.if_icmp .ge 322, 3) := by decide +kernel
theorem dL_areLots_27 : decode cL_areLots 27 = .ok (.aload_n 0, 1) := by decide +kernel
theorem dL_areLots_28 : decode cL_areLots 28 = .ok (.iload 7, 2) := by decide +kernel
theorem dL_areLots_30 : decode cL_areLots 30 = .ok (.invokestatic 195, 3) := by decide +kernel
theorem dL_areLots_33 : decode cL_areLots 33 = .ok (.istore 8, 2) := by decide +kernel
theorem dL_areLots_35 : decode cL_areLots 35 = .ok (.aload_n 0, 1) := by decide +kernel
theorem dL_areLots_36 : decode cL_areLots 36 = .ok (.iload 8, 2) := by decide +kernel
theorem dL_areLots_38 : decode cL_areLots 38 = .ok (.invokestatic 222, 3) := by decide +kernel
theorem dL_areLots_41 : decode cL_areLots 41 = .ok (.aload_n 0, 1) := by decide +kernel
theorem dL_areLots_42 : decode cL_areLots 42 = .ok (.iload 8, 2) := by decide +kernel
theorem dL_areLots_44 : decode cL_areLots 44 = .ok (.invokestatic 305, 3) := by decide +kernel
theorem dL_areLots_47 : decode cL_areLots 47 = .ok (.imul, 1) := by decide +kernel
theorem dL_areLots_48 : decode cL_areLots 48 = .ok (.istore 9, 2) := by decide +kernel
theorem dL_areLots_50 : decode cL_areLots 50 = .ok (.aload_n 0, 1) := by decide +kernel
theorem dL_areLots_51 : decode cL_areLots 51 = .ok (.aload_n 0, 1) := by decide +kernel
theorem dL_areLots_52 : decode cL_areLots 52 = .ok (.iload 8, 2) := by decide +kernel
theorem dL_areLots_54 : decode cL_areLots 54 = .ok (.invokestatic 307, 3) := by decide +kernel
theorem dL_areLots_57 : decode cL_areLots 57 = .ok (.invokestatic 309, 3) := by decide +kernel
theorem dL_areLots_60 : decode cL_areLots 60 = .ok (.iload 8, 2) := by decide +kernel
theorem dL_areLots_62 : decode cL_areLots 62 = .ok (.if_icmp .ne 39, 3) := by decide +kernel
theorem dL_areLots_65 : decode cL_areLots 65 = .ok (.iload 7, 2) := by decide +kernel
theorem dL_areLots_67 : decode cL_areLots 67 = .ok (.ifCond .eq 16, 3) := by decide +kernel
theorem dL_areLots_70 : decode cL_areLots 70 = .ok (.aload_n 0, 1) := by decide +kernel
theorem dL_areLots_71 : decode cL_areLots 71 = .ok (.iload 7, 2) := by decide +kernel
theorem dL_areLots_73 : decode cL_areLots 73 = .ok (.iconst 1, 1) := by decide +kernel
theorem dL_areLots_74 : decode cL_areLots 74 = .ok (.isub, 1) := by decide +kernel
theorem dL_areLots_75 : decode cL_areLots 75 = .ok (.invokestatic 195, 3) := by decide +kernel
theorem dL_areLots_78 : decode cL_areLots 78 = .ok (.iload 8, 2) := by decide +kernel
theorem dL_areLots_80 : decode cL_areLots 80 = .ok (.if_icmp .ge 21, 3) := by decide +kernel
theorem dL_areLots_83 : decode cL_areLots 83 = .ok (.iload 6, 2) := by decide +kernel
theorem dL_areLots_85 : decode cL_areLots 85 = .ok (.aload_n 0, 1) := by decide +kernel
theorem dL_areLots_86 : decode cL_areLots 86 = .ok (.iload 8, 2) := by decide +kernel
theorem dL_areLots_88 : decode cL_areLots 88 = .ok (.invokestatic 307, 3) := by decide +kernel
theorem dL_areLots_91 : decode cL_areLots 91 = .ok (.ishr, 1) := by decide +kernel
theorem dL_areLots_92 : decode cL_areLots 92 = .ok (.iconst 1, 1) := by decide +kernel
theorem dL_areLots_93 : decode cL_areLots 93 = .ok (.iand, 1) := by decide +kernel
theorem dL_areLots_94 : decode cL_areLots 94 = .ok (.ifCond .ne 7, 3) := by decide +kernel
theorem dL_areLots_97 : decode cL_areLots 97 = .ok (.iconst 1, 1) := by decide +kernel
theorem dL_areLots_98 : decode cL_areLots 98 = .ok (.goto 4, 3) := by decide +kernel
theorem dL_areLots_101 : decode cL_areLots 101 = .ok (.iconst 0, 1) := by decide +kernel
theorem dL_areLots_102 : decode cL_areLots 102 = .ok (.istore 10, 2) := by decide +kernel
theorem dL_areLots_104 : decode cL_areLots 104 = .ok (.aload_n 0, 1) := by decide +kernel
theorem dL_areLots_105 : decode cL_areLots 105 = .ok (.iload 8, 2) := by decide +kernel
theorem dL_areLots_107 : decode cL_areLots 107 = .ok (.invokestatic 311, 3) := by decide +kernel
theorem dL_areLots_110 : decode cL_areLots 110 = .ok (.iload 9, 2) := by decide +kernel
theorem dL_areLots_112 : decode cL_areLots 112 = .ok (.if_icmp .ne 72, 3) := by decide +kernel
theorem dL_areLots_115 : decode cL_areLots 115 = .ok (.aload_n 0, 1) := by decide +kernel
theorem dL_areLots_116 : decode cL_areLots 116 = .ok (.iload 8, 2) := by decide +kernel
theorem dL_areLots_118 : decode cL_areLots 118 = .ok (.invokestatic 222, 3) := by decide +kernel
theorem dL_areLots_121 : decode cL_areLots 121 = .ok (.iconst 1, 1) := by decide +kernel
theorem dL_areLots_122 : decode cL_areLots 122 = .ok (.if_icmp .lt 62, 3) := by decide +kernel
theorem dL_areLots_125 : decode cL_areLots 125 = .ok (.aload_n 0, 1) := by decide +kernel
theorem dL_areLots_126 : decode cL_areLots 126 = .ok (.iload 8, 2) := by decide +kernel
theorem dL_areLots_128 : decode cL_areLots 128 = .ok (.invokestatic 222, 3) := by decide +kernel
theorem dL_areLots_131 : decode cL_areLots 131 = .ok (.bipush 99, 2) := by decide +kernel
theorem dL_areLots_133 : decode cL_areLots 133 = .ok (.if_icmp .gt 51, 3) := by decide +kernel
theorem dL_areLots_136 : decode cL_areLots 136 = .ok (.aload_n 0, 1) := by decide +kernel
theorem dL_areLots_137 : decode cL_areLots 137 = .ok (.iload 8, 2) := by decide +kernel
theorem dL_areLots_139 : decode cL_areLots 139 = .ok (.invokestatic 197, 3) := by decide +kernel
theorem dL_areLots_142 : decode cL_areLots 142 = .ok (.aload_n 0, 1) := by decide +kernel
theorem dL_areLots_143 : decode cL_areLots 143 = .ok (.iload 8, 2) := by decide +kernel
theorem dL_areLots_145 : decode cL_areLots 145 = .ok (.invokestatic 224, 3) := by decide +kernel
theorem dL_areLots_148 : decode cL_areLots 148 = .ok (.iconst 1, 1) := by decide +kernel
theorem dL_areLots_149 : decode cL_areLots 149 = .ok (.if_icmp .ne 7, 3) := by decide +kernel
theorem dL_areLots_152 : decode cL_areLots 152 = .ok (.iconst 0, 1) := by decide +kernel
theorem dL_areLots_153 : decode cL_areLots 153 = .ok (.goto 9, 3) := by decide +kernel
theorem dL_areLots_156 : decode cL_areLots 156 = .ok (.aload_n 0, 1) := by decide +kernel
theorem dL_areLots_157 : decode cL_areLots 157 = .ok (.iload 9, 2) := by decide +kernel
theorem dL_areLots_159 : decode cL_areLots 159 = .ok (.invokestatic 313, 3) := by decide +kernel
theorem dL_areLots_162 : decode cL_areLots 162 = .ok (.if_icmp .ne 22, 3) := by decide +kernel
theorem dL_areLots_165 : decode cL_areLots 165 = .ok (.aload_n 0, 1) := by decide +kernel
theorem dL_areLots_166 : decode cL_areLots 166 = .ok (.iload 9, 2) := by decide +kernel
theorem dL_areLots_168 : decode cL_areLots 168 = .ok (.invokestatic 315, 3) := by decide +kernel
theorem dL_areLots_171 : decode cL_areLots 171 = .ok (.aload_n 0, 1) := by decide +kernel
theorem dL_areLots_172 : decode cL_areLots 172 = .ok (.iload 9, 2) := by decide +kernel
theorem dL_areLots_174 : decode cL_areLots 174 = .ok (.invokestatic 313, 3) := by decide +kernel
theorem dL_areLots_177 : decode cL_areLots 177 = .ok (.if_icmp .ne 7, 3) := by decide +kernel
theorem dL_areLots_180 : decode cL_areLots 180 = .ok (.iconst 1, 1) := by decide +kernel
theorem dL_areLots_181 : decode cL_areLots 181 = .ok (.goto 4, 3) := by decide +kernel
theorem dL_areLots_184 : decode cL_areLots 184 = .ok (.iconst 0, 1) := by decide +kernel
theorem dL_areLots_185 : decode cL_areLots 185 = .ok (.istore 11, 2) := by decide +kernel
theorem dL_areLots_187 : decode cL_areLots 187 = .ok (.iload 10, 2) := by decide +kernel
theorem dL_areLots_189 : decode cL_areLots 189 = .ok (.ifCond .eq 28, 3) := by decide +kernel
theorem dL_areLots_192 : decode cL_areLots 192 = .ok (.iload 11, 2) := by decide +kernel
theorem dL_areLots_194 : decode cL_areLots 194 = .ok (.ifCond .eq 23, 3) := by decide +kernel
theorem dL_areLots_197 : decode cL_areLots 197 = .ok (.aload_n 0, 1) := by decide +kernel
theorem dL_areLots_198 : decode cL_areLots 198 = .ok (.iload 8, 2) := by decide +kernel
theorem dL_areLots_200 : decode cL_areLots 200 = .ok (.invokestatic 224, 3) := by decide +kernel
theorem dL_areLots_203 : decode cL_areLots 203 = .ok (.iconst 1, 1) := by decide +kernel
theorem dL_areLots_204 : decode cL_areLots 204 = .ok (.if_icmp .ne 15, 3) := by decide +kernel
theorem dL_areLots_207 : decode cL_areLots 207 = .ok (.aload_n 0, 1) := by decide +kernel
theorem dL_areLots_208 : decode cL_areLots 208 = .ok (.iload 8, 2) := by decide +kernel
theorem dL_areLots_210 : decode cL_areLots 210 = .ok (.invokestatic 317, 3) := by decide +kernel
theorem dL_areLots_213 : decode cL_areLots 213 = .ok (.iconst 1, 1) := by decide +kernel
theorem dL_areLots_214 : decode cL_areLots 214 = .ok (.if_icmp .ne 5, 3) := by decide +kernel
theorem dL_areLots_217 : decode cL_areLots 217 = .ok (.iconst 0, 1) := by decide +kernel
theorem dL_areLots_218 : decode cL_areLots 218 = .ok (.ireturn, 1) := by decide +kernel
theorem dL_areLots_219 : decode cL_areLots 219 = .ok (.iload 6, 2) := by decide +kernel
theorem dL_areLots_221 : decode cL_areLots 221 = .ok (.iconst 1, 1) := by decide +kernel
theorem dL_areLots_222 : decode cL_areLots 222 = .ok (.aload_n 0, 1) := by decide +kernel
theorem dL_areLots_223 : decode cL_areLots 223 = .ok (.iload 8, 2) := by decide +kernel
theorem dL_areLots_225 : decode cL_areLots 225 = .ok (.invokestatic 307, 3) := by decide +kernel
theorem dL_areLots_228 : decode cL_areLots 228 = .ok (.ishl, 1) := by decide +kernel
theorem dL_areLots_229 : decode cL_areLots 229 = .ok (.ior, 1) := by decide +kernel
theorem dL_areLots_230 : decode cL_areLots 230 = .ok (.istore 6, 2) := by decide +kernel
theorem dL_areLots_232 : decode cL_areLots 232 = .ok (.iload_n 2, 1) := by decide +kernel
theorem dL_areLots_233 : decode cL_areLots 233 = .ok (.aload_n 0, 1) := by decide +kernel
theorem dL_areLots_234 : decode cL_areLots 234 = .ok (.iload 8, 2) := by decide +kernel
theorem dL_areLots_236 : decode cL_areLots 236 = .ok (.invokestatic 317, 3) := by decide +kernel
theorem dL_areLots_239 : decode cL_areLots 239 = .ok (.iadd, 1) := by decide +kernel
theorem dL_areLots_240 : decode cL_areLots 240 = .ok (.istore_n 2, 1) := by decide +kernel
theorem dL_areLots_241 : decode cL_areLots 241 = .ok (.iload_n 3, 1) := by decide +kernel
theorem dL_areLots_242 : decode cL_areLots 242 = .ok (.aload_n 0, 1) := by decide +kernel
theorem dL_areLots_243 : decode cL_areLots 243 = .ok (.iload 8, 2) := by decide +kernel
theorem dL_areLots_245 : decode cL_areLots 245 = .ok (.invokestatic 224, 3) := by decide +kernel
theorem dL_areLots_248 : decode cL_areLots 248 = .ok (.iadd, 1) := by decide +kernel
theorem dL_areLots_249 : decode cL_areLots 249 = .ok (.istore_n 3, 1) := by decide +kernel
theorem dL_areLots_250 : decode cL_areLots 250 = .ok (.iload 4, 2) := by decide +kernel
theorem dL_areLots_252 : decode cL_areLots 252 = .ok (.aload_n 0, 1) := by decide +kernel
theorem dL_areLots_253 : decode cL_areLots 253 = .ok (.iload 8, 2) := by decide +kernel
theorem dL_areLots_255 : decode cL_areLots 255 = .ok (.invokestatic 197, 3) := by decide +kernel
theorem dL_areLots_258 : decode cL_areLots 258 = .ok (.iadd, 1) := by decide +kernel
theorem dL_areLots_259 : decode cL_areLots 259 = .ok (.istore 4, 2) := by decide +kernel
theorem dL_areLots_261 : decode cL_areLots 261 = .ok (.iload 5, 2) := by decide +kernel
theorem dL_areLots_263 : decode cL_areLots 263 = .ok (.iload 9, 2) := by decide +kernel
theorem dL_areLots_265 : decode cL_areLots 265 = .ok (.iadd, 1) := by decide +kernel
theorem dL_areLots_266 : decode cL_areLots 266 = .ok (.istore 5, 2) := by decide +kernel
theorem dL_areLots_268 : decode cL_areLots 268 = .ok (.aload_n 0, 1) := by decide +kernel
theorem dL_areLots_269 : decode cL_areLots 269 = .ok (.iload 7, 2) := by decide +kernel
theorem dL_areLots_271 : decode cL_areLots 271 = .ok (.invokestatic 319, 3) := by decide +kernel
theorem dL_areLots_274 : decode cL_areLots 274 = .ok (.istore 12, 2) := by decide +kernel
theorem dL_areLots_276 : decode cL_areLots 276 = .ok (.iload 7, 2) := by decide +kernel
theorem dL_areLots_278 : decode cL_areLots 278 = .ok (.ifCond .ne 8, 3) := by decide +kernel
theorem dL_areLots_281 : decode cL_areLots 281 = .ok (.iload 12, 2) := by decide +kernel
theorem dL_areLots_283 : decode cL_areLots 283 = .ok (.goto 11, 3) := by decide +kernel
theorem dL_areLots_286 : decode cL_areLots 286 = .ok (.aload_n 0, 1) := by decide +kernel
theorem dL_areLots_287 : decode cL_areLots 287 = .ok (.iload 7, 2) := by decide +kernel
theorem dL_areLots_289 : decode cL_areLots 289 = .ok (.iconst 1, 1) := by decide +kernel
theorem dL_areLots_290 : decode cL_areLots 290 = .ok (.isub, 1) := by decide +kernel
theorem dL_areLots_291 : decode cL_areLots 291 = .ok (.invokestatic 319, 3) := by decide +kernel
theorem dL_areLots_294 : decode cL_areLots 294 = .ok (.istore 13, 2) := by decide +kernel
theorem dL_areLots_296 : decode cL_areLots 296 = .ok (.aload_n 0, 1) := by decide +kernel
theorem dL_areLots_297 : decode cL_areLots 297 = .ok (.iload 13, 2) := by decide +kernel
theorem dL_areLots_299 : decode cL_areLots 299 = .ok (.invokestatic 311, 3) := by decide +kernel
theorem dL_areLots_302 : decode cL_areLots 302 = .ok (.aload_n 0, 1) := by decide +kernel
theorem dL_areLots_303 : decode cL_areLots 303 = .ok (.iload 12, 2) := by decide +kernel
theorem dL_areLots_305 : decode cL_areLots 305 = .ok (.invokestatic 311, 3) := by decide +kernel
theorem dL_areLots_308 : decode cL_areLots 308 = .ok (.if_icmp .lt 30, 3) := by decide +kernel
theorem dL_areLots_311 : decode cL_areLots 311 = .ok (.iload 7, 2) := by decide +kernel
theorem dL_areLots_313 : decode cL_areLots 313 = .ok (.ifCond .le 27, 3) := by decide +kernel
theorem dL_areLots_316 : decode cL_areLots 316 = .ok (.aload_n 0, 1) := by decide +kernel
theorem dL_areLots_317 : decode cL_areLots 317 = .ok (.iload 13, 2) := by decide +kernel
theorem dL_areLots_319 : decode cL_areLots 319 = .ok (.invokestatic 311, 3) := by decide +kernel
theorem dL_areLots_322 : decode cL_areLots 322 = .ok (.aload_n 0, 1) := by decide +kernel
theorem dL_areLots_323 : decode cL_areLots 323 = .ok (.iload 12, 2) := by decide +kernel
theorem dL_areLots_325 : decode cL_areLots 325 = .ok (.invokestatic 311, 3) := by decide +kernel
theorem dL_areLots_328 : decode cL_areLots 328 = .ok (.if_icmp .ne 12, 3) := by decide +kernel
theorem dL_areLots_331 : decode cL_areLots 331 = .ok (.iload 13, 2) := by decide +kernel
theorem dL_areLots_333 : decode cL_areLots 333 = .ok (.iload 12, 2) := by decide +kernel
theorem dL_areLots_335 : decode cL_areLots 335 = .ok (.if_icmp .le 5, 3) := by decide +kernel
theorem dL_areLots_338 : decode cL_areLots 338 = .ok (.iconst 0, 1) := by decide +kernel
theorem dL_areLots_339 : decode cL_areLots 339 = .ok (.ireturn, 1) := by decide +kernel
theorem dL_areLots_340 : decode cL_areLots 340 = .ok (.iinc 7 1, 3) := by decide +kernel
theorem dL_areLots_343 : decode cL_areLots 343 = .ok (.goto (-322), 3) := by decide +kernel
theorem dL_areLots_346 : decode cL_areLots 346 = .ok (.iconst 0, 1) := by decide +kernel
theorem dL_areLots_347 : decode cL_areLots 347 = .ok (.istore 7, 2) := by decide +kernel
theorem dL_areLots_349 : decode cL_areLots 349 = .ok (.iconst 0, 1) := by decide +kernel
theorem dL_areLots_350 : decode cL_areLots 350 = .ok (.istore 8, 2) := by decide +kernel
theorem dL_areLots_352 : decode cL_areLots 352 = .ok (.iload 8, 2) := by decide +kernel
theorem dL_areLots_354 : decode cL_areLots 354 = .ok (.iconst 5, 1) := by decide +kernel
theorem dL_areLots_355 : decode cL_areLots 355 = .ok (.if_icmp .ge 24, 3) := by decide +kernel
theorem dL_areLots_358 : decode cL_areLots 358 = .ok (.iload 7, 2) := by decide +kernel
theorem dL_areLots_360 : decode cL_areLots 360 = .ok (.aload_n 0, 1) := by decide +kernel
theorem dL_areLots_361 : decode cL_areLots 361 = .ok (.bipush 97, 2) := by decide +kernel
theorem dL_areLots_363 : decode cL_areLots 363 = .ok (.iload 8, 2) := by decide +kernel
theorem dL_areLots_365 : decode cL_areLots 365 = .ok (.iadd, 1) := by decide +kernel
theorem dL_areLots_366 : decode cL_areLots 366 = .ok (.i2c, 1) := by decide +kernel
theorem dL_areLots_367 : decode cL_areLots 367 = .ok (.invokestatic 321, 3) := by decide +kernel
theorem dL_areLots_370 : decode cL_areLots 370 = .ok (.iadd, 1) := by decide +kernel
theorem dL_areLots_371 : decode cL_areLots 371 = .ok (.istore 7, 2) := by decide +kernel
theorem dL_areLots_373 : decode cL_areLots 373 = .ok (.iinc 8 1, 3) := by decide +kernel
theorem dL_areLots_376 : decode cL_areLots 376 = .ok (.goto (-24), 3) := by decide +kernel
theorem dL_areLots_379 : decode cL_areLots 379 = .ok (.iconst 0, 1) := by decide +kernel
theorem dL_areLots_380 : decode cL_areLots 380 = .ok (.istore 8, 2) := by decide +kernel
theorem dL_areLots_382 : decode cL_areLots 382 = .ok (.iconst 0, 1) := by decide +kernel
theorem dL_areLots_383 : decode cL_areLots 383 = .ok (.istore 9, 2) := by decide +kernel
theorem dL_areLots_385 : decode cL_areLots 385 = .ok (.iload 9, 2) := by decide +kernel
theorem dL_areLots_387 : decode cL_areLots 387 = .ok (.iload_n 1, 1) := by decide +kernel
theorem dL_areLots_388 : decode cL_areLots 388 = .ok (.if_icmp .ge 24, 3) := by decide +kernel
theorem dL_areLots_391 : decode cL_areLots 391 = .ok (.iload 8, 2) := by decide +kernel
theorem dL_areLots_393 : decode cL_areLots 393 = .ok (.aload_n 0, 1) := by decide +kernel
theorem dL_areLots_394 : decode cL_areLots 394 = .ok (.aload_n 0, 1) := by decide +kernel
theorem dL_areLots_395 : decode cL_areLots 395 = .ok (.iload 9, 2) := by decide +kernel
theorem dL_areLots_397 : decode cL_areLots 397 = .ok (.invokestatic 195, 3) := by decide +kernel
theorem dL_areLots_400 : decode cL_areLots 400 = .ok (.invokestatic 222, 3) := by decide +kernel
theorem dL_areLots_403 : decode cL_areLots 403 = .ok (.iadd, 1) := by decide +kernel
theorem dL_areLots_404 : decode cL_areLots 404 = .ok (.istore 8, 2) := by decide +kernel
theorem dL_areLots_406 : decode cL_areLots 406 = .ok (.iinc 9 1, 3) := by decide +kernel
theorem dL_areLots_409 : decode cL_areLots 409 = .ok (.goto (-24), 3) := by decide +kernel
theorem dL_areLots_412 : decode cL_areLots 412 = .ok (.aload_n 0, 1) := by decide +kernel
theorem dL_areLots_413 : decode cL_areLots 413 = .ok (.invokestatic 323, 3) := by decide +kernel
theorem dL_areLots_416 : decode cL_areLots 416 = .ok (.iload_n 1, 1) := by decide +kernel
theorem dL_areLots_417 : decode cL_areLots 417 = .ok (.ifCond .ne 9, 3) := by decide +kernel
theorem dL_areLots_420 : decode cL_areLots 420 = .ok (.ldc2_w 132, 3) := by decide +kernel
theorem dL_areLots_423 : decode cL_areLots 423 = .ok (.goto 9, 3) := by decide +kernel
theorem dL_areLots_426 : decode cL_areLots 426 = .ok (.iload 5, 2) := by decide +kernel
theorem dL_areLots_428 : decode cL_areLots 428 = .ok (.i2d, 1) := by decide +kernel
theorem dL_areLots_429 : decode cL_areLots 429 = .ok (.iload_n 1, 1) := by decide +kernel
theorem dL_areLots_430 : decode cL_areLots 430 = .ok (.i2d, 1) := by decide +kernel
theorem dL_areLots_431 : decode cL_areLots 431 = .ok (.ddiv, 1) := by decide +kernel
theorem dL_areLots_432 : decode cL_areLots 432 = .ok (.dcmp .l, 1) := by decide +kernel
theorem dL_areLots_433 : decode cL_areLots 433 = .ok (.ifCond .ne 29, 3) := by decide +kernel
theorem dL_areLots_436 : decode cL_areLots 436 = .ok (.aload_n 0, 1) := by decide +kernel
theorem dL_areLots_437 : decode cL_areLots 437 = .ok (.invokestatic 326, 3) := by decide +kernel
theorem dL_areLots_440 : decode cL_areLots 440 = .ok (.iload_n 1, 1) := by decide +kernel
theorem dL_areLots_441 : decode cL_areLots 441 = .ok (.ifCond .ne 8, 3) := by decide +kernel
theorem dL_areLots_444 : decode cL_areLots 444 = .ok (.ldc 138, 2) := by decide +kernel
theorem dL_areLots_446 : decode cL_areLots 446 = .ok (.goto 8, 3) := by decide +kernel
theorem dL_areLots_449 : decode cL_areLots 449 = .ok (.iload_n 3, 1) := by decide +kernel
theorem dL_areLots_450 : decode cL_areLots 450 = .ok (.i2f, 1) := by decide +kernel
theorem dL_areLots_451 : decode cL_areLots 451 = .ok (.iload_n 1, 1) := by decide +kernel
theorem dL_areLots_452 : decode cL_areLots 452 = .ok (.i2f, 1) := by decide +kernel
theorem dL_areLots_453 : decode cL_areLots 453 = .ok (.fdiv, 1) := by decide +kernel
theorem dL_areLots_454 : decode cL_areLots 454 = .ok (.fcmp .l, 1) := by decide +kernel
theorem dL_areLots_455 : decode cL_areLots 455 = .ok (.ifCond .ne 7, 3) := by decide +kernel
theorem dL_areLots_458 : decode cL_areLots 458 = .ok (.iconst 1, 1) := by decide +kernel
theorem dL_areLots_459 : decode cL_areLots 459 = .ok (.goto 4, 3) := by decide +kernel
theorem dL_areLots_462 : decode cL_areLots 462 = .ok (.iconst 0, 1) := by decide +kernel
theorem dL_areLots_463 : decode cL_areLots 463 = .ok (.istore 9, 2) := by decide +kernel
theorem dL_areLots_465 : decode cL_areLots 465 = .ok (.iload 9, 2) := by decide +kernel
theorem dL_areLots_467 : decode cL_areLots 467 = .ok (.ifCond .eq 46, 3) := by decide +kernel
theorem dL_areLots_470 : decode cL_areLots 470 = .ok (.iload 7, 2) := by decide +kernel
theorem dL_areLots_472 : decode cL_areLots 472 = .ok (.iload 8, 2) := by decide +kernel
theorem dL_areLots_474 : decode cL_areLots 474 = .ok (.if_icmp .ne 39, 3) := by decide +kernel
theorem dL_areLots_477 : decode cL_areLots 477 = .ok (.aload_n 0, 1) := by decide +kernel
theorem dL_areLots_478 : decode cL_areLots 478 = .ok (.invokevirtual 219, 3) := by decide +kernel
theorem dL_areLots_481 : decode cL_areLots 481 = .ok (.iload_n 2, 1) := by decide +kernel
theorem dL_areLots_482 : decode cL_areLots 482 = .ok (.if_icmp .ne 31, 3) := by decide +kernel
theorem dL_areLots_485 : decode cL_areLots 485 = .ok (.aload_n 0, 1) := by decide +kernel
theorem dL_areLots_486 : decode cL_areLots 486 = .ok (.invokevirtual 329, 3) := by decide +kernel
theorem dL_areLots_489 : decode cL_areLots 489 = .ok (.iload 4, 2) := by decide +kernel
theorem dL_areLots_491 : decode cL_areLots 491 = .ok (.if_icmp .ne 22, 3) := by decide +kernel
theorem dL_areLots_494 : decode cL_areLots 494 = .ok (.aload_n 0, 1) := by decide +kernel
theorem dL_areLots_495 : decode cL_areLots 495 = .ok (.invokevirtual 332, 3) := by decide +kernel
theorem dL_areLots_498 : decode cL_areLots 498 = .ok (.iload 4, 2) := by decide +kernel
theorem dL_areLots_500 : decode cL_areLots 500 = .ok (.if_icmp .ne 13, 3) := by decide +kernel
theorem dL_areLots_503 : decode cL_areLots 503 = .ok (.iload_n 1, 1) := by decide +kernel
theorem dL_areLots_504 : decode cL_areLots 504 = .ok (.bipush 16, 2) := by decide +kernel
theorem dL_areLots_506 : decode cL_areLots 506 = .ok (.if_icmp .gt 7, 3) := by decide +kernel
theorem dL_areLots_509 : decode cL_areLots 509 = .ok (.iconst 1, 1) := by decide +kernel
theorem dL_areLots_510 : decode cL_areLots 510 = .ok (.goto 4, 3) := by decide +kernel
theorem dL_areLots_513 : decode cL_areLots 513 = .ok (.iconst 0, 1) := by decide +kernel
theorem dL_areLots_514 : decode cL_areLots 514 = .ok (.ireturn, 1) := by decide +kernel
theorem dL_isWhole_0 : decode cL_isWhole 0 = .ok (.aload_n 0, 1) := by decide +kernel
theorem dL_isWhole_1 : decode cL_isWhole 1 = .ok (.invokevirtual 335, 3) := by decide +kernel
theorem dL_isWhole_4 : decode cL_isWhole 4 = .ok (.istore 4, 2) := by decide +kernel
theorem dL_isWhole_6 : decode cL_isWhole 6 = .ok (.aload_n 0, 1) := by decide +kernel
theorem dL_isWhole_7 : decode cL_isWhole 7 = .ok (.invokevirtual 338, 3) := by decide +kernel
theorem dL_isWhole_10 : decode cL_isWhole 10 = .ok (.iload 4, 2) := by decide +kernel
theorem dL_isWhole_12 : decode cL_isWhole 12 = .ok (.if_icmp .ne 50, 3) := by decide +kernel
theorem dL_isWhole_15 : decode cL_isWhole 15 = .ok (.iload 4, 2) := by decide +kernel
theorem dL_isWhole_17 : decode cL_isWhole 17 = .ok (.aload_n 0, 1) := by decide +kernel
theorem dL_isWhole_18 : decode cL_isWhole 18 = .ok (.invokevirtual 219, 3) := by decide +kernel
theorem dL_isWhole_21 : decode cL_isWhole 21 = .ok (.if_icmp .lt 41, 3) := by decide +kernel
theorem dL_isWhole_24 : decode cL_isWhole 24 = .ok (.aload_n 0, 1) := by decide +kernel
theorem dL_isWhole_25 : decode cL_isWhole 25 = .ok (.invokevirtual 219, 3) := by decide +kernel
theorem dL_isWhole_28 : decode cL_isWhole 28 = .ok (.ifCond .gt 8, 3) := by decide +kernel
theorem dL_isWhole_31 : decode cL_isWhole 31 = .ok (.iload 4, 2) := by decide +kernel
theorem dL_isWhole_33 : decode cL_isWhole 33 = .ok (.ifCond .ne 29, 3) := by decide +kernel
theorem dL_isWhole_36 : decode cL_isWhole 36 = .ok (.aload_n 0, 1) := by decide +kernel
theorem dL_isWhole_37 : decode cL_isWhole 37 = .ok (.iconst 0, 1) := by decide +kernel
theorem dL_isWhole_38 : decode cL_isWhole 38 = .ok (.invokestatic 199, 3) := by decide +kernel
theorem dL_isWhole_41 : decode cL_isWhole 41 = .ok (.aload_n 0, 1) := by decide +kernel
theorem dL_isWhole_42 : decode cL_isWhole 42 = .ok (.invokevirtual 219, 3) := by decide +kernel
theorem dL_isWhole_45 : decode cL_isWhole 45 = .ok (.if_icmp .ne 17, 3) := by decide +kernel
theorem dL_isWhole_48 : decode cL_isWhole 48 = .ok (.aload_n 0, 1) := by decide +kernel
theorem dL_isWhole_49 : decode cL_isWhole 49 = .ok (.iconst 1, 1) := by decide +kernel
theorem dL_isWhole_50 : decode cL_isWhole 50 = .ok (.invokestatic 199, 3) := by decide +kernel
theorem dL_isWhole_53 : decode cL_isWhole 53 = .ok (.iload 4, 2) := by decide +kernel
theorem dL_isWhole_55 : decode cL_isWhole 55 = .ok (.if_icmp .gt 7, 3) := by decide +kernel
theorem dL_isWhole_58 : decode cL_isWhole 58 = .ok (.iconst 1, 1) := by decide +kernel
theorem dL_isWhole_59 : decode cL_isWhole 59 = .ok (.goto 4, 3) := by decide +kernel
theorem dL_isWhole_62 : decode cL_isWhole 62 = .ok (.iconst 0, 1) := by decide +kernel
theorem dL_isWhole_63 : decode cL_isWhole 63 = .ok (.istore 5, 2) := by decide +kernel
theorem dL_isWhole_65 : decode cL_isWhole 65 = .ok (.aload_n 1, 1) := by decide +kernel
theorem dL_isWhole_66 : decode cL_isWhole 66 = .ok (.iload_n 2, 1) := by decide +kernel
theorem dL_isWhole_67 : decode cL_isWhole 67 = .ok (.iconst 1, 1) := by decide +kernel
theorem dL_isWhole_68 : decode cL_isWhole 68 = .ok (.iadd, 1) := by decide +kernel
theorem dL_isWhole_69 : decode cL_isWhole 69 = .ok (.sipush 10000, 3) := by decide +kernel
theorem dL_isWhole_72 : decode cL_isWhole 72 = .ok (.invokestatic 188, 3) := by decide +kernel
theorem dL_isWhole_75 : decode cL_isWhole 75 = .ok (.istore 6, 2) := by decide +kernel
theorem dL_isWhole_77 : decode cL_isWhole 77 = .ok (.sipush 9999, 3) := by decide +kernel
theorem dL_isWhole_80 : decode cL_isWhole 80 = .ok (.iload 6, 2) := by decide +kernel
theorem dL_isWhole_82 : decode cL_isWhole 82 = .ok (.aload_n 1, 1) := by decide +kernel
theorem dL_isWhole_83 : decode cL_isWhole 83 = .ok (.iload_n 2, 1) := by decide +kernel
theorem dL_isWhole_84 : decode cL_isWhole 84 = .ok (.iconst 2, 1) := by decide +kernel
theorem dL_isWhole_85 : decode cL_isWhole 85 = .ok (.iadd, 1) := by decide +kernel
theorem dL_isWhole_86 : decode cL_isWhole 86 = .ok (.sipush 300, 3) := by decide +kernel
theorem dL_isWhole_89 : decode cL_isWhole 89 = .ok (.invokestatic 188, 3) := by decide +kernel
theorem dL_isWhole_92 : decode cL_isWhole 92 = .ok (.iadd, 1) := by decide +kernel
theorem dL_isWhole_93 : decode cL_isWhole 93 = .ok (.invokestatic 341, 3) := by decide +kernel
theorem dL_isWhole_96 : decode cL_isWhole 96 = .ok (.istore 7, 2) := by decide +kernel
theorem dL_isWhole_98 : decode cL_isWhole 98 = .ok (.aload_n 0, 1) := by decide +kernel
theorem dL_isWhole_99 : decode cL_isWhole 99 = .ok (.iload 7, 2) := by decide +kernel
theorem dL_isWhole_101 : decode cL_isWhole 101 = .ok (.invokestatic 313, 3) := by decide +kernel
theorem dL_isWhole_104 : decode cL_isWhole 104 = .ok (.aload_n 0, 1) := by decide +kernel
theorem dL_isWhole_105 : decode cL_isWhole 105 = .ok (.iload 6, 2) := by decide +kernel
theorem dL_isWhole_107 : decode cL_isWhole 107 = .ok (.invokestatic 313, 3) := by decide +kernel
theorem dL_isWhole_110 : decode cL_isWhole 110 = .ok (.isub, 1) := by decide +kernel
theorem dL_isWhole_111 : decode cL_isWhole 111 = .ok (.istore 8, 2) := by decide +kernel
theorem dL_isWhole_113 : decode cL_isWhole 113 = .ok (.iload 8, 2) := by decide +kernel
theorem dL_isWhole_115 : decode cL_isWhole 115 = .ok (.ifCond .lt 38, 3) := by decide +kernel
theorem dL_isWhole_118 : decode cL_isWhole 118 = .ok (.iload 8, 2) := by decide +kernel
theorem dL_isWhole_120 : decode cL_isWhole 120 = .ok (.iload 7, 2) := by decide +kernel
theorem dL_isWhole_122 : decode cL_isWhole 122 = .ok (.iload 6, 2) := by decide +kernel
theorem dL_isWhole_124 : decode cL_isWhole 124 = .ok (.isub, 1) := by decide +kernel
theorem dL_isWhole_125 : decode cL_isWhole 125 = .ok (.iconst 1, 1) := by decide +kernel
theorem dL_isWhole_126 : decode cL_isWhole 126 = .ok (.iadd, 1) := by decide +kernel
theorem dL_isWhole_127 : decode cL_isWhole 127 = .ok (.if_icmp .gt 26, 3) := by decide +kernel
theorem dL_isWhole_130 : decode cL_isWhole 130 = .ok (.aload_n 0, 1) := by decide +kernel
theorem dL_isWhole_131 : decode cL_isWhole 131 = .ok (.iload 6, 2) := by decide +kernel
theorem dL_isWhole_133 : decode cL_isWhole 133 = .ok (.invokestatic 313, 3) := by decide +kernel
theorem dL_isWhole_136 : decode cL_isWhole 136 = .ok (.iload 6, 2) := by decide +kernel
theorem dL_isWhole_138 : decode cL_isWhole 138 = .ok (.if_icmp .gt 15, 3) := by decide +kernel
theorem dL_isWhole_141 : decode cL_isWhole 141 = .ok (.aload_n 0, 1) := by decide +kernel
theorem dL_isWhole_142 : decode cL_isWhole 142 = .ok (.iconst 0, 1) := by decide +kernel
theorem dL_isWhole_143 : decode cL_isWhole 143 = .ok (.invokestatic 313, 3) := by decide +kernel
theorem dL_isWhole_146 : decode cL_isWhole 146 = .ok (.ifCond .ne 7, 3) := by decide +kernel
theorem dL_isWhole_149 : decode cL_isWhole 149 = .ok (.iconst 1, 1) := by decide +kernel
theorem dL_isWhole_150 : decode cL_isWhole 150 = .ok (.goto 4, 3) := by decide +kernel
theorem dL_isWhole_153 : decode cL_isWhole 153 = .ok (.iconst 0, 1) := by decide +kernel
theorem dL_isWhole_154 : decode cL_isWhole 154 = .ok (.istore 9, 2) := by decide +kernel
theorem dL_isWhole_156 : decode cL_isWhole 156 = .ok (.iconst 0, 1) := by decide +kernel
theorem dL_isWhole_157 : decode cL_isWhole 157 = .ok (.istore 10, 2) := by decide +kernel
theorem dL_isWhole_159 : decode cL_isWhole 159 = .ok (.iload 10, 2) := by decide +kernel
theorem dL_isWhole_161 : decode cL_isWhole 161 = .ok (.aload_n 0, 1) := by decide +kernel
theorem dL_isWhole_162 : decode cL_isWhole 162 = .ok (.invokevirtual 298, 3) := by decide +kernel
theorem dL_isWhole_165 : decode cL_isWhole 165 = .ok (.if_icmp .ge 61, 3) := by decide +kernel
theorem dL_isWhole_168 : decode cL_isWhole 168 = .ok (.iload 9, 2) := by decide +kernel
theorem dL_isWhole_170 : decode cL_isWhole 170 = .ok (.aload_n 0, 1) := by decide +kernel
theorem dL_isWhole_171 : decode cL_isWhole 171 = .ok (.iload 10, 2) := by decide +kernel
theorem dL_isWhole_173 : decode cL_isWhole 173 = .ok (.invokestatic 303, 3) := by decide +kernel
theorem dL_isWhole_176 : decode cL_isWhole 176 = .ok (.ifCond .lt 40, 3) := by decide +kernel
theorem dL_isWhole_179 : decode cL_isWhole 179 = .ok (.aload_n 0, 1) := by decide +kernel
theorem dL_isWhole_180 : decode cL_isWhole 180 = .ok (.iload 10, 2) := by decide +kernel
theorem dL_isWhole_182 : decode cL_isWhole 182 = .ok (.invokestatic 303, 3) := by decide +kernel
theorem dL_isWhole_185 : decode cL_isWhole 185 = .ok (.bipush 100, 2) := by decide +kernel
theorem dL_isWhole_187 : decode cL_isWhole 187 = .ok (.if_icmp .gt 29, 3) := by decide +kernel
theorem dL_isWhole_190 : decode cL_isWhole 190 = .ok (.iload 10, 2) := by decide +kernel
theorem dL_isWhole_192 : decode cL_isWhole 192 = .ok (.ifCond .eq 20, 3) := by decide +kernel
theorem dL_isWhole_195 : decode cL_isWhole 195 = .ok (.aload_n 0, 1) := by decide +kernel
theorem dL_isWhole_196 : decode cL_isWhole 196 = .ok (.iload 10, 2) := by decide +kernel
theorem dL_isWhole_198 : decode cL_isWhole 198 = .ok (.iconst 1, 1) := by decide +kernel
theorem dL_isWhole_199 : decode cL_isWhole 199 = .ok (.isub, 1) := by decide +kernel
theorem dL_isWhole_200 : decode cL_isWhole 200 = .ok (.invokestatic 301, 3) := by decide +kernel
theorem dL_isWhole_203 : decode cL_isWhole 203 = .ok (.aload_n 0, 1) := by decide +kernel
theorem dL_isWhole_204 : decode cL_isWhole 204 = .ok (.iload 10, 2) := by decide +kernel
theorem dL_isWhole_206 : decode cL_isWhole 206 = .ok (.invokestatic 301, 3) := by decide +kernel
theorem dL_isWhole_209 : decode cL_isWhole 209 = .ok (.if_icmp .ge 7, 3) := by decide +kernel
theorem dL_isWhole_212 : decode cL_isWhole 212 = .ok (.iconst 1, 1) := by decide +kernel
theorem dL_isWhole_213 : decode cL_isWhole 213 = .ok (.goto 4, 3) := by decide +kernel
theorem dL_isWhole_216 : decode cL_isWhole 216 = .ok (.iconst 0, 1) := by decide +kernel
theorem dL_isWhole_217 : decode cL_isWhole 217 = .ok (.iand, 1) := by decide +kernel
theorem dL_isWhole_218 : decode cL_isWhole 218 = .ok (.istore 9, 2) := by decide +kernel
theorem dL_isWhole_220 : decode cL_isWhole 220 = .ok (.iinc 10 1, 3) := by decide +kernel
theorem dL_isWhole_223 : decode cL_isWhole 223 = .ok (.goto (-64), 3) := by decide +kernel
theorem dL_isWhole_226 : decode cL_isWhole 226 = .ok (.aload_n 0, 1) := by decide +kernel
theorem dL_isWhole_227 : decode cL_isWhole 227 = .ok (.invokevirtual 204, 3) := by decide +kernel
theorem dL_isWhole_230 : decode cL_isWhole 230 = .ok (.ifCond .lt 63, 3) := by decide +kernel
theorem dL_isWhole_233 : decode cL_isWhole 233 = .ok (.aload_n 0, 1) := by decide +kernel
theorem dL_isWhole_234 : decode cL_isWhole 234 = .ok (.invokevirtual 204, 3) := by decide +kernel
theorem dL_isWhole_237 : decode cL_isWhole 237 = .ok (.sipush 9999, 3) := by decide +kernel
theorem dL_isWhole_240 : decode cL_isWhole 240 = .ok (.if_icmp .gt 53, 3) := by decide +kernel
theorem dL_isWhole_243 : decode cL_isWhole 243 = .ok (.aload_n 0, 1) := by decide +kernel
theorem dL_isWhole_244 : decode cL_isWhole 244 = .ok (.invokevirtual 329, 3) := by decide +kernel
theorem dL_isWhole_247 : decode cL_isWhole 247 = .ok (.aload_n 0, 1) := by decide +kernel
theorem dL_isWhole_248 : decode cL_isWhole 248 = .ok (.invokevirtual 204, 3) := by decide +kernel
theorem dL_isWhole_251 : decode cL_isWhole 251 = .ok (.if_icmp .gt 7, 3) := by decide +kernel
theorem dL_isWhole_254 : decode cL_isWhole 254 = .ok (.iconst 1, 1) := by decide +kernel
theorem dL_isWhole_255 : decode cL_isWhole 255 = .ok (.goto 4, 3) := by decide +kernel
theorem dL_isWhole_258 : decode cL_isWhole 258 = .ok (.iconst 0, 1) := by decide +kernel
theorem dL_isWhole_259 : decode cL_isWhole 259 = .ok (.aload_n 0, 1) := by decide +kernel
theorem dL_isWhole_260 : decode cL_isWhole 260 = .ok (.invokevirtual 212, 3) := by decide +kernel
theorem dL_isWhole_263 : decode cL_isWhole 263 = .ok (.aload_n 0, 1) := by decide +kernel
theorem dL_isWhole_264 : decode cL_isWhole 264 = .ok (.invokevirtual 192, 3) := by decide +kernel
theorem dL_isWhole_267 : decode cL_isWhole 267 = .ok (.if_icmp .ne 7, 3) := by decide +kernel
theorem dL_isWhole_270 : decode cL_isWhole 270 = .ok (.iconst 1, 1) := by decide +kernel
theorem dL_isWhole_271 : decode cL_isWhole 271 = .ok (.goto 4, 3) := by decide +kernel
theorem dL_isWhole_274 : decode cL_isWhole 274 = .ok (.iconst 0, 1) := by decide +kernel
theorem dL_isWhole_275 : decode cL_isWhole 275 = .ok (.if_icmp .ne 18, 3) := by decide +kernel
theorem dL_isWhole_278 : decode cL_isWhole 278 = .ok (.aload_n 0, 1) := by decide +kernel
theorem dL_isWhole_279 : decode cL_isWhole 279 = .ok (.invokevirtual 212, 3) := by decide +kernel
theorem dL_isWhole_282 : decode cL_isWhole 282 = .ok (.aload_n 0, 1) := by decide +kernel
theorem dL_isWhole_283 : decode cL_isWhole 283 = .ok (.invokevirtual 192, 3) := by decide +kernel
theorem dL_isWhole_286 : decode cL_isWhole 286 = .ok (.if_icmp .gt 7, 3) := by decide +kernel
theorem dL_isWhole_289 : decode cL_isWhole 289 = .ok (.iconst 1, 1) := by decide +kernel
theorem dL_isWhole_290 : decode cL_isWhole 290 = .ok (.goto 4, 3) := by decide +kernel
theorem dL_isWhole_293 : decode cL_isWhole 293 = .ok (.iconst 0, 1) := by decide +kernel
theorem dL_isWhole_294 : decode cL_isWhole 294 = .ok (.istore 10, 2) := by decide +kernel
theorem dL_isWhole_296 : decode cL_isWhole 296 = .ok (.iconst 0, 1) := by decide +kernel
theorem dL_isWhole_297 : decode cL_isWhole 297 = .ok (.istore 11, 2) := by decide +kernel
theorem dL_isWhole_299 : decode cL_isWhole 299 = .ok (.iload 11, 2) := by decide +kernel
theorem dL_isWhole_301 : decode cL_isWhole 301 = .ok (.aload_n 0, 1) := by decide +kernel
theorem dL_isWhole_302 : decode cL_isWhole 302 = .ok (.invokevirtual 209, 3) := by decide +kernel
theorem dL_isWhole_305 : decode cL_isWhole 305 = .ok (.if_icmp .ge 88, 3) := by decide +kernel
theorem dL_isWhole_308 : decode cL_isWhole 308 = .ok (.iconst 0, 1) := by decide +kernel
theorem dL_isWhole_309 : decode cL_isWhole 309 = .ok (.istore 12, 2) := by decide +kernel
theorem dL_isWhole_311 : decode cL_isWhole 311 = .ok (.iload 12, 2) := by decide +kernel
theorem dL_isWhole_313 : decode cL_isWhole 313 = .ok (.iload 11, 2) := by decide +kernel
theorem dL_isWhole_315 : decode cL_isWhole 315 = .ok (.if_icmp .ge 34, 3) := by decide +kernel
theorem dL_isWhole_318 : decode cL_isWhole 318 = .ok (.iload 10, 2) := by decide +kernel
theorem dL_isWhole_320 : decode cL_isWhole 320 = .ok (.aload_n 0, 1) := by decide +kernel
theorem dL_isWhole_321 : decode cL_isWhole 321 = .ok (.iload 11, 2) := by decide +kernel
theorem dL_isWhole_323 : decode cL_isWhole 323 = .ok (.invokestatic 207, 3) := by decide +kernel
theorem dL_isWhole_326 : decode cL_isWhole 326 = .ok (.aload_n 0, 1) := by decide +kernel
theorem dL_isWhole_327 : decode cL_isWhole 327 = .ok (.iload 12, 2) := by decide +kernel
theorem dL_isWhole_329 : decode cL_isWhole 329 = .ok (.invokestatic 207, 3) := by decide +kernel
theorem dL_isWhole_332 : decode cL_isWhole 332 = .ok (.if_icmp .eq 7, 3) := by decide +kernel
theorem dL_isWhole_335 : decode cL_isWhole 335 = .ok (.iconst 1, 1) := by decide +kernel
theorem dL_isWhole_336 : decode cL_isWhole 336 = .ok (.goto 4, 3) := by decide +kernel
theorem dL_isWhole_339 : decode cL_isWhole 339 = .ok (.iconst 0, 1) := by decide +kernel
theorem dL_isWhole_340 : decode cL_isWhole 340 = .ok (.iand, 1) := by decide +kernel
theorem dL_isWhole_341 : decode cL_isWhole 341 = .ok (.istore 10, 2) := by decide +kernel
theorem dL_isWhole_343 : decode cL_isWhole 343 = .ok (.iinc 12 1, 3) := by decide +kernel
theorem dL_isWhole_346 : decode cL_isWhole 346 = .ok (.goto (-35), 3) := by decide +kernel
theorem dL_isWhole_349 : decode cL_isWhole 349 = .ok (.iload 10, 2) := by decide +kernel
theorem dL_isWhole_351 : decode cL_isWhole 351 = .ok (.aload_n 0, 1) := by decide +kernel
theorem dL_isWhole_352 : decode cL_isWhole 352 = .ok (.aload_n 0, 1) := by decide +kernel
theorem dL_isWhole_353 : decode cL_isWhole 353 = .ok (.iload 11, 2) := by decide +kernel
theorem dL_isWhole_355 : decode cL_isWhole 355 = .ok (.invokestatic 207, 3) := by decide +kernel
theorem dL_isWhole_358 : decode cL_isWhole 358 = .ok (.invokestatic 222, 3) := by decide +kernel
theorem dL_isWhole_361 : decode cL_isWhole 361 = .ok (.ifCond .le 22, 3) := by decide +kernel
theorem dL_isWhole_364 : decode cL_isWhole 364 = .ok (.aload_n 0, 1) := by decide +kernel
theorem dL_isWhole_365 : decode cL_isWhole 365 = .ok (.aload_n 0, 1) := by decide +kernel
theorem dL_isWhole_366 : decode cL_isWhole 366 = .ok (.iload 11, 2) := by decide +kernel
theorem dL_isWhole_368 : decode cL_isWhole 368 = .ok (.invokestatic 207, 3) := by decide +kernel
theorem dL_isWhole_371 : decode cL_isWhole 371 = .ok (.invokestatic 285, 3) := by decide +kernel
theorem dL_isWhole_374 : decode cL_isWhole 374 = .ok (.bipush (-79), 2) := by decide +kernel
theorem dL_isWhole_376 : decode cL_isWhole 376 = .ok (.if_icmp .ne 7, 3) := by decide +kernel
theorem dL_isWhole_379 : decode cL_isWhole 379 = .ok (.iconst 1, 1) := by decide +kernel
theorem dL_isWhole_380 : decode cL_isWhole 380 = .ok (.goto 4, 3) := by decide +kernel
theorem dL_isWhole_383 : decode cL_isWhole 383 = .ok (.iconst 0, 1) := by decide +kernel
theorem dL_isWhole_384 : decode cL_isWhole 384 = .ok (.iand, 1) := by decide +kernel
theorem dL_isWhole_385 : decode cL_isWhole 385 = .ok (.istore 10, 2) := by decide +kernel
theorem dL_isWhole_387 : decode cL_isWhole 387 = .ok (.iinc 11 1, 3) := by decide +kernel
theorem dL_isWhole_390 : decode cL_isWhole 390 = .ok (.goto (-91), 3) := by decide +kernel
theorem dL_isWhole_393 : decode cL_isWhole 393 = .ok (.aload_n 0, 1) := by decide +kernel
theorem dL_isWhole_394 : decode cL_isWhole 394 = .ok (.aload_n 1, 1) := by decide +kernel
theorem dL_isWhole_395 : decode cL_isWhole 395 = .ok (.iload_n 2, 1) := by decide +kernel
theorem dL_isWhole_396 : decode cL_isWhole 396 = .ok (.iconst 3, 1) := by decide +kernel
theorem dL_isWhole_397 : decode cL_isWhole 397 = .ok (.iadd, 1) := by decide +kernel
theorem dL_isWhole_398 : decode cL_isWhole 398 = .ok (.bipush 24, 2) := by decide +kernel
theorem dL_isWhole_400 : decode cL_isWhole 400 = .ok (.invokestatic 188, 3) := by decide +kernel
theorem dL_isWhole_403 : decode cL_isWhole 403 = .ok (.invokestatic 346, 3) := by decide +kernel
theorem dL_isWhole_406 : decode cL_isWhole 406 = .ok (.istore 11, 2) := by decide +kernel
theorem dL_isWhole_408 : decode cL_isWhole 408 = .ok (.iload 11, 2) := by decide +kernel
theorem dL_isWhole_410 : decode cL_isWhole 410 = .ok (.bipush (-75), 2) := by decide +kernel
theorem dL_isWhole_412 : decode cL_isWhole 412 = .ok (.if_icmp .eq 14, 3) := by decide +kernel
theorem dL_isWhole_415 : decode cL_isWhole 415 = .ok (.aload_n 0, 1) := by decide +kernel
theorem dL_isWhole_416 : decode cL_isWhole 416 = .ok (.iload 11, 2) := by decide +kernel
theorem dL_isWhole_418 : decode cL_isWhole 418 = .ok (.invokestatic 309, 3) := by decide +kernel
theorem dL_isWhole_421 : decode cL_isWhole 421 = .ok (.bipush (-75), 2) := by decide +kernel
theorem dL_isWhole_423 : decode cL_isWhole 423 = .ok (.if_icmp .ne 7, 3) := by decide +kernel
theorem dL_isWhole_426 : decode cL_isWhole 426 = .ok (.iconst 1, 1) := by decide +kernel
theorem dL_isWhole_427 : decode cL_isWhole 427 = .ok (.goto 4, 3) := by decide +kernel
theorem dL_isWhole_430 : decode cL_isWhole 430 = .ok (.iconst 0, 1) := by decide +kernel
theorem dL_isWhole_431 : decode cL_isWhole 431 = .ok (.istore 12, 2) := by decide +kernel
theorem dL_isWhole_433 : decode cL_isWhole 433 = .ok (.iload 5, 2) := by decide +kernel
theorem dL_isWhole_435 : decode cL_isWhole 435 = .ok (.ifCond .eq 55, 3) := by decide +kernel
theorem dL_isWhole_438 : decode cL_isWhole 438 = .ok (.iload 9, 2) := by decide +kernel
theorem dL_isWhole_440 : decode cL_isWhole 440 = .ok (.ifCond .eq 50, 3) := by decide +kernel
theorem dL_isWhole_443 : decode cL_isWhole 443 = .ok (.iload 10, 2) := by decide +kernel
theorem dL_isWhole_445 : decode cL_isWhole 445 = .ok (.ifCond .eq 45, 3) := by decide +kernel
theorem dL_isWhole_448 : decode cL_isWhole 448 = .ok (.iload 12, 2) := by decide +kernel
theorem dL_isWhole_450 : decode cL_isWhole 450 = .ok (.ifCond .eq 40, 3) := by decide +kernel
theorem dL_isWhole_453 : decode cL_isWhole 453 = .ok (.iload_n 3, 1) := by decide +kernel
theorem dL_isWhole_454 : decode cL_isWhole 454 = .ok (.ifCond .eq 32, 3) := by decide +kernel
theorem dL_isWhole_457 : decode cL_isWhole 457 = .ok (.aload_n 0, 1) := by decide +kernel
theorem dL_isWhole_458 : decode cL_isWhole 458 = .ok (.invokestatic 348, 3) := by decide +kernel
theorem dL_isWhole_461 : decode cL_isWhole 461 = .ok (.ifCond .eq 29, 3) := by decide +kernel
theorem dL_isWhole_464 : decode cL_isWhole 464 = .ok (.aload_n 0, 1) := by decide +kernel
theorem dL_isWhole_465 : decode cL_isWhole 465 = .ok (.iload 6, 2) := by decide +kernel
theorem dL_isWhole_467 : decode cL_isWhole 467 = .ok (.invokestatic 315, 3) := by decide +kernel
theorem dL_isWhole_470 : decode cL_isWhole 470 = .ok (.aload_n 0, 1) := by decide +kernel
theorem dL_isWhole_471 : decode cL_isWhole 471 = .ok (.iload 6, 2) := by decide +kernel
theorem dL_isWhole_473 : decode cL_isWhole 473 = .ok (.invokestatic 313, 3) := by decide +kernel
theorem dL_isWhole_476 : decode cL_isWhole 476 = .ok (.if_icmp .ne 14, 3) := by decide +kernel
theorem dL_isWhole_479 : decode cL_isWhole 479 = .ok (.aload_n 0, 1) := by decide +kernel
theorem dL_isWhole_480 : decode cL_isWhole 480 = .ok (.invokevirtual 352, 3) := by decide +kernel
theorem dL_isWhole_483 : decode cL_isWhole 483 = .ok (.ifCond .eq 7, 3) := by decide +kernel
theorem dL_isWhole_486 : decode cL_isWhole 486 = .ok (.iconst 1, 1) := by decide +kernel
theorem dL_isWhole_487 : decode cL_isWhole 487 = .ok (.goto 4, 3) := by decide +kernel
theorem dL_isWhole_490 : decode cL_isWhole 490 = .ok (.iconst 0, 1) := by decide +kernel
theorem dL_isWhole_491 : decode cL_isWhole 491 = .ok (.ireturn, 1) := by decide +kernel
theorem dL_isKept_0 : decode cL_isKept 0 = .ok (.aload_n 0, 1) := by decide +kernel
theorem dL_isKept_1 : decode cL_isKept 1 = .ok (.invokevirtual 356, 3) := by decide +kernel
theorem dL_isKept_4 : decode cL_isKept 4 = .ok (.istore_n 3, 1) := by decide +kernel
theorem dL_isKept_5 : decode cL_isKept 5 = .ok (.bipush 8, 2) := by decide +kernel
theorem dL_isKept_7 : decode cL_isKept 7 = .ok (.iload_n 2, 1) := by decide +kernel
theorem dL_isKept_8 : decode cL_isKept 8 = .ok (.invokestatic 341, 3) := by decide +kernel
theorem dL_isKept_11 : decode cL_isKept 11 = .ok (.istore 4, 2) := by decide +kernel
theorem dL_isKept_13 : decode cL_isKept 13 = .ok (.aload_n 0, 1) := by decide +kernel
theorem dL_isKept_14 : decode cL_isKept 14 = .ok (.invokevirtual 185, 3) := by decide +kernel
theorem dL_isKept_17 : decode cL_isKept 17 = .ok (.iload 4, 2) := by decide +kernel
theorem dL_isKept_19 : decode cL_isKept 19 = .ok (.if_icmp .eq 5, 3) := by decide +kernel
theorem dL_isKept_22 : decode cL_isKept 22 = .ok (.iconst 0, 1) := by decide +kernel
theorem dL_isKept_23 : decode cL_isKept 23 = .ok (.ireturn, 1) := by decide +kernel
theorem dL_isKept_24 : decode cL_isKept 24 = .ok (.iload_n 2, 1) := by decide +kernel
theorem dL_isKept_25 : decode cL_isKept 25 = .ok (.iconst 1, 1) := by decide +kernel
theorem dL_isKept_26 : decode cL_isKept 26 = .ok (.isub, 1) := by decide +kernel
theorem dL_isKept_27 : decode cL_isKept 27 = .ok (.istore 5, 2) := by decide +kernel
theorem dL_isKept_29 : decode cL_isKept 29 = .ok (.iload 4, 2) := by decide +kernel
theorem dL_isKept_31 : decode cL_isKept 31 = .ok (.ifCond .le 35, 3) := by decide +kernel
theorem dL_isKept_34 : decode cL_isKept 34 = .ok (.iinc 4 (-1), 3) := by decide +kernel
theorem dL_isKept_37 : decode cL_isKept 37 = .ok (.aload_n 0, 1) := by decide +kernel
theorem dL_isKept_38 : decode cL_isKept 38 = .ok (.invokestatic 359, 3) := by decide +kernel
theorem dL_isKept_41 : decode cL_isKept 41 = .ok (.iload 4, 2) := by decide +kernel
theorem dL_isKept_43 : decode cL_isKept 43 = .ok (.if_icmp .ne 15, 3) := by decide +kernel
theorem dL_isKept_46 : decode cL_isKept 46 = .ok (.aload_n 0, 1) := by decide +kernel
theorem dL_isKept_47 : decode cL_isKept 47 = .ok (.invokestatic 181, 3) := by decide +kernel
theorem dL_isKept_50 : decode cL_isKept 50 = .ok (.aload_n 1, 1) := by decide +kernel
theorem dL_isKept_51 : decode cL_isKept 51 = .ok (.iload 5, 2) := by decide +kernel
theorem dL_isKept_53 : decode cL_isKept 53 = .ok (.laload, 1) := by decide +kernel
theorem dL_isKept_54 : decode cL_isKept 54 = .ok (.lcmp, 1) := by decide +kernel
theorem dL_isKept_55 : decode cL_isKept 55 = .ok (.ifCond .eq 5, 3) := by decide +kernel
theorem dL_isKept_58 : decode cL_isKept 58 = .ok (.iconst 0, 1) := by decide +kernel
theorem dL_isKept_59 : decode cL_isKept 59 = .ok (.ireturn, 1) := by decide +kernel
theorem dL_isKept_60 : decode cL_isKept 60 = .ok (.iinc 5 (-1), 3) := by decide +kernel
theorem dL_isKept_63 : decode cL_isKept 63 = .ok (.goto (-34), 3) := by decide +kernel
theorem dL_isKept_66 : decode cL_isKept 66 = .ok (.aload_n 0, 1) := by decide +kernel
theorem dL_isKept_67 : decode cL_isKept 67 = .ok (.invokestatic 359, 3) := by decide +kernel
theorem dL_isKept_70 : decode cL_isKept 70 = .ok (.bipush (-79), 2) := by decide +kernel
theorem dL_isKept_72 : decode cL_isKept 72 = .ok (.if_icmp .ne 35, 3) := by decide +kernel
theorem dL_isKept_75 : decode cL_isKept 75 = .ok (.aload_n 0, 1) := by decide +kernel
theorem dL_isKept_76 : decode cL_isKept 76 = .ok (.invokestatic 361, 3) := by decide +kernel
theorem dL_isKept_79 : decode cL_isKept 79 = .ok (.iload_n 3, 1) := by decide +kernel
theorem dL_isKept_80 : decode cL_isKept 80 = .ok (.if_icmp .ne 27, 3) := by decide +kernel
theorem dL_isKept_83 : decode cL_isKept 83 = .ok (.aload_n 0, 1) := by decide +kernel
theorem dL_isKept_84 : decode cL_isKept 84 = .ok (.invokestatic 181, 3) := by decide +kernel
theorem dL_isKept_87 : decode cL_isKept 87 = .ok (.aload_n 1, 1) := by decide +kernel
theorem dL_isKept_88 : decode cL_isKept 88 = .ok (.iload_n 2, 1) := by decide +kernel
theorem dL_isKept_89 : decode cL_isKept 89 = .ok (.laload, 1) := by decide +kernel
theorem dL_isKept_90 : decode cL_isKept 90 = .ok (.lcmp, 1) := by decide +kernel
theorem dL_isKept_91 : decode cL_isKept 91 = .ok (.ifCond .ne 16, 3) := by decide +kernel
theorem dL_isKept_94 : decode cL_isKept 94 = .ok (.aload_n 0, 1) := by decide +kernel
theorem dL_isKept_95 : decode cL_isKept 95 = .ok (.invokestatic 359, 3) := by decide +kernel
theorem dL_isKept_98 : decode cL_isKept 98 = .ok (.bipush (-79), 2) := by decide +kernel
theorem dL_isKept_100 : decode cL_isKept 100 = .ok (.if_icmp .ne 7, 3) := by decide +kernel
theorem dL_isKept_103 : decode cL_isKept 103 = .ok (.iconst 1, 1) := by decide +kernel
theorem dL_isKept_104 : decode cL_isKept 104 = .ok (.goto 4, 3) := by decide +kernel
theorem dL_isKept_107 : decode cL_isKept 107 = .ok (.iconst 0, 1) := by decide +kernel
theorem dL_isKept_108 : decode cL_isKept 108 = .ok (.ireturn, 1) := by decide +kernel
