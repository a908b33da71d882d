theorem dL_addLot_0 : decode cL_addLot 0 = .ok (.aload 5, 2) := by decide +kernel
theorem dL_addLot_2 : decode cL_addLot 2 = .ok (.iconst 0, 1) := by decide +kernel
theorem dL_addLot_3 : decode cL_addLot 3 = .ok (.aload_n 0, 1) := by decide +kernel
theorem dL_addLot_4 : decode cL_addLot 4 = .ok (.iload_n 1, 1) := by decide +kernel
theorem dL_addLot_5 : decode cL_addLot 5 = .ok (.iload_n 2, 1) := by decide +kernel
theorem dL_addLot_6 : decode cL_addLot 6 = .ok (.iload_n 3, 1) := by decide +kernel
theorem dL_addLot_7 : decode cL_addLot 7 = .ok (.iload 4, 2) := by decide +kernel
theorem dL_addLot_9 : decode cL_addLot 9 = .ok (.invokevirtual 7, 3) := by decide +kernel
theorem dL_addLot_12 : decode cL_addLot 12 = .ok (.i2l, 1) := by decide +kernel
theorem dL_addLot_13 : decode cL_addLot 13 = .ok (.lastore, 1) := by decide +kernel
theorem dL_addLot_14 : decode cL_addLot 14 = .ok (.goto 19, 3) := by decide +kernel
theorem dL_addLot_17 : decode cL_addLot 17 = .ok (.astore 6, 2) := by decide +kernel
theorem dL_addLot_19 : decode cL_addLot 19 = .ok (.iconst 1, 1) := by decide +kernel
theorem dL_addLot_20 : decode cL_addLot 20 = .ok (.ireturn, 1) := by decide +kernel
theorem dL_addLot_21 : decode cL_addLot 21 = .ok (.astore 6, 2) := by decide +kernel
theorem dL_addLot_23 : decode cL_addLot 23 = .ok (.iconst 2, 1) := by decide +kernel
theorem dL_addLot_24 : decode cL_addLot 24 = .ok (.ireturn, 1) := by decide +kernel
theorem dL_addLot_25 : decode cL_addLot 25 = .ok (.astore 6, 2) := by decide +kernel
theorem dL_addLot_27 : decode cL_addLot 27 = .ok (.iconst 3, 1) := by decide +kernel
theorem dL_addLot_28 : decode cL_addLot 28 = .ok (.ireturn, 1) := by decide +kernel
theorem dL_addLot_29 : decode cL_addLot 29 = .ok (.astore 6, 2) := by decide +kernel
theorem dL_addLot_31 : decode cL_addLot 31 = .ok (.iconst 4, 1) := by decide +kernel
theorem dL_addLot_32 : decode cL_addLot 32 = .ok (.ireturn, 1) := by decide +kernel
theorem dL_addLot_33 : decode cL_addLot 33 = .ok (.iconst 0, 1) := by decide +kernel
theorem dL_addLot_34 : decode cL_addLot 34 = .ok (.ireturn, 1) := by decide +kernel
theorem dL_seal_0 : decode cL_seal 0 = .ok (.aload_n 2, 1) := by decide +kernel
theorem dL_seal_1 : decode cL_seal 1 = .ok (.iconst 0, 1) := by decide +kernel
theorem dL_seal_2 : decode cL_seal 2 = .ok (.aload_n 0, 1) := by decide +kernel
theorem dL_seal_3 : decode cL_seal 3 = .ok (.iload_n 1, 1) := by decide +kernel
theorem dL_seal_4 : decode cL_seal 4 = .ok (.invokevirtual 21, 3) := by decide +kernel
theorem dL_seal_7 : decode cL_seal 7 = .ok (.i2l, 1) := by decide +kernel
theorem dL_seal_8 : decode cL_seal 8 = .ok (.lastore, 1) := by decide +kernel
theorem dL_seal_9 : decode cL_seal 9 = .ok (.goto 12, 3) := by decide +kernel
theorem dL_seal_12 : decode cL_seal 12 = .ok (.astore_n 3, 1) := by decide +kernel
theorem dL_seal_13 : decode cL_seal 13 = .ok (.iconst 1, 1) := by decide +kernel
theorem dL_seal_14 : decode cL_seal 14 = .ok (.ireturn, 1) := by decide +kernel
theorem dL_seal_15 : decode cL_seal 15 = .ok (.astore_n 3, 1) := by decide +kernel
theorem dL_seal_16 : decode cL_seal 16 = .ok (.iconst 2, 1) := by decide +kernel
theorem dL_seal_17 : decode cL_seal 17 = .ok (.ireturn, 1) := by decide +kernel
theorem dL_seal_18 : decode cL_seal 18 = .ok (.astore_n 3, 1) := by decide +kernel
theorem dL_seal_19 : decode cL_seal 19 = .ok (.iconst 3, 1) := by decide +kernel
theorem dL_seal_20 : decode cL_seal 20 = .ok (.ireturn, 1) := by decide +kernel
theorem dL_seal_21 : decode cL_seal 21 = .ok (.iconst 0, 1) := by decide +kernel
theorem dL_seal_22 : decode cL_seal 22 = .ok (.ireturn, 1) := by decide +kernel
theorem dL_open_0 : decode cL_open 0 = .ok (.aload_n 2, 1) := by decide +kernel
theorem dL_open_1 : decode cL_open 1 = .ok (.iconst 0, 1) := by decide +kernel
theorem dL_open_2 : decode cL_open 2 = .ok (.aload_n 0, 1) := by decide +kernel
theorem dL_open_3 : decode cL_open 3 = .ok (.iload_n 1, 1) := by decide +kernel
theorem dL_open_4 : decode cL_open 4 = .ok (.invokevirtual 27, 3) := by decide +kernel
theorem dL_open_7 : decode cL_open 7 = .ok (.i2l, 1) := by decide +kernel
theorem dL_open_8 : decode cL_open 8 = .ok (.lastore, 1) := by decide +kernel
theorem dL_open_9 : decode cL_open 9 = .ok (.goto 9, 3) := by decide +kernel
theorem dL_open_12 : decode cL_open 12 = .ok (.astore_n 3, 1) := by decide +kernel
theorem dL_open_13 : decode cL_open 13 = .ok (.iconst 1, 1) := by decide +kernel
theorem dL_open_14 : decode cL_open 14 = .ok (.ireturn, 1) := by decide +kernel
theorem dL_open_15 : decode cL_open 15 = .ok (.astore_n 3, 1) := by decide +kernel
theorem dL_open_16 : decode cL_open 16 = .ok (.iconst 2, 1) := by decide +kernel
theorem dL_open_17 : decode cL_open 17 = .ok (.ireturn, 1) := by decide +kernel
theorem dL_open_18 : decode cL_open 18 = .ok (.iconst 0, 1) := by decide +kernel
theorem dL_open_19 : decode cL_open 19 = .ok (.ireturn, 1) := by decide +kernel
theorem dL_wet_0 : decode cL_wet 0 = .ok (.aload_n 2, 1) := by decide +kernel
theorem dL_wet_1 : decode cL_wet 1 = .ok (.iconst 0, 1) := by decide +kernel
theorem dL_wet_2 : decode cL_wet 2 = .ok (.aload_n 0, 1) := by decide +kernel
theorem dL_wet_3 : decode cL_wet 3 = .ok (.iload_n 1, 1) := by decide +kernel
theorem dL_wet_4 : decode cL_wet 4 = .ok (.invokevirtual 30, 3) := by decide +kernel
theorem dL_wet_7 : decode cL_wet 7 = .ok (.i2l, 1) := by decide +kernel
theorem dL_wet_8 : decode cL_wet 8 = .ok (.lastore, 1) := by decide +kernel
theorem dL_wet_9 : decode cL_wet 9 = .ok (.goto 9, 3) := by decide +kernel
theorem dL_wet_12 : decode cL_wet 12 = .ok (.astore_n 3, 1) := by decide +kernel
theorem dL_wet_13 : decode cL_wet 13 = .ok (.iconst 1, 1) := by decide +kernel
theorem dL_wet_14 : decode cL_wet 14 = .ok (.ireturn, 1) := by decide +kernel
theorem dL_wet_15 : decode cL_wet 15 = .ok (.astore_n 3, 1) := by decide +kernel
theorem dL_wet_16 : decode cL_wet 16 = .ok (.iconst 2, 1) := by decide +kernel
theorem dL_wet_17 : decode cL_wet 17 = .ok (.ireturn, 1) := by decide +kernel
theorem dL_wet_18 : decode cL_wet 18 = .ok (.iconst 0, 1) := by decide +kernel
theorem dL_wet_19 : decode cL_wet 19 = .ok (.ireturn, 1) := by decide +kernel
theorem dL_move_0 : decode cL_move 0 = .ok (.aload_n 3, 1) := by decide +kernel
theorem dL_move_1 : decode cL_move 1 = .ok (.iconst 0, 1) := by decide +kernel
theorem dL_move_2 : decode cL_move 2 = .ok (.aload_n 0, 1) := by decide +kernel
theorem dL_move_3 : decode cL_move 3 = .ok (.iload_n 1, 1) := by decide +kernel
theorem dL_move_4 : decode cL_move 4 = .ok (.iload_n 2, 1) := by decide +kernel
theorem dL_move_5 : decode cL_move 5 = .ok (.invokevirtual 33, 3) := by decide +kernel
theorem dL_move_8 : decode cL_move 8 = .ok (.i2l, 1) := by decide +kernel
theorem dL_move_9 : decode cL_move 9 = .ok (.lastore, 1) := by decide +kernel
theorem dL_move_10 : decode cL_move 10 = .ok (.goto 15, 3) := by decide +kernel
theorem dL_move_13 : decode cL_move 13 = .ok (.astore 4, 2) := by decide +kernel
theorem dL_move_15 : decode cL_move 15 = .ok (.iconst 1, 1) := by decide +kernel
theorem dL_move_16 : decode cL_move 16 = .ok (.ireturn, 1) := by decide +kernel
theorem dL_move_17 : decode cL_move 17 = .ok (.astore 4, 2) := by decide +kernel
theorem dL_move_19 : decode cL_move 19 = .ok (.iconst 2, 1) := by decide +kernel
theorem dL_move_20 : decode cL_move 20 = .ok (.ireturn, 1) := by decide +kernel
theorem dL_move_21 : decode cL_move 21 = .ok (.astore 4, 2) := by decide +kernel
theorem dL_move_23 : decode cL_move 23 = .ok (.iconst 3, 1) := by decide +kernel
theorem dL_move_24 : decode cL_move 24 = .ok (.ireturn, 1) := by decide +kernel
theorem dL_move_25 : decode cL_move 25 = .ok (.iconst 0, 1) := by decide +kernel
theorem dL_move_26 : decode cL_move 26 = .ok (.ireturn, 1) := by decide +kernel
theorem dL_lot_0 : decode cL_lot 0 = .ok (.aload_n 2, 1) := by decide +kernel
theorem dL_lot_1 : decode cL_lot 1 = .ok (.iconst 0, 1) := by decide +kernel
theorem dL_lot_2 : decode cL_lot 2 = .ok (.aload_n 0, 1) := by decide +kernel
theorem dL_lot_3 : decode cL_lot 3 = .ok (.iload_n 1, 1) := by decide +kernel
theorem dL_lot_4 : decode cL_lot 4 = .ok (.invokevirtual 37, 3) := by decide +kernel
theorem dL_lot_7 : decode cL_lot 7 = .ok (.i2l, 1) := by decide +kernel
theorem dL_lot_8 : decode cL_lot 8 = .ok (.lastore, 1) := by decide +kernel
theorem dL_lot_9 : decode cL_lot 9 = .ok (.goto 6, 3) := by decide +kernel
theorem dL_lot_12 : decode cL_lot 12 = .ok (.astore_n 3, 1) := by decide +kernel
theorem dL_lot_13 : decode cL_lot 13 = .ok (.iconst 1, 1) := by decide +kernel
theorem dL_lot_14 : decode cL_lot 14 = .ok (.ireturn, 1) := by decide +kernel
theorem dL_lot_15 : decode cL_lot 15 = .ok (.iconst 0, 1) := by decide +kernel
theorem dL_lot_16 : decode cL_lot 16 = .ok (.ireturn, 1) := by decide +kernel
theorem dL_kind_0 : decode cL_kind 0 = .ok (.aload_n 2, 1) := by decide +kernel
theorem dL_kind_1 : decode cL_kind 1 = .ok (.iconst 0, 1) := by decide +kernel
theorem dL_kind_2 : decode cL_kind 2 = .ok (.aload_n 0, 1) := by decide +kernel
theorem dL_kind_3 : decode cL_kind 3 = .ok (.iload_n 1, 1) := by decide +kernel
theorem dL_kind_4 : decode cL_kind 4 = .ok (.invokevirtual 40, 3) := by decide +kernel
theorem dL_kind_7 : decode cL_kind 7 = .ok (.i2l, 1) := by decide +kernel
theorem dL_kind_8 : decode cL_kind 8 = .ok (.lastore, 1) := by decide +kernel
theorem dL_kind_9 : decode cL_kind 9 = .ok (.goto 6, 3) := by decide +kernel
theorem dL_kind_12 : decode cL_kind 12 = .ok (.astore_n 3, 1) := by decide +kernel
theorem dL_kind_13 : decode cL_kind 13 = .ok (.iconst 1, 1) := by decide +kernel
theorem dL_kind_14 : decode cL_kind 14 = .ok (.ireturn, 1) := by decide +kernel
theorem dL_kind_15 : decode cL_kind 15 = .ok (.iconst 0, 1) := by decide +kernel
theorem dL_kind_16 : decode cL_kind 16 = .ok (.ireturn, 1) := by decide +kernel
theorem dL_quantity_0 : decode cL_quantity 0 = .ok (.aload_n 2, 1) := by decide +kernel
theorem dL_quantity_1 : decode cL_quantity 1 = .ok (.iconst 0, 1) := by decide +kernel
theorem dL_quantity_2 : decode cL_quantity 2 = .ok (.aload_n 0, 1) := by decide +kernel
theorem dL_quantity_3 : decode cL_quantity 3 = .ok (.iload_n 1, 1) := by decide +kernel
theorem dL_quantity_4 : decode cL_quantity 4 = .ok (.invokevirtual 44, 3) := by decide +kernel
theorem dL_quantity_7 : decode cL_quantity 7 = .ok (.i2l, 1) := by decide +kernel
theorem dL_quantity_8 : decode cL_quantity 8 = .ok (.lastore, 1) := by decide +kernel
theorem dL_quantity_9 : decode cL_quantity 9 = .ok (.goto 6, 3) := by decide +kernel
theorem dL_quantity_12 : decode cL_quantity 12 = .ok (.astore_n 3, 1) := by decide +kernel
theorem dL_quantity_13 : decode cL_quantity 13 = .ok (.iconst 1, 1) := by decide +kernel
theorem dL_quantity_14 : decode cL_quantity 14 = .ok (.ireturn, 1) := by decide +kernel
theorem dL_quantity_15 : decode cL_quantity 15 = .ok (.iconst 0, 1) := by decide +kernel
theorem dL_quantity_16 : decode cL_quantity 16 = .ok (.ireturn, 1) := by decide +kernel
theorem dL_price_0 : decode cL_price 0 = .ok (.aload_n 2, 1) := by decide +kernel
theorem dL_price_1 : decode cL_price 1 = .ok (.iconst 0, 1) := by decide +kernel
theorem dL_price_2 : decode cL_price 2 = .ok (.aload_n 0, 1) := by decide +kernel
theorem dL_price_3 : decode cL_price 3 = .ok (.iload_n 1, 1) := by decide +kernel
theorem dL_price_4 : decode cL_price 4 = .ok (.invokevirtual 47, 3) := by decide +kernel
theorem dL_price_7 : decode cL_price 7 = .ok (.i2l, 1) := by decide +kernel
theorem dL_price_8 : decode cL_price 8 = .ok (.lastore, 1) := by decide +kernel
theorem dL_price_9 : decode cL_price 9 = .ok (.goto 6, 3) := by decide +kernel
theorem dL_price_12 : decode cL_price 12 = .ok (.astore_n 3, 1) := by decide +kernel
theorem dL_price_13 : decode cL_price 13 = .ok (.iconst 1, 1) := by decide +kernel
theorem dL_price_14 : decode cL_price 14 = .ok (.ireturn, 1) := by decide +kernel
theorem dL_price_15 : decode cL_price 15 = .ok (.iconst 0, 1) := by decide +kernel
theorem dL_price_16 : decode cL_price 16 = .ok (.ireturn, 1) := by decide +kernel
theorem dL_value_0 : decode cL_value 0 = .ok (.aload_n 2, 1) := by decide +kernel
theorem dL_value_1 : decode cL_value 1 = .ok (.iconst 0, 1) := by decide +kernel
theorem dL_value_2 : decode cL_value 2 = .ok (.aload_n 0, 1) := by decide +kernel
theorem dL_value_3 : decode cL_value 3 = .ok (.iload_n 1, 1) := by decide +kernel
theorem dL_value_4 : decode cL_value 4 = .ok (.invokevirtual 50, 3) := by decide +kernel
theorem dL_value_7 : decode cL_value 7 = .ok (.i2l, 1) := by decide +kernel
theorem dL_value_8 : decode cL_value 8 = .ok (.lastore, 1) := by decide +kernel
theorem dL_value_9 : decode cL_value 9 = .ok (.goto 6, 3) := by decide +kernel
theorem dL_value_12 : decode cL_value 12 = .ok (.astore_n 3, 1) := by decide +kernel
theorem dL_value_13 : decode cL_value 13 = .ok (.iconst 1, 1) := by decide +kernel
theorem dL_value_14 : decode cL_value 14 = .ok (.ireturn, 1) := by decide +kernel
theorem dL_value_15 : decode cL_value 15 = .ok (.iconst 0, 1) := by decide +kernel
theorem dL_value_16 : decode cL_value 16 = .ok (.ireturn, 1) := by decide +kernel
theorem dL_bay_0 : decode cL_bay 0 = .ok (.aload_n 2, 1) := by decide +kernel
theorem dL_bay_1 : decode cL_bay 1 = .ok (.iconst 0, 1) := by decide +kernel
theorem dL_bay_2 : decode cL_bay 2 = .ok (.aload_n 0, 1) := by decide +kernel
theorem dL_bay_3 : decode cL_bay 3 = .ok (.iload_n 1, 1) := by decide +kernel
theorem dL_bay_4 : decode cL_bay 4 = .ok (.invokevirtual 53, 3) := by decide +kernel
theorem dL_bay_7 : decode cL_bay 7 = .ok (.i2l, 1) := by decide +kernel
theorem dL_bay_8 : decode cL_bay 8 = .ok (.lastore, 1) := by decide +kernel
theorem dL_bay_9 : decode cL_bay 9 = .ok (.goto 6, 3) := by decide +kernel
theorem dL_bay_12 : decode cL_bay 12 = .ok (.astore_n 3, 1) := by decide +kernel
theorem dL_bay_13 : decode cL_bay 13 = .ok (.iconst 1, 1) := by decide +kernel
theorem dL_bay_14 : decode cL_bay 14 = .ok (.ireturn, 1) := by decide +kernel
theorem dL_bay_15 : decode cL_bay 15 = .ok (.iconst 0, 1) := by decide +kernel
theorem dL_bay_16 : decode cL_bay 16 = .ok (.ireturn, 1) := by decide +kernel
theorem dL_isSealed_0 : decode cL_isSealed 0 = .ok (.aload_n 2, 1) := by decide +kernel
theorem dL_isSealed_1 : decode cL_isSealed 1 = .ok (.iconst 0, 1) := by decide +kernel
theorem dL_isSealed_2 : decode cL_isSealed 2 = .ok (.aload_n 0, 1) := by decide +kernel
theorem dL_isSealed_3 : decode cL_isSealed 3 = .ok (.iload_n 1, 1) := by decide +kernel
theorem dL_isSealed_4 : decode cL_isSealed 4 = .ok (.invokevirtual 56, 3) := by decide +kernel
theorem dL_isSealed_7 : decode cL_isSealed 7 = .ok (.ifCond .eq 7, 3) := by decide +kernel
theorem dL_isSealed_10 : decode cL_isSealed 10 = .ok (.lconst 1, 1) := by decide +kernel
theorem dL_isSealed_11 : decode cL_isSealed 11 = .ok (.goto 4, 3) := by decide +kernel
theorem dL_isSealed_14 : decode cL_isSealed 14 = .ok (.lconst 0, 1) := by decide +kernel
theorem dL_isSealed_15 : decode cL_isSealed 15 = .ok (.lastore, 1) := by decide +kernel
theorem dL_isSealed_16 : decode cL_isSealed 16 = .ok (.goto 6, 3) := by decide +kernel
theorem dL_isSealed_19 : decode cL_isSealed 19 = .ok (.astore_n 3, 1) := by decide +kernel
theorem dL_isSealed_20 : decode cL_isSealed 20 = .ok (.iconst 1, 1) := by decide +kernel
theorem dL_isSealed_21 : decode cL_isSealed 21 = .ok (.ireturn, 1) := by decide +kernel
theorem dL_isSealed_22 : decode cL_isSealed 22 = .ok (.iconst 0, 1) := by decide +kernel
theorem dL_isSealed_23 : decode cL_isSealed 23 = .ok (.ireturn, 1) := by decide +kernel
theorem dL_isDamp_0 : decode cL_isDamp 0 = .ok (.aload_n 2, 1) := by decide +kernel
theorem dL_isDamp_1 : decode cL_isDamp 1 = .ok (.iconst 0, 1) := by decide +kernel
theorem dL_isDamp_2 : decode cL_isDamp 2 = .ok (.aload_n 0, 1) := by decide +kernel
theorem dL_isDamp_3 : decode cL_isDamp 3 = .ok (.iload_n 1, 1) := by decide +kernel
theorem dL_isDamp_4 : decode cL_isDamp 4 = .ok (.invokevirtual 60, 3) := by decide +kernel
theorem dL_isDamp_7 : decode cL_isDamp 7 = .ok (.ifCond .eq 7, 3) := by decide +kernel
theorem dL_isDamp_10 : decode cL_isDamp 10 = .ok (.lconst 1, 1) := by decide +kernel
theorem dL_isDamp_11 : decode cL_isDamp 11 = .ok (.goto 4, 3) := by decide +kernel
theorem dL_isDamp_14 : decode cL_isDamp 14 = .ok (.lconst 0, 1) := by decide +kernel
theorem dL_isDamp_15 : decode cL_isDamp 15 = .ok (.lastore, 1) := by decide +kernel
theorem dL_isDamp_16 : decode cL_isDamp 16 = .ok (.goto 6, 3) := by decide +kernel
theorem dL_isDamp_19 : decode cL_isDamp 19 = .ok (.astore_n 3, 1) := by decide +kernel
theorem dL_isDamp_20 : decode cL_isDamp 20 = .ok (.iconst 1, 1) := by decide +kernel
theorem dL_isDamp_21 : decode cL_isDamp 21 = .ok (.ireturn, 1) := by decide +kernel
theorem dL_isDamp_22 : decode cL_isDamp 22 = .ok (.iconst 0, 1) := by decide +kernel
theorem dL_isDamp_23 : decode cL_isDamp 23 = .ok (.ireturn, 1) := by decide +kernel
theorem dL_lotAt_0 : decode cL_lotAt 0 = .ok (.aload_n 2, 1) := by decide +kernel
theorem dL_lotAt_1 : decode cL_lotAt 1 = .ok (.iconst 0, 1) := by decide +kernel
theorem dL_lotAt_2 : decode cL_lotAt 2 = .ok (.aload_n 0, 1) := by decide +kernel
theorem dL_lotAt_3 : decode cL_lotAt 3 = .ok (.iload_n 1, 1) := by decide +kernel
theorem dL_lotAt_4 : decode cL_lotAt 4 = .ok (.invokevirtual 63, 3) := by decide +kernel
theorem dL_lotAt_7 : decode cL_lotAt 7 = .ok (.i2l, 1) := by decide +kernel
theorem dL_lotAt_8 : decode cL_lotAt 8 = .ok (.lastore, 1) := by decide +kernel
theorem dL_lotAt_9 : decode cL_lotAt 9 = .ok (.goto 9, 3) := by decide +kernel
theorem dL_lotAt_12 : decode cL_lotAt 12 = .ok (.astore_n 3, 1) := by decide +kernel
theorem dL_lotAt_13 : decode cL_lotAt 13 = .ok (.iconst 1, 1) := by decide +kernel
theorem dL_lotAt_14 : decode cL_lotAt 14 = .ok (.ireturn, 1) := by decide +kernel
theorem dL_lotAt_15 : decode cL_lotAt 15 = .ok (.astore_n 3, 1) := by decide +kernel
theorem dL_lotAt_16 : decode cL_lotAt 16 = .ok (.iconst 2, 1) := by decide +kernel
theorem dL_lotAt_17 : decode cL_lotAt 17 = .ok (.ireturn, 1) := by decide +kernel
theorem dL_lotAt_18 : decode cL_lotAt 18 = .ok (.iconst 0, 1) := by decide +kernel
theorem dL_lotAt_19 : decode cL_lotAt 19 = .ok (.ireturn, 1) := by decide +kernel
theorem dL_nextEmptyBay_0 : decode cL_nextEmptyBay 0 = .ok (.aload_n 2, 1) := by decide +kernel
theorem dL_nextEmptyBay_1 : decode cL_nextEmptyBay 1 = .ok (.iconst 0, 1) := by decide +kernel
theorem dL_nextEmptyBay_2 : decode cL_nextEmptyBay 2 = .ok (.aload_n 0, 1) := by decide +kernel
theorem dL_nextEmptyBay_3 : decode cL_nextEmptyBay 3 = .ok (.iload_n 1, 1) := by decide +kernel
theorem dL_nextEmptyBay_4 : decode cL_nextEmptyBay 4 = .ok (.invokevirtual 66, 3) := by decide +kernel
theorem dL_nextEmptyBay_7 : decode cL_nextEmptyBay 7 = .ok (.i2l, 1) := by decide +kernel
theorem dL_nextEmptyBay_8 : decode cL_nextEmptyBay 8 = .ok (.lastore, 1) := by decide +kernel
theorem dL_nextEmptyBay_9 : decode cL_nextEmptyBay 9 = .ok (.goto 9, 3) := by decide +kernel
theorem dL_nextEmptyBay_12 : decode cL_nextEmptyBay 12 = .ok (.astore_n 3, 1) := by decide +kernel
theorem dL_nextEmptyBay_13 : decode cL_nextEmptyBay 13 = .ok (.iconst 1, 1) := by decide +kernel
theorem dL_nextEmptyBay_14 : decode cL_nextEmptyBay 14 = .ok (.ireturn, 1) := by decide +kernel
theorem dL_nextEmptyBay_15 : decode cL_nextEmptyBay 15 = .ok (.astore_n 3, 1) := by decide +kernel
theorem dL_nextEmptyBay_16 : decode cL_nextEmptyBay 16 = .ok (.iconst 2, 1) := by decide +kernel
theorem dL_nextEmptyBay_17 : decode cL_nextEmptyBay 17 = .ok (.ireturn, 1) := by decide +kernel
theorem dL_nextEmptyBay_18 : decode cL_nextEmptyBay 18 = .ok (.iconst 0, 1) := by decide +kernel
theorem dL_nextEmptyBay_19 : decode cL_nextEmptyBay 19 = .ok (.ireturn, 1) := by decide +kernel
theorem dL_quantityOfKind_0 : decode cL_quantityOfKind 0 = .ok (.aload_n 2, 1) := by decide +kernel
theorem dL_quantityOfKind_1 : decode cL_quantityOfKind 1 = .ok (.iconst 0, 1) := by decide +kernel
theorem dL_quantityOfKind_2 : decode cL_quantityOfKind 2 = .ok (.aload_n 0, 1) := by decide +kernel
theorem dL_quantityOfKind_3 : decode cL_quantityOfKind 3 = .ok (.iload_n 1, 1) := by decide +kernel
theorem dL_quantityOfKind_4 : decode cL_quantityOfKind 4 = .ok (.invokevirtual 69, 3) := by decide +kernel
theorem dL_quantityOfKind_7 : decode cL_quantityOfKind 7 = .ok (.i2l, 1) := by decide +kernel
theorem dL_quantityOfKind_8 : decode cL_quantityOfKind 8 = .ok (.lastore, 1) := by decide +kernel
theorem dL_quantityOfKind_9 : decode cL_quantityOfKind 9 = .ok (.goto 6, 3) := by decide +kernel
theorem dL_quantityOfKind_12 : decode cL_quantityOfKind 12 = .ok (.astore_n 3, 1) := by decide +kernel
theorem dL_quantityOfKind_13 : decode cL_quantityOfKind 13 = .ok (.iconst 1, 1) := by decide +kernel
theorem dL_quantityOfKind_14 : decode cL_quantityOfKind 14 = .ok (.ireturn, 1) := by decide +kernel
theorem dL_quantityOfKind_15 : decode cL_quantityOfKind 15 = .ok (.iconst 0, 1) := by decide +kernel
theorem dL_quantityOfKind_16 : decode cL_quantityOfKind 16 = .ok (.ireturn, 1) := by decide +kernel
theorem dL_lotByValue_0 : decode cL_lotByValue 0 = .ok (.aload_n 2, 1) := by decide +kernel
theorem dL_lotByValue_1 : decode cL_lotByValue 1 = .ok (.iconst 0, 1) := by decide +kernel
theorem dL_lotByValue_2 : decode cL_lotByValue 2 = .ok (.aload_n 0, 1) := by decide +kernel
theorem dL_lotByValue_3 : decode cL_lotByValue 3 = .ok (.iload_n 1, 1) := by decide +kernel
theorem dL_lotByValue_4 : decode cL_lotByValue 4 = .ok (.invokevirtual 73, 3) := by decide +kernel
theorem dL_lotByValue_7 : decode cL_lotByValue 7 = .ok (.i2l, 1) := by decide +kernel
theorem dL_lotByValue_8 : decode cL_lotByValue 8 = .ok (.lastore, 1) := by decide +kernel
theorem dL_lotByValue_9 : decode cL_lotByValue 9 = .ok (.goto 6, 3) := by decide +kernel
theorem dL_lotByValue_12 : decode cL_lotByValue 12 = .ok (.astore_n 3, 1) := by decide +kernel
theorem dL_lotByValue_13 : decode cL_lotByValue 13 = .ok (.iconst 1, 1) := by decide +kernel
theorem dL_lotByValue_14 : decode cL_lotByValue 14 = .ok (.ireturn, 1) := by decide +kernel
theorem dL_lotByValue_15 : decode cL_lotByValue 15 = .ok (.iconst 0, 1) := by decide +kernel
theorem dL_lotByValue_16 : decode cL_lotByValue 16 = .ok (.ireturn, 1) := by decide +kernel
theorem dL_addStep_0 : decode cL_addStep 0 = .ok (.aload_n 3, 1) := by decide +kernel
theorem dL_addStep_1 : decode cL_addStep 1 = .ok (.iconst 0, 1) := by decide +kernel
theorem dL_addStep_2 : decode cL_addStep 2 = .ok (.aload_n 0, 1) := by decide +kernel
theorem dL_addStep_3 : decode cL_addStep 3 = .ok (.iload_n 1, 1) := by decide +kernel
theorem dL_addStep_4 : decode cL_addStep 4 = .ok (.iload_n 2, 1) := by decide +kernel
theorem dL_addStep_5 : decode cL_addStep 5 = .ok (.invokevirtual 76, 3) := by decide +kernel
theorem dL_addStep_8 : decode cL_addStep 8 = .ok (.i2l, 1) := by decide +kernel
theorem dL_addStep_9 : decode cL_addStep 9 = .ok (.lastore, 1) := by decide +kernel
theorem dL_addStep_10 : decode cL_addStep 10 = .ok (.goto 15, 3) := by decide +kernel
theorem dL_addStep_13 : decode cL_addStep 13 = .ok (.astore 4, 2) := by decide +kernel
theorem dL_addStep_15 : decode cL_addStep 15 = .ok (.iconst 1, 1) := by decide +kernel
theorem dL_addStep_16 : decode cL_addStep 16 = .ok (.ireturn, 1) := by decide +kernel
theorem dL_addStep_17 : decode cL_addStep 17 = .ok (.astore 4, 2) := by decide +kernel
theorem dL_addStep_19 : decode cL_addStep 19 = .ok (.iconst 2, 1) := by decide +kernel
theorem dL_addStep_20 : decode cL_addStep 20 = .ok (.ireturn, 1) := by decide +kernel
theorem dL_addStep_21 : decode cL_addStep 21 = .ok (.astore 4, 2) := by decide +kernel
theorem dL_addStep_23 : decode cL_addStep 23 = .ok (.iconst 3, 1) := by decide +kernel
theorem dL_addStep_24 : decode cL_addStep 24 = .ok (.ireturn, 1) := by decide +kernel
theorem dL_addStep_25 : decode cL_addStep 25 = .ok (.iconst 0, 1) := by decide +kernel
theorem dL_addStep_26 : decode cL_addStep 26 = .ok (.ireturn, 1) := by decide +kernel
theorem dL_removeStep_0 : decode cL_removeStep 0 = .ok (.aload_n 2, 1) := by decide +kernel
theorem dL_removeStep_1 : decode cL_removeStep 1 = .ok (.iconst 0, 1) := by decide +kernel
theorem dL_removeStep_2 : decode cL_removeStep 2 = .ok (.aload_n 0, 1) := by decide +kernel
theorem dL_removeStep_3 : decode cL_removeStep 3 = .ok (.iload_n 1, 1) := by decide +kernel
theorem dL_removeStep_4 : decode cL_removeStep 4 = .ok (.invokevirtual 79, 3) := by decide +kernel
theorem dL_removeStep_7 : decode cL_removeStep 7 = .ok (.i2l, 1) := by decide +kernel
theorem dL_removeStep_8 : decode cL_removeStep 8 = .ok (.lastore, 1) := by decide +kernel
theorem dL_removeStep_9 : decode cL_removeStep 9 = .ok (.goto 6, 3) := by decide +kernel
theorem dL_removeStep_12 : decode cL_removeStep 12 = .ok (.astore_n 3, 1) := by decide +kernel
theorem dL_removeStep_13 : decode cL_removeStep 13 = .ok (.iconst 1, 1) := by decide +kernel
theorem dL_removeStep_14 : decode cL_removeStep 14 = .ok (.ireturn, 1) := by decide +kernel
theorem dL_removeStep_15 : decode cL_removeStep 15 = .ok (.iconst 0, 1) := by decide +kernel
theorem dL_removeStep_16 : decode cL_removeStep 16 = .ok (.ireturn, 1) := by decide +kernel
theorem dL_threshold_0 : decode cL_threshold 0 = .ok (.aload_n 2, 1) := by decide +kernel
theorem dL_threshold_1 : decode cL_threshold 1 = .ok (.iconst 0, 1) := by decide +kernel
theorem dL_threshold_2 : decode cL_threshold 2 = .ok (.aload_n 0, 1) := by decide +kernel
theorem dL_threshold_3 : decode cL_threshold 3 = .ok (.iload_n 1, 1) := by decide +kernel
theorem dL_threshold_4 : decode cL_threshold 4 = .ok (.invokevirtual 82, 3) := by decide +kernel
theorem dL_threshold_7 : decode cL_threshold 7 = .ok (.i2l, 1) := by decide +kernel
theorem dL_threshold_8 : decode cL_threshold 8 = .ok (.lastore, 1) := by decide +kernel
theorem dL_threshold_9 : decode cL_threshold 9 = .ok (.goto 6, 3) := by decide +kernel
theorem dL_threshold_12 : decode cL_threshold 12 = .ok (.astore_n 3, 1) := by decide +kernel
theorem dL_threshold_13 : decode cL_threshold 13 = .ok (.iconst 1, 1) := by decide +kernel
theorem dL_threshold_14 : decode cL_threshold 14 = .ok (.ireturn, 1) := by decide +kernel
theorem dL_threshold_15 : decode cL_threshold 15 = .ok (.iconst 0, 1) := by decide +kernel
theorem dL_threshold_16 : decode cL_threshold 16 = .ok (.ireturn, 1) := by decide +kernel
theorem dL_rate_0 : decode cL_rate 0 = .ok (.aload_n 2, 1) := by decide +kernel
theorem dL_rate_1 : decode cL_rate 1 = .ok (.iconst 0, 1) := by decide +kernel
theorem dL_rate_2 : decode cL_rate 2 = .ok (.aload_n 0, 1) := by decide +kernel
theorem dL_rate_3 : decode cL_rate 3 = .ok (.iload_n 1, 1) := by decide +kernel
theorem dL_rate_4 : decode cL_rate 4 = .ok (.invokevirtual 85, 3) := by decide +kernel
theorem dL_rate_7 : decode cL_rate 7 = .ok (.i2l, 1) := by decide +kernel
theorem dL_rate_8 : decode cL_rate 8 = .ok (.lastore, 1) := by decide +kernel
theorem dL_rate_9 : decode cL_rate 9 = .ok (.goto 6, 3) := by decide +kernel
theorem dL_rate_12 : decode cL_rate 12 = .ok (.astore_n 3, 1) := by decide +kernel
theorem dL_rate_13 : decode cL_rate 13 = .ok (.iconst 1, 1) := by decide +kernel
theorem dL_rate_14 : decode cL_rate 14 = .ok (.ireturn, 1) := by decide +kernel
theorem dL_rate_15 : decode cL_rate 15 = .ok (.iconst 0, 1) := by decide +kernel
theorem dL_rate_16 : decode cL_rate 16 = .ok (.ireturn, 1) := by decide +kernel
theorem dL_dutyOn_0 : decode cL_dutyOn 0 = .ok (.aload_n 2, 1) := by decide +kernel
theorem dL_dutyOn_1 : decode cL_dutyOn 1 = .ok (.iconst 0, 1) := by decide +kernel
theorem dL_dutyOn_2 : decode cL_dutyOn 2 = .ok (.aload_n 0, 1) := by decide +kernel
theorem dL_dutyOn_3 : decode cL_dutyOn 3 = .ok (.iload_n 1, 1) := by decide +kernel
theorem dL_dutyOn_4 : decode cL_dutyOn 4 = .ok (.invokevirtual 88, 3) := by decide +kernel
theorem dL_dutyOn_7 : decode cL_dutyOn 7 = .ok (.i2l, 1) := by decide +kernel
theorem dL_dutyOn_8 : decode cL_dutyOn 8 = .ok (.lastore, 1) := by decide +kernel
theorem dL_dutyOn_9 : decode cL_dutyOn 9 = .ok (.goto 6, 3) := by decide +kernel
theorem dL_dutyOn_12 : decode cL_dutyOn 12 = .ok (.astore_n 3, 1) := by decide +kernel
theorem dL_dutyOn_13 : decode cL_dutyOn 13 = .ok (.iconst 1, 1) := by decide +kernel
theorem dL_dutyOn_14 : decode cL_dutyOn 14 = .ok (.ireturn, 1) := by decide +kernel
theorem dL_dutyOn_15 : decode cL_dutyOn 15 = .ok (.iconst 0, 1) := by decide +kernel
theorem dL_dutyOn_16 : decode cL_dutyOn 16 = .ok (.ireturn, 1) := by decide +kernel
theorem dL_dutyOnByCoins_0 : decode cL_dutyOnByCoins 0 = .ok (.aload_n 2, 1) := by decide +kernel
theorem dL_dutyOnByCoins_1 : decode cL_dutyOnByCoins 1 = .ok (.iconst 0, 1) := by decide +kernel
theorem dL_dutyOnByCoins_2 : decode cL_dutyOnByCoins 2 = .ok (.aload_n 0, 1) := by decide +kernel
theorem dL_dutyOnByCoins_3 : decode cL_dutyOnByCoins 3 = .ok (.iload_n 1, 1) := by decide +kernel
theorem dL_dutyOnByCoins_4 : decode cL_dutyOnByCoins 4 = .ok (.invokevirtual 91, 3) := by decide +kernel
theorem dL_dutyOnByCoins_7 : decode cL_dutyOnByCoins 7 = .ok (.i2l, 1) := by decide +kernel
theorem dL_dutyOnByCoins_8 : decode cL_dutyOnByCoins 8 = .ok (.lastore, 1) := by decide +kernel
theorem dL_dutyOnByCoins_9 : decode cL_dutyOnByCoins 9 = .ok (.goto 6, 3) := by decide +kernel
theorem dL_dutyOnByCoins_12 : decode cL_dutyOnByCoins 12 = .ok (.astore_n 3, 1) := by decide +kernel
theorem dL_dutyOnByCoins_13 : decode cL_dutyOnByCoins 13 = .ok (.iconst 1, 1) := by decide +kernel
theorem dL_dutyOnByCoins_14 : decode cL_dutyOnByCoins 14 = .ok (.ireturn, 1) := by decide +kernel
theorem dL_dutyOnByCoins_15 : decode cL_dutyOnByCoins 15 = .ok (.iconst 0, 1) := by decide +kernel
theorem dL_dutyOnByCoins_16 : decode cL_dutyOnByCoins 16 = .ok (.ireturn, 1) := by decide +kernel
theorem dL_duty_0 : decode cL_duty 0 = .ok (.aload_n 2, 1) := by decide +kernel
theorem dL_duty_1 : decode cL_duty 1 = .ok (.iconst 0, 1) := by decide +kernel
theorem dL_duty_2 : decode cL_duty 2 = .ok (.aload_n 0, 1) := by decide +kernel
theorem dL_duty_3 : decode cL_duty 3 = .ok (.iload_n 1, 1) := by decide +kernel
theorem dL_duty_4 : decode cL_duty 4 = .ok (.invokevirtual 94, 3) := by decide +kernel
theorem dL_duty_7 : decode cL_duty 7 = .ok (.i2l, 1) := by decide +kernel
theorem dL_duty_8 : decode cL_duty 8 = .ok (.lastore, 1) := by decide +kernel
theorem dL_duty_9 : decode cL_duty 9 = .ok (.goto 6, 3) := by decide +kernel
theorem dL_duty_12 : decode cL_duty 12 = .ok (.astore_n 3, 1) := by decide +kernel
theorem dL_duty_13 : decode cL_duty 13 = .ok (.iconst 1, 1) := by decide +kernel
theorem dL_duty_14 : decode cL_duty 14 = .ok (.ireturn, 1) := by decide +kernel
theorem dL_duty_15 : decode cL_duty 15 = .ok (.iconst 0, 1) := by decide +kernel
theorem dL_duty_16 : decode cL_duty 16 = .ok (.ireturn, 1) := by decide +kernel
theorem dL_passDays_0 : decode cL_passDays 0 = .ok (.aload_n 2, 1) := by decide +kernel
theorem dL_passDays_1 : decode cL_passDays 1 = .ok (.iconst 0, 1) := by decide +kernel
theorem dL_passDays_2 : decode cL_passDays 2 = .ok (.aload_n 0, 1) := by decide +kernel
theorem dL_passDays_3 : decode cL_passDays 3 = .ok (.iload_n 1, 1) := by decide +kernel
theorem dL_passDays_4 : decode cL_passDays 4 = .ok (.invokevirtual 97, 3) := by decide +kernel
theorem dL_passDays_7 : decode cL_passDays 7 = .ok (.i2l, 1) := by decide +kernel
theorem dL_passDays_8 : decode cL_passDays 8 = .ok (.lastore, 1) := by decide +kernel
theorem dL_passDays_9 : decode cL_passDays 9 = .ok (.goto 6, 3) := by decide +kernel
theorem dL_passDays_12 : decode cL_passDays 12 = .ok (.astore_n 3, 1) := by decide +kernel
theorem dL_passDays_13 : decode cL_passDays 13 = .ok (.iconst 1, 1) := by decide +kernel
theorem dL_passDays_14 : decode cL_passDays 14 = .ok (.ireturn, 1) := by decide +kernel
theorem dL_passDays_15 : decode cL_passDays 15 = .ok (.iconst 0, 1) := by decide +kernel
theorem dL_passDays_16 : decode cL_passDays 16 = .ok (.ireturn, 1) := by decide +kernel
theorem dL_dampAfter_0 : decode cL_dampAfter 0 = .ok (.aload_n 2, 1) := by decide +kernel
theorem dL_dampAfter_1 : decode cL_dampAfter 1 = .ok (.iconst 0, 1) := by decide +kernel
theorem dL_dampAfter_2 : decode cL_dampAfter 2 = .ok (.aload_n 0, 1) := by decide +kernel
theorem dL_dampAfter_3 : decode cL_dampAfter 3 = .ok (.iload_n 1, 1) := by decide +kernel
theorem dL_dampAfter_4 : decode cL_dampAfter 4 = .ok (.invokevirtual 100, 3) := by decide +kernel
theorem dL_dampAfter_7 : decode cL_dampAfter 7 = .ok (.i2l, 1) := by decide +kernel
theorem dL_dampAfter_8 : decode cL_dampAfter 8 = .ok (.lastore, 1) := by decide +kernel
theorem dL_dampAfter_9 : decode cL_dampAfter 9 = .ok (.goto 6, 3) := by decide +kernel
theorem dL_dampAfter_12 : decode cL_dampAfter 12 = .ok (.astore_n 3, 1) := by decide +kernel
theorem dL_dampAfter_13 : decode cL_dampAfter 13 = .ok (.iconst 1, 1) := by decide +kernel
theorem dL_dampAfter_14 : decode cL_dampAfter 14 = .ok (.ireturn, 1) := by decide +kernel
theorem dL_dampAfter_15 : decode cL_dampAfter 15 = .ok (.iconst 0, 1) := by decide +kernel
theorem dL_dampAfter_16 : decode cL_dampAfter 16 = .ok (.ireturn, 1) := by decide +kernel
theorem dL_enqueue_0 : decode cL_enqueue 0 = .ok (.aload_n 2, 1) := by decide +kernel
theorem dL_enqueue_1 : decode cL_enqueue 1 = .ok (.iconst 0, 1) := by decide +kernel
theorem dL_enqueue_2 : decode cL_enqueue 2 = .ok (.aload_n 0, 1) := by decide +kernel
theorem dL_enqueue_3 : decode cL_enqueue 3 = .ok (.iload_n 1, 1) := by decide +kernel
theorem dL_enqueue_4 : decode cL_enqueue 4 = .ok (.invokevirtual 103, 3) := by decide +kernel
theorem dL_enqueue_7 : decode cL_enqueue 7 = .ok (.i2l, 1) := by decide +kernel
theorem dL_enqueue_8 : decode cL_enqueue 8 = .ok (.lastore, 1) := by decide +kernel
theorem dL_enqueue_9 : decode cL_enqueue 9 = .ok (.goto 9, 3) := by decide +kernel
theorem dL_enqueue_12 : decode cL_enqueue 12 = .ok (.astore_n 3, 1) := by decide +kernel
theorem dL_enqueue_13 : decode cL_enqueue 13 = .ok (.iconst 1, 1) := by decide +kernel
theorem dL_enqueue_14 : decode cL_enqueue 14 = .ok (.ireturn, 1) := by decide +kernel
theorem dL_enqueue_15 : decode cL_enqueue 15 = .ok (.astore_n 3, 1) := by decide +kernel
theorem dL_enqueue_16 : decode cL_enqueue 16 = .ok (.iconst 2, 1) := by decide +kernel
theorem dL_enqueue_17 : decode cL_enqueue 17 = .ok (.ireturn, 1) := by decide +kernel
theorem dL_enqueue_18 : decode cL_enqueue 18 = .ok (.iconst 0, 1) := by decide +kernel
theorem dL_enqueue_19 : decode cL_enqueue 19 = .ok (.ireturn, 1) := by decide +kernel
theorem dL_audit_0 : decode cL_audit 0 = .ok (.aload_n 1, 1) := by decide +kernel
theorem dL_audit_1 : decode cL_audit 1 = .ok (.iconst 0, 1) := by decide +kernel
theorem dL_audit_2 : decode cL_audit 2 = .ok (.aload_n 0, 1) := by decide +kernel
theorem dL_audit_3 : decode cL_audit 3 = .ok (.invokevirtual 106, 3) := by decide +kernel
theorem dL_audit_6 : decode cL_audit 6 = .ok (.i2l, 1) := by decide +kernel
theorem dL_audit_7 : decode cL_audit 7 = .ok (.lastore, 1) := by decide +kernel
theorem dL_audit_8 : decode cL_audit 8 = .ok (.goto 6, 3) := by decide +kernel
theorem dL_audit_11 : decode cL_audit 11 = .ok (.astore_n 2, 1) := by decide +kernel
theorem dL_audit_12 : decode cL_audit 12 = .ok (.iconst 1, 1) := by decide +kernel
theorem dL_audit_13 : decode cL_audit 13 = .ok (.ireturn, 1) := by decide +kernel
theorem dL_audit_14 : decode cL_audit 14 = .ok (.iconst 0, 1) := by decide +kernel
theorem dL_audit_15 : decode cL_audit 15 = .ok (.ireturn, 1) := by decide +kernel
theorem dL_queued_0 : decode cL_queued 0 = .ok (.aload_n 2, 1) := by decide +kernel
theorem dL_queued_1 : decode cL_queued 1 = .ok (.iconst 0, 1) := by decide +kernel
theorem dL_queued_2 : decode cL_queued 2 = .ok (.aload_n 0, 1) := by decide +kernel
theorem dL_queued_3 : decode cL_queued 3 = .ok (.iload_n 1, 1) := by decide +kernel
theorem dL_queued_4 : decode cL_queued 4 = .ok (.invokevirtual 110, 3) := by decide +kernel
theorem dL_queued_7 : decode cL_queued 7 = .ok (.i2l, 1) := by decide +kernel
theorem dL_queued_8 : decode cL_queued 8 = .ok (.lastore, 1) := by decide +kernel
theorem dL_queued_9 : decode cL_queued 9 = .ok (.goto 6, 3) := by decide +kernel
theorem dL_queued_12 : decode cL_queued 12 = .ok (.astore_n 3, 1) := by decide +kernel
theorem dL_queued_13 : decode cL_queued 13 = .ok (.iconst 1, 1) := by decide +kernel
theorem dL_queued_14 : decode cL_queued 14 = .ok (.ireturn, 1) := by decide +kernel
theorem dL_queued_15 : decode cL_queued 15 = .ok (.iconst 0, 1) := by decide +kernel
theorem dL_queued_16 : decode cL_queued 16 = .ok (.ireturn, 1) := by decide +kernel
theorem dL_deposit_0 : decode cL_deposit 0 = .ok (.aload_n 2, 1) := by decide +kernel
theorem dL_deposit_1 : decode cL_deposit 1 = .ok (.iconst 0, 1) := by decide +kernel
theorem dL_deposit_2 : decode cL_deposit 2 = .ok (.aload_n 0, 1) := by decide +kernel
theorem dL_deposit_3 : decode cL_deposit 3 = .ok (.iload_n 1, 1) := by decide +kernel
theorem dL_deposit_4 : decode cL_deposit 4 = .ok (.invokevirtual 113, 3) := by decide +kernel
theorem dL_deposit_7 : decode cL_deposit 7 = .ok (.i2l, 1) := by decide +kernel
theorem dL_deposit_8 : decode cL_deposit 8 = .ok (.lastore, 1) := by decide +kernel
theorem dL_deposit_9 : decode cL_deposit 9 = .ok (.goto 9, 3) := by decide +kernel
theorem dL_deposit_12 : decode cL_deposit 12 = .ok (.astore_n 3, 1) := by decide +kernel
theorem dL_deposit_13 : decode cL_deposit 13 = .ok (.iconst 1, 1) := by decide +kernel
theorem dL_deposit_14 : decode cL_deposit 14 = .ok (.ireturn, 1) := by decide +kernel
theorem dL_deposit_15 : decode cL_deposit 15 = .ok (.astore_n 3, 1) := by decide +kernel
theorem dL_deposit_16 : decode cL_deposit 16 = .ok (.iconst 2, 1) := by decide +kernel
theorem dL_deposit_17 : decode cL_deposit 17 = .ok (.ireturn, 1) := by decide +kernel
theorem dL_deposit_18 : decode cL_deposit 18 = .ok (.iconst 0, 1) := by decide +kernel
theorem dL_deposit_19 : decode cL_deposit 19 = .ok (.ireturn, 1) := by decide +kernel
theorem dL_release_0 : decode cL_release 0 = .ok (.aload_n 2, 1) := by decide +kernel
theorem dL_release_1 : decode cL_release 1 = .ok (.iconst 0, 1) := by decide +kernel
theorem dL_release_2 : decode cL_release 2 = .ok (.aload_n 0, 1) := by decide +kernel
theorem dL_release_3 : decode cL_release 3 = .ok (.iload_n 1, 1) := by decide +kernel
theorem dL_release_4 : decode cL_release 4 = .ok (.invokevirtual 116, 3) := by decide +kernel
theorem dL_release_7 : decode cL_release 7 = .ok (.i2l, 1) := by decide +kernel
theorem dL_release_8 : decode cL_release 8 = .ok (.lastore, 1) := by decide +kernel
theorem dL_release_9 : decode cL_release 9 = .ok (.goto 9, 3) := by decide +kernel
theorem dL_release_12 : decode cL_release 12 = .ok (.astore_n 3, 1) := by decide +kernel
theorem dL_release_13 : decode cL_release 13 = .ok (.iconst 1, 1) := by decide +kernel
theorem dL_release_14 : decode cL_release 14 = .ok (.ireturn, 1) := by decide +kernel
theorem dL_release_15 : decode cL_release 15 = .ok (.astore_n 3, 1) := by decide +kernel
theorem dL_release_16 : decode cL_release 16 = .ok (.iconst 2, 1) := by decide +kernel
theorem dL_release_17 : decode cL_release 17 = .ok (.ireturn, 1) := by decide +kernel
theorem dL_release_18 : decode cL_release 18 = .ok (.iconst 0, 1) := by decide +kernel
theorem dL_release_19 : decode cL_release 19 = .ok (.ireturn, 1) := by decide +kernel
theorem dL_meanValue_0 : decode cL_meanValue 0 = .ok (.aload_n 1, 1) := by decide +kernel
theorem dL_meanValue_1 : decode cL_meanValue 1 = .ok (.iconst 0, 1) := by decide +kernel
theorem dL_meanValue_2 : decode cL_meanValue 2 = .ok (.aload_n 0, 1) := by decide +kernel
theorem dL_meanValue_3 : decode cL_meanValue 3 = .ok (.invokevirtual 119, 3) := by decide +kernel
theorem dL_meanValue_6 : decode cL_meanValue 6 = .ok (.dastore, 1) := by decide +kernel
theorem dL_meanValue_7 : decode cL_meanValue 7 = .ok (.goto 6, 3) := by decide +kernel
theorem dL_meanValue_10 : decode cL_meanValue 10 = .ok (.astore_n 2, 1) := by decide +kernel
theorem dL_meanValue_11 : decode cL_meanValue 11 = .ok (.iconst 1, 1) := by decide +kernel
theorem dL_meanValue_12 : decode cL_meanValue 12 = .ok (.ireturn, 1) := by decide +kernel
theorem dL_meanValue_13 : decode cL_meanValue 13 = .ok (.iconst 0, 1) := by decide +kernel
theorem dL_meanValue_14 : decode cL_meanValue 14 = .ok (.ireturn, 1) := by decide +kernel
theorem dL_sealedFraction_0 : decode cL_sealedFraction 0 = .ok (.aload_n 1, 1) := by decide +kernel
theorem dL_sealedFraction_1 : decode cL_sealedFraction 1 = .ok (.iconst 0, 1) := by decide +kernel
theorem dL_sealedFraction_2 : decode cL_sealedFraction 2 = .ok (.aload_n 0, 1) := by decide +kernel
theorem dL_sealedFraction_3 : decode cL_sealedFraction 3 = .ok (.invokevirtual 125, 3) := by decide +kernel
theorem dL_sealedFraction_6 : decode cL_sealedFraction 6 = .ok (.f2d, 1) := by decide +kernel
theorem dL_sealedFraction_7 : decode cL_sealedFraction 7 = .ok (.dastore, 1) := by decide +kernel
theorem dL_sealedFraction_8 : decode cL_sealedFraction 8 = .ok (.goto 6, 3) := by decide +kernel
theorem dL_sealedFraction_11 : decode cL_sealedFraction 11 = .ok (.astore_n 2, 1) := by decide +kernel
theorem dL_sealedFraction_12 : decode cL_sealedFraction 12 = .ok (.iconst 1, 1) := by decide +kernel
theorem dL_sealedFraction_13 : decode cL_sealedFraction 13 = .ok (.ireturn, 1) := by decide +kernel
theorem dL_sealedFraction_14 : decode cL_sealedFraction 14 = .ok (.iconst 0, 1) := by decide +kernel
theorem dL_sealedFraction_15 : decode cL_sealedFraction 15 = .ok (.ireturn, 1) := by decide +kernel
theorem dL_writeLot_0 : decode cL_writeLot 0 = .ok (.aload_n 2, 1) := by decide +kernel
theorem dL_writeLot_1 : decode cL_writeLot 1 = .ok (.iconst 0, 1) := by decide +kernel
theorem dL_writeLot_2 : decode cL_writeLot 2 = .ok (.aload_n 0, 1) := by decide +kernel
theorem dL_writeLot_3 : decode cL_writeLot 3 = .ok (.iload_n 1, 1) := by decide +kernel
theorem dL_writeLot_4 : decode cL_writeLot 4 = .ok (.invokevirtual 129, 3) := by decide +kernel
theorem dL_writeLot_7 : decode cL_writeLot 7 = .ok (.i2l, 1) := by decide +kernel
theorem dL_writeLot_8 : decode cL_writeLot 8 = .ok (.lastore, 1) := by decide +kernel
theorem dL_writeLot_9 : decode cL_writeLot 9 = .ok (.goto 6, 3) := by decide +kernel
theorem dL_writeLot_12 : decode cL_writeLot 12 = .ok (.astore_n 3, 1) := by decide +kernel
theorem dL_writeLot_13 : decode cL_writeLot 13 = .ok (.iconst 1, 1) := by decide +kernel
theorem dL_writeLot_14 : decode cL_writeLot 14 = .ok (.ireturn, 1) := by decide +kernel
theorem dL_writeLot_15 : decode cL_writeLot 15 = .ok (.iconst 0, 1) := by decide +kernel
theorem dL_writeLot_16 : decode cL_writeLot 16 = .ok (.ireturn, 1) := by decide +kernel
theorem dL_outputCharacter_0 : decode cL_outputCharacter 0 = .ok (.aload_n 2, 1) := by decide +kernel
theorem dL_outputCharacter_1 : decode cL_outputCharacter 1 = .ok (.iconst 0, 1) := by decide +kernel
theorem dL_outputCharacter_2 : decode cL_outputCharacter 2 = .ok (.aload_n 0, 1) := by decide +kernel
theorem dL_outputCharacter_3 : decode cL_outputCharacter 3 = .ok (.iload_n 1, 1) := by decide +kernel
theorem dL_outputCharacter_4 : decode cL_outputCharacter 4 = .ok (.invokevirtual 132, 3) := by decide +kernel
theorem dL_outputCharacter_7 : decode cL_outputCharacter 7 = .ok (.i2l, 1) := by decide +kernel
theorem dL_outputCharacter_8 : decode cL_outputCharacter 8 = .ok (.lastore, 1) := by decide +kernel
theorem dL_outputCharacter_9 : decode cL_outputCharacter 9 = .ok (.goto 6, 3) := by decide +kernel
theorem dL_outputCharacter_12 : decode cL_outputCharacter 12 = .ok (.astore_n 3, 1) := by decide +kernel
theorem dL_outputCharacter_13 : decode cL_outputCharacter 13 = .ok (.iconst 1, 1) := by decide +kernel
theorem dL_outputCharacter_14 : decode cL_outputCharacter 14 = .ok (.ireturn, 1) := by decide +kernel
theorem dL_outputCharacter_15 : decode cL_outputCharacter 15 = .ok (.iconst 0, 1) := by decide +kernel
theorem dL_outputCharacter_16 : decode cL_outputCharacter 16 = .ok (.ireturn, 1) := by decide +kernel
theorem dL_feed_0 : decode cL_feed 0 = .ok (.aload_n 2, 1) := by decide +kernel
theorem dL_feed_1 : decode cL_feed 1 = .ok (.iconst 0, 1) := by decide +kernel
theorem dL_feed_2 : decode cL_feed 2 = .ok (.aload_n 0, 1) := by decide +kernel
theorem dL_feed_3 : decode cL_feed 3 = .ok (.iload_n 1, 1) := by decide +kernel
theorem dL_feed_4 : decode cL_feed 4 = .ok (.invokevirtual 135, 3) := by decide +kernel
theorem dL_feed_7 : decode cL_feed 7 = .ok (.i2l, 1) := by decide +kernel
theorem dL_feed_8 : decode cL_feed 8 = .ok (.lastore, 1) := by decide +kernel
theorem dL_feed_9 : decode cL_feed 9 = .ok (.goto 6, 3) := by decide +kernel
theorem dL_feed_12 : decode cL_feed 12 = .ok (.astore_n 3, 1) := by decide +kernel
theorem dL_feed_13 : decode cL_feed 13 = .ok (.iconst 1, 1) := by decide +kernel
theorem dL_feed_14 : decode cL_feed 14 = .ok (.ireturn, 1) := by decide +kernel
theorem dL_feed_15 : decode cL_feed 15 = .ok (.iconst 0, 1) := by decide +kernel
theorem dL_feed_16 : decode cL_feed 16 = .ok (.ireturn, 1) := by decide +kernel
theorem dL_execute_0 : decode cL_execute 0 = .ok (.aload_n 1, 1) := by decide +kernel
theorem dL_execute_1 : decode cL_execute 1 = .ok (.iconst 0, 1) := by decide +kernel
theorem dL_execute_2 : decode cL_execute 2 = .ok (.aload_n 0, 1) := by decide +kernel
theorem dL_execute_3 : decode cL_execute 3 = .ok (.invokevirtual 138, 3) := by decide +kernel
theorem dL_execute_6 : decode cL_execute 6 = .ok (.i2l, 1) := by decide +kernel
theorem dL_execute_7 : decode cL_execute 7 = .ok (.lastore, 1) := by decide +kernel
theorem dL_execute_8 : decode cL_execute 8 = .ok (.goto 9, 3) := by decide +kernel
theorem dL_execute_11 : decode cL_execute 11 = .ok (.astore_n 2, 1) := by decide +kernel
theorem dL_execute_12 : decode cL_execute 12 = .ok (.iconst 1, 1) := by decide +kernel
theorem dL_execute_13 : decode cL_execute 13 = .ok (.ireturn, 1) := by decide +kernel
theorem dL_execute_14 : decode cL_execute 14 = .ok (.astore_n 2, 1) := by decide +kernel
theorem dL_execute_15 : decode cL_execute 15 = .ok (.iconst 2, 1) := by decide +kernel
theorem dL_execute_16 : decode cL_execute 16 = .ok (.ireturn, 1) := by decide +kernel
theorem dL_execute_17 : decode cL_execute 17 = .ok (.iconst 0, 1) := by decide +kernel
theorem dL_execute_18 : decode cL_execute 18 = .ok (.ireturn, 1) := by decide +kernel
theorem dL_errorPosition_0 : decode cL_errorPosition 0 = .ok (.aload_n 1, 1) := by decide +kernel
theorem dL_errorPosition_1 : decode cL_errorPosition 1 = .ok (.iconst 0, 1) := by decide +kernel
theorem dL_errorPosition_2 : decode cL_errorPosition 2 = .ok (.aload_n 0, 1) := by decide +kernel
theorem dL_errorPosition_3 : decode cL_errorPosition 3 = .ok (.invokevirtual 141, 3) := by decide +kernel
theorem dL_errorPosition_6 : decode cL_errorPosition 6 = .ok (.i2l, 1) := by decide +kernel
theorem dL_errorPosition_7 : decode cL_errorPosition 7 = .ok (.lastore, 1) := by decide +kernel
theorem dL_errorPosition_8 : decode cL_errorPosition 8 = .ok (.goto 6, 3) := by decide +kernel
theorem dL_errorPosition_11 : decode cL_errorPosition 11 = .ok (.astore_n 2, 1) := by decide +kernel
theorem dL_errorPosition_12 : decode cL_errorPosition 12 = .ok (.iconst 1, 1) := by decide +kernel
theorem dL_errorPosition_13 : decode cL_errorPosition 13 = .ok (.ireturn, 1) := by decide +kernel
theorem dL_errorPosition_14 : decode cL_errorPosition 14 = .ok (.iconst 0, 1) := by decide +kernel
theorem dL_errorPosition_15 : decode cL_errorPosition 15 = .ok (.ireturn, 1) := by decide +kernel
theorem dL_failedCommand_0 : decode cL_failedCommand 0 = .ok (.aload_n 1, 1) := by decide +kernel
theorem dL_failedCommand_1 : decode cL_failedCommand 1 = .ok (.iconst 0, 1) := by decide +kernel
theorem dL_failedCommand_2 : decode cL_failedCommand 2 = .ok (.aload_n 0, 1) := by decide +kernel
theorem dL_failedCommand_3 : decode cL_failedCommand 3 = .ok (.invokevirtual 144, 3) := by decide +kernel
theorem dL_failedCommand_6 : decode cL_failedCommand 6 = .ok (.i2l, 1) := by decide +kernel
theorem dL_failedCommand_7 : decode cL_failedCommand 7 = .ok (.lastore, 1) := by decide +kernel
theorem dL_failedCommand_8 : decode cL_failedCommand 8 = .ok (.goto 6, 3) := by decide +kernel
theorem dL_failedCommand_11 : decode cL_failedCommand 11 = .ok (.astore_n 2, 1) := by decide +kernel
theorem dL_failedCommand_12 : decode cL_failedCommand 12 = .ok (.iconst 1, 1) := by decide +kernel
theorem dL_failedCommand_13 : decode cL_failedCommand 13 = .ok (.ireturn, 1) := by decide +kernel
theorem dL_failedCommand_14 : decode cL_failedCommand 14 = .ok (.iconst 0, 1) := by decide +kernel
theorem dL_failedCommand_15 : decode cL_failedCommand 15 = .ok (.ireturn, 1) := by decide +kernel
theorem dL_undo_0 : decode cL_undo 0 = .ok (.aload_n 1, 1) := by decide +kernel
theorem dL_undo_1 : decode cL_undo 1 = .ok (.iconst 0, 1) := by decide +kernel
theorem dL_undo_2 : decode cL_undo 2 = .ok (.aload_n 0, 1) := by decide +kernel
theorem dL_undo_3 : decode cL_undo 3 = .ok (.invokevirtual 147, 3) := by decide +kernel
theorem dL_undo_6 : decode cL_undo 6 = .ok (.i2l, 1) := by decide +kernel
theorem dL_undo_7 : decode cL_undo 7 = .ok (.lastore, 1) := by decide +kernel
theorem dL_undo_8 : decode cL_undo 8 = .ok (.goto 6, 3) := by decide +kernel
theorem dL_undo_11 : decode cL_undo 11 = .ok (.astore_n 2, 1) := by decide +kernel
theorem dL_undo_12 : decode cL_undo 12 = .ok (.iconst 1, 1) := by decide +kernel
theorem dL_undo_13 : decode cL_undo 13 = .ok (.ireturn, 1) := by decide +kernel
theorem dL_undo_14 : decode cL_undo 14 = .ok (.iconst 0, 1) := by decide +kernel
theorem dL_undo_15 : decode cL_undo 15 = .ok (.ireturn, 1) := by decide +kernel
theorem dL_restore_0 : decode cL_restore 0 = .ok (.aload_n 1, 1) := by decide +kernel
theorem dL_restore_1 : decode cL_restore 1 = .ok (.iconst 0, 1) := by decide +kernel
theorem dL_restore_2 : decode cL_restore 2 = .ok (.aload_n 0, 1) := by decide +kernel
theorem dL_restore_3 : decode cL_restore 3 = .ok (.invokevirtual 150, 3) := by decide +kernel
theorem dL_restore_6 : decode cL_restore 6 = .ok (.i2l, 1) := by decide +kernel
theorem dL_restore_7 : decode cL_restore 7 = .ok (.lastore, 1) := by decide +kernel
theorem dL_restore_8 : decode cL_restore 8 = .ok (.goto 6, 3) := by decide +kernel
theorem dL_restore_11 : decode cL_restore 11 = .ok (.astore_n 2, 1) := by decide +kernel
theorem dL_restore_12 : decode cL_restore 12 = .ok (.iconst 1, 1) := by decide +kernel
theorem dL_restore_13 : decode cL_restore 13 = .ok (.ireturn, 1) := by decide +kernel
theorem dL_restore_14 : decode cL_restore 14 = .ok (.iconst 0, 1) := by decide +kernel
theorem dL_restore_15 : decode cL_restore 15 = .ok (.ireturn, 1) := by decide +kernel
