theorem dX6_init_0 : decode cX6_init 0 = .ok (.aload_n 0, 1) := by decide +kernel
theorem dX6_init_1 : decode cX6_init 1 = .ok (.invokespecial 1, 3) := by decide +kernel
theorem dX6_init_4 : decode cX6_init 4 = .ok (.aload_n 0, 1) := by decide +kernel
theorem dX6_init_5 : decode cX6_init 5 = .ok (.new 7, 3) := by decide +kernel
theorem dX6_init_8 : decode cX6_init 8 = .ok (.dup, 1) := by decide +kernel
theorem dX6_init_9 : decode cX6_init 9 = .ok (.invokespecial 9, 3) := by decide +kernel
theorem dX6_init_12 : decode cX6_init 12 = .ok (.putfield 10, 3) := by decide +kernel
theorem dX6_init_15 : decode cX6_init 15 = .ok (.aload_n 0, 1) := by decide +kernel
theorem dX6_init_16 : decode cX6_init 16 = .ok (.new 7, 3) := by decide +kernel
theorem dX6_init_19 : decode cX6_init 19 = .ok (.dup, 1) := by decide +kernel
theorem dX6_init_20 : decode cX6_init 20 = .ok (.invokespecial 9, 3) := by decide +kernel
theorem dX6_init_23 : decode cX6_init 23 = .ok (.putfield 16, 3) := by decide +kernel
theorem dX6_init_26 : decode cX6_init 26 = .ok (.aload_n 0, 1) := by decide +kernel
theorem dX6_init_27 : decode cX6_init 27 = .ok (.new 19, 3) := by decide +kernel
theorem dX6_init_30 : decode cX6_init 30 = .ok (.dup, 1) := by decide +kernel
theorem dX6_init_31 : decode cX6_init 31 = .ok (.invokespecial 21, 3) := by decide +kernel
theorem dX6_init_34 : decode cX6_init 34 = .ok (.putfield 22, 3) := by decide +kernel
theorem dX6_init_37 : decode cX6_init 37 = .ok (.aload_n 0, 1) := by decide +kernel
theorem dX6_init_38 : decode cX6_init 38 = .ok (.new 26, 3) := by decide +kernel
theorem dX6_init_41 : decode cX6_init 41 = .ok (.dup, 1) := by decide +kernel
theorem dX6_init_42 : decode cX6_init 42 = .ok (.invokespecial 28, 3) := by decide +kernel
theorem dX6_init_45 : decode cX6_init 45 = .ok (.putfield 29, 3) := by decide +kernel
theorem dX6_init_48 : decode cX6_init 48 = .ok (.aload_n 0, 1) := by decide +kernel
theorem dX6_init_49 : decode cX6_init 49 = .ok (.new 33, 3) := by decide +kernel
theorem dX6_init_52 : decode cX6_init 52 = .ok (.dup, 1) := by decide +kernel
theorem dX6_init_53 : decode cX6_init 53 = .ok (.invokespecial 35, 3) := by decide +kernel
theorem dX6_init_56 : decode cX6_init 56 = .ok (.putfield 36, 3) := by decide +kernel
theorem dX6_init_59 : decode cX6_init 59 = .ok (.aload_n 0, 1) := by decide +kernel
theorem dX6_init_60 : decode cX6_init 60 = .ok (.bipush 16, 2) := by decide +kernel
theorem dX6_init_62 : decode cX6_init 62 = .ok (.newarray .int, 2) := by decide +kernel
theorem dX6_init_64 : decode cX6_init 64 = .ok (.putfield 40, 3) := by decide +kernel
theorem dX6_init_67 : decode cX6_init 67 = .ok (.aload_n 0, 1) := by decide +kernel
theorem dX6_init_68 : decode cX6_init 68 = .ok (.bipush 24, 2) := by decide +kernel
theorem dX6_init_70 : decode cX6_init 70 = .ok (.newarray .int, 2) := by decide +kernel
theorem dX6_init_72 : decode cX6_init 72 = .ok (.putfield 44, 3) := by decide +kernel
theorem dX6_init_75 : decode cX6_init 75 = .ok (.aload_n 0, 1) := by decide +kernel
theorem dX6_init_76 : decode cX6_init 76 = .ok (.aconst_null, 1) := by decide +kernel
theorem dX6_init_77 : decode cX6_init 77 = .ok (.putfield 47, 3) := by decide +kernel
theorem dX6_init_80 : decode cX6_init 80 = .ok (.aload_n 0, 1) := by decide +kernel
theorem dX6_init_81 : decode cX6_init 81 = .ok (.iconst (-1), 1) := by decide +kernel
theorem dX6_init_82 : decode cX6_init 82 = .ok (.putfield 50, 3) := by decide +kernel
theorem dX6_init_85 : decode cX6_init 85 = .ok (.aload_n 0, 1) := by decide +kernel
theorem dX6_init_86 : decode cX6_init 86 = .ok (.iconst (-1), 1) := by decide +kernel
theorem dX6_init_87 : decode cX6_init 87 = .ok (.putfield 54, 3) := by decide +kernel
theorem dX6_init_90 : decode cX6_init 90 = .ok (.return_, 1) := by decide +kernel
theorem dX6_addLot_0 : decode cX6_addLot 0 = .ok (.aload_n 0, 1) := by decide +kernel
theorem dX6_addLot_1 : decode cX6_addLot 1 = .ok (.getfield 22, 3) := by decide +kernel
theorem dX6_addLot_4 : decode cX6_addLot 4 = .ok (.aload_n 0, 1) := by decide +kernel
theorem dX6_addLot_5 : decode cX6_addLot 5 = .ok (.getfield 10, 3) := by decide +kernel
theorem dX6_addLot_8 : decode cX6_addLot 8 = .ok (.invokevirtual 57, 3) := by decide +kernel
theorem dX6_addLot_11 : decode cX6_addLot 11 = .ok (.aload_n 0, 1) := by decide +kernel
theorem dX6_addLot_12 : decode cX6_addLot 12 = .ok (.aload_n 0, 1) := by decide +kernel
theorem dX6_addLot_13 : decode cX6_addLot 13 = .ok (.getfield 10, 3) := by decide +kernel
theorem dX6_addLot_16 : decode cX6_addLot 16 = .ok (.iload_n 1, 1) := by decide +kernel
theorem dX6_addLot_17 : decode cX6_addLot 17 = .ok (.iload_n 2, 1) := by decide +kernel
theorem dX6_addLot_18 : decode cX6_addLot 18 = .ok (.iload_n 3, 1) := by decide +kernel
theorem dX6_addLot_19 : decode cX6_addLot 19 = .ok (.iload 4, 2) := by decide +kernel
theorem dX6_addLot_21 : decode cX6_addLot 21 = .ok (.invokevirtual 61, 3) := by decide +kernel
theorem dX6_addLot_24 : decode cX6_addLot 24 = .ok (.invokevirtual 65, 3) := by decide +kernel
theorem dX6_addLot_27 : decode cX6_addLot 27 = .ok (.ireturn, 1) := by decide +kernel
theorem dX6_seal_0 : decode cX6_seal 0 = .ok (.aload_n 0, 1) := by decide +kernel
theorem dX6_seal_1 : decode cX6_seal 1 = .ok (.getfield 22, 3) := by decide +kernel
theorem dX6_seal_4 : decode cX6_seal 4 = .ok (.aload_n 0, 1) := by decide +kernel
theorem dX6_seal_5 : decode cX6_seal 5 = .ok (.getfield 10, 3) := by decide +kernel
theorem dX6_seal_8 : decode cX6_seal 8 = .ok (.invokevirtual 57, 3) := by decide +kernel
theorem dX6_seal_11 : decode cX6_seal 11 = .ok (.aload_n 0, 1) := by decide +kernel
theorem dX6_seal_12 : decode cX6_seal 12 = .ok (.aload_n 0, 1) := by decide +kernel
theorem dX6_seal_13 : decode cX6_seal 13 = .ok (.getfield 10, 3) := by decide +kernel
theorem dX6_seal_16 : decode cX6_seal 16 = .ok (.iload_n 1, 1) := by decide +kernel
theorem dX6_seal_17 : decode cX6_seal 17 = .ok (.invokevirtual 69, 3) := by decide +kernel
theorem dX6_seal_20 : decode cX6_seal 20 = .ok (.invokevirtual 65, 3) := by decide +kernel
theorem dX6_seal_23 : decode cX6_seal 23 = .ok (.ireturn, 1) := by decide +kernel
theorem dX6_open_0 : decode cX6_open 0 = .ok (.aload_n 0, 1) := by decide +kernel
theorem dX6_open_1 : decode cX6_open 1 = .ok (.getfield 22, 3) := by decide +kernel
theorem dX6_open_4 : decode cX6_open 4 = .ok (.aload_n 0, 1) := by decide +kernel
theorem dX6_open_5 : decode cX6_open 5 = .ok (.getfield 10, 3) := by decide +kernel
theorem dX6_open_8 : decode cX6_open 8 = .ok (.invokevirtual 57, 3) := by decide +kernel
theorem dX6_open_11 : decode cX6_open 11 = .ok (.aload_n 0, 1) := by decide +kernel
theorem dX6_open_12 : decode cX6_open 12 = .ok (.aload_n 0, 1) := by decide +kernel
theorem dX6_open_13 : decode cX6_open 13 = .ok (.getfield 10, 3) := by decide +kernel
theorem dX6_open_16 : decode cX6_open 16 = .ok (.iload_n 1, 1) := by decide +kernel
theorem dX6_open_17 : decode cX6_open 17 = .ok (.invokevirtual 72, 3) := by decide +kernel
theorem dX6_open_20 : decode cX6_open 20 = .ok (.invokevirtual 65, 3) := by decide +kernel
theorem dX6_open_23 : decode cX6_open 23 = .ok (.ireturn, 1) := by decide +kernel
theorem dX6_wet_0 : decode cX6_wet 0 = .ok (.aload_n 0, 1) := by decide +kernel
theorem dX6_wet_1 : decode cX6_wet 1 = .ok (.getfield 22, 3) := by decide +kernel
theorem dX6_wet_4 : decode cX6_wet 4 = .ok (.aload_n 0, 1) := by decide +kernel
theorem dX6_wet_5 : decode cX6_wet 5 = .ok (.getfield 10, 3) := by decide +kernel
theorem dX6_wet_8 : decode cX6_wet 8 = .ok (.invokevirtual 57, 3) := by decide +kernel
theorem dX6_wet_11 : decode cX6_wet 11 = .ok (.aload_n 0, 1) := by decide +kernel
theorem dX6_wet_12 : decode cX6_wet 12 = .ok (.aload_n 0, 1) := by decide +kernel
theorem dX6_wet_13 : decode cX6_wet 13 = .ok (.getfield 10, 3) := by decide +kernel
theorem dX6_wet_16 : decode cX6_wet 16 = .ok (.iload_n 1, 1) := by decide +kernel
theorem dX6_wet_17 : decode cX6_wet 17 = .ok (.invokevirtual 75, 3) := by decide +kernel
theorem dX6_wet_20 : decode cX6_wet 20 = .ok (.invokevirtual 65, 3) := by decide +kernel
theorem dX6_wet_23 : decode cX6_wet 23 = .ok (.ireturn, 1) := by decide +kernel
theorem dX6_move_0 : decode cX6_move 0 = .ok (.aload_n 0, 1) := by decide +kernel
theorem dX6_move_1 : decode cX6_move 1 = .ok (.getfield 22, 3) := by decide +kernel
theorem dX6_move_4 : decode cX6_move 4 = .ok (.aload_n 0, 1) := by decide +kernel
theorem dX6_move_5 : decode cX6_move 5 = .ok (.getfield 10, 3) := by decide +kernel
theorem dX6_move_8 : decode cX6_move 8 = .ok (.invokevirtual 57, 3) := by decide +kernel
theorem dX6_move_11 : decode cX6_move 11 = .ok (.aload_n 0, 1) := by decide +kernel
theorem dX6_move_12 : decode cX6_move 12 = .ok (.aload_n 0, 1) := by decide +kernel
theorem dX6_move_13 : decode cX6_move 13 = .ok (.getfield 10, 3) := by decide +kernel
theorem dX6_move_16 : decode cX6_move 16 = .ok (.iload_n 1, 1) := by decide +kernel
theorem dX6_move_17 : decode cX6_move 17 = .ok (.iload_n 2, 1) := by decide +kernel
theorem dX6_move_18 : decode cX6_move 18 = .ok (.invokevirtual 78, 3) := by decide +kernel
theorem dX6_move_21 : decode cX6_move 21 = .ok (.invokevirtual 65, 3) := by decide +kernel
theorem dX6_move_24 : decode cX6_move 24 = .ok (.ireturn, 1) := by decide +kernel
theorem dX6_lotCount_0 : decode cX6_lotCount 0 = .ok (.aload_n 0, 1) := by decide +kernel
theorem dX6_lotCount_1 : decode cX6_lotCount 1 = .ok (.getfield 10, 3) := by decide +kernel
theorem dX6_lotCount_4 : decode cX6_lotCount 4 = .ok (.getfield 82, 3) := by decide +kernel
theorem dX6_lotCount_7 : decode cX6_lotCount 7 = .ok (.getfield 86, 3) := by decide +kernel
theorem dX6_lotCount_10 : decode cX6_lotCount 10 = .ok (.ireturn, 1) := by decide +kernel
theorem dX6_lot_0 : decode cX6_lot 0 = .ok (.iload_n 1, 1) := by decide +kernel
theorem dX6_lot_1 : decode cX6_lot 1 = .ok (.aload_n 0, 1) := by decide +kernel
theorem dX6_lot_2 : decode cX6_lot 2 = .ok (.getfield 10, 3) := by decide +kernel
theorem dX6_lot_5 : decode cX6_lot 5 = .ok (.getfield 82, 3) := by decide +kernel
theorem dX6_lot_8 : decode cX6_lot 8 = .ok (.getfield 86, 3) := by decide +kernel
theorem dX6_lot_11 : decode cX6_lot 11 = .ok (.invokestatic 91, 3) := by decide +kernel
theorem dX6_lot_14 : decode cX6_lot 14 = .ok (.aload_n 0, 1) := by decide +kernel
theorem dX6_lot_15 : decode cX6_lot 15 = .ok (.getfield 10, 3) := by decide +kernel
theorem dX6_lot_18 : decode cX6_lot 18 = .ok (.getfield 82, 3) := by decide +kernel
theorem dX6_lot_21 : decode cX6_lot 21 = .ok (.getfield 95, 3) := by decide +kernel
theorem dX6_lot_24 : decode cX6_lot 24 = .ok (.iload_n 1, 1) := by decide +kernel
theorem dX6_lot_25 : decode cX6_lot 25 = .ok (.iaload, 1) := by decide +kernel
theorem dX6_lot_26 : decode cX6_lot 26 = .ok (.ireturn, 1) := by decide +kernel
theorem dX6_quantity_0 : decode cX6_quantity 0 = .ok (.aload_n 0, 1) := by decide +kernel
theorem dX6_quantity_1 : decode cX6_quantity 1 = .ok (.getfield 10, 3) := by decide +kernel
theorem dX6_quantity_4 : decode cX6_quantity 4 = .ok (.getfield 82, 3) := by decide +kernel
theorem dX6_quantity_7 : decode cX6_quantity 7 = .ok (.getfield 105, 3) := by decide +kernel
theorem dX6_quantity_10 : decode cX6_quantity 10 = .ok (.aload_n 0, 1) := by decide +kernel
theorem dX6_quantity_11 : decode cX6_quantity 11 = .ok (.iload_n 1, 1) := by decide +kernel
theorem dX6_quantity_12 : decode cX6_quantity 12 = .ok (.invokevirtual 102, 3) := by decide +kernel
theorem dX6_quantity_15 : decode cX6_quantity 15 = .ok (.iaload, 1) := by decide +kernel
theorem dX6_quantity_16 : decode cX6_quantity 16 = .ok (.ireturn, 1) := by decide +kernel
theorem dX6_price_0 : decode cX6_price 0 = .ok (.aload_n 0, 1) := by decide +kernel
theorem dX6_price_1 : decode cX6_price 1 = .ok (.getfield 10, 3) := by decide +kernel
theorem dX6_price_4 : decode cX6_price 4 = .ok (.getfield 82, 3) := by decide +kernel
theorem dX6_price_7 : decode cX6_price 7 = .ok (.getfield 108, 3) := by decide +kernel
theorem dX6_price_10 : decode cX6_price 10 = .ok (.aload_n 0, 1) := by decide +kernel
theorem dX6_price_11 : decode cX6_price 11 = .ok (.iload_n 1, 1) := by decide +kernel
theorem dX6_price_12 : decode cX6_price 12 = .ok (.invokevirtual 102, 3) := by decide +kernel
theorem dX6_price_15 : decode cX6_price 15 = .ok (.iaload, 1) := by decide +kernel
theorem dX6_price_16 : decode cX6_price 16 = .ok (.ireturn, 1) := by decide +kernel
theorem dX6_value_0 : decode cX6_value 0 = .ok (.aload_n 0, 1) := by decide +kernel
theorem dX6_value_1 : decode cX6_value 1 = .ok (.getfield 10, 3) := by decide +kernel
theorem dX6_value_4 : decode cX6_value 4 = .ok (.getfield 82, 3) := by decide +kernel
theorem dX6_value_7 : decode cX6_value 7 = .ok (.aload_n 0, 1) := by decide +kernel
theorem dX6_value_8 : decode cX6_value 8 = .ok (.iload_n 1, 1) := by decide +kernel
theorem dX6_value_9 : decode cX6_value 9 = .ok (.invokevirtual 102, 3) := by decide +kernel
theorem dX6_value_12 : decode cX6_value 12 = .ok (.invokevirtual 111, 3) := by decide +kernel
theorem dX6_value_15 : decode cX6_value 15 = .ok (.ireturn, 1) := by decide +kernel
theorem dX6_bay_0 : decode cX6_bay 0 = .ok (.aload_n 0, 1) := by decide +kernel
theorem dX6_bay_1 : decode cX6_bay 1 = .ok (.getfield 10, 3) := by decide +kernel
theorem dX6_bay_4 : decode cX6_bay 4 = .ok (.getfield 82, 3) := by decide +kernel
theorem dX6_bay_7 : decode cX6_bay 7 = .ok (.getfield 114, 3) := by decide +kernel
theorem dX6_bay_10 : decode cX6_bay 10 = .ok (.aload_n 0, 1) := by decide +kernel
theorem dX6_bay_11 : decode cX6_bay 11 = .ok (.iload_n 1, 1) := by decide +kernel
theorem dX6_bay_12 : decode cX6_bay 12 = .ok (.invokevirtual 102, 3) := by decide +kernel
theorem dX6_bay_15 : decode cX6_bay 15 = .ok (.iaload, 1) := by decide +kernel
theorem dX6_bay_16 : decode cX6_bay 16 = .ok (.ireturn, 1) := by decide +kernel
theorem dX6_isSealed_0 : decode cX6_isSealed 0 = .ok (.aload_n 0, 1) := by decide +kernel
theorem dX6_isSealed_1 : decode cX6_isSealed 1 = .ok (.getfield 10, 3) := by decide +kernel
theorem dX6_isSealed_4 : decode cX6_isSealed 4 = .ok (.getfield 82, 3) := by decide +kernel
theorem dX6_isSealed_7 : decode cX6_isSealed 7 = .ok (.getfield 117, 3) := by decide +kernel
theorem dX6_isSealed_10 : decode cX6_isSealed 10 = .ok (.aload_n 0, 1) := by decide +kernel
theorem dX6_isSealed_11 : decode cX6_isSealed 11 = .ok (.iload_n 1, 1) := by decide +kernel
theorem dX6_isSealed_12 : decode cX6_isSealed 12 = .ok (.invokevirtual 102, 3) := by decide +kernel
theorem dX6_isSealed_15 : decode cX6_isSealed 15 = .ok (.baload, 1) := by decide +kernel
theorem dX6_isSealed_16 : decode cX6_isSealed 16 = .ok (.ireturn, 1) := by decide +kernel
theorem dX6_isDamp_0 : decode cX6_isDamp 0 = .ok (.aload_n 0, 1) := by decide +kernel
theorem dX6_isDamp_1 : decode cX6_isDamp 1 = .ok (.getfield 10, 3) := by decide +kernel
theorem dX6_isDamp_4 : decode cX6_isDamp 4 = .ok (.getfield 82, 3) := by decide +kernel
theorem dX6_isDamp_7 : decode cX6_isDamp 7 = .ok (.getfield 121, 3) := by decide +kernel
theorem dX6_isDamp_10 : decode cX6_isDamp 10 = .ok (.aload_n 0, 1) := by decide +kernel
theorem dX6_isDamp_11 : decode cX6_isDamp 11 = .ok (.iload_n 1, 1) := by decide +kernel
theorem dX6_isDamp_12 : decode cX6_isDamp 12 = .ok (.invokevirtual 102, 3) := by decide +kernel
theorem dX6_isDamp_15 : decode cX6_isDamp 15 = .ok (.baload, 1) := by decide +kernel
theorem dX6_isDamp_16 : decode cX6_isDamp 16 = .ok (.ireturn, 1) := by decide +kernel
theorem dX6_lotAt_0 : decode cX6_lotAt 0 = .ok (.iload_n 1, 1) := by decide +kernel
theorem dX6_lotAt_1 : decode cX6_lotAt 1 = .ok (.bipush 24, 2) := by decide +kernel
theorem dX6_lotAt_3 : decode cX6_lotAt 3 = .ok (.invokestatic 91, 3) := by decide +kernel
theorem dX6_lotAt_6 : decode cX6_lotAt 6 = .ok (.aload_n 0, 1) := by decide +kernel
theorem dX6_lotAt_7 : decode cX6_lotAt 7 = .ok (.getfield 10, 3) := by decide +kernel
theorem dX6_lotAt_10 : decode cX6_lotAt 10 = .ok (.getfield 82, 3) := by decide +kernel
theorem dX6_lotAt_13 : decode cX6_lotAt 13 = .ok (.iload_n 1, 1) := by decide +kernel
theorem dX6_lotAt_14 : decode cX6_lotAt 14 = .ok (.invokevirtual 124, 3) := by decide +kernel
theorem dX6_lotAt_17 : decode cX6_lotAt 17 = .ok (.istore_n 2, 1) := by decide +kernel
theorem dX6_lotAt_18 : decode cX6_lotAt 18 = .ok (.iload_n 2, 1) := by decide +kernel
theorem dX6_lotAt_19 : decode cX6_lotAt 19 = .ok (.ifCond .ge 13, 3) := by decide +kernel
theorem dX6_lotAt_22 : decode cX6_lotAt 22 = .ok (.new 127, 3) := by decide +kernel
theorem dX6_lotAt_25 : decode cX6_lotAt 25 = .ok (.dup, 1) := by decide +kernel
theorem dX6_lotAt_26 : decode cX6_lotAt 26 = .ok (.ldc 129, 2) := by decide +kernel
theorem dX6_lotAt_28 : decode cX6_lotAt 28 = .ok (.invokespecial 131, 3) := by decide +kernel
theorem dX6_lotAt_31 : decode cX6_lotAt 31 = .ok (.athrow, 1) := by decide +kernel
theorem dX6_lotAt_32 : decode cX6_lotAt 32 = .ok (.aload_n 0, 1) := by decide +kernel
theorem dX6_lotAt_33 : decode cX6_lotAt 33 = .ok (.getfield 10, 3) := by decide +kernel
theorem dX6_lotAt_36 : decode cX6_lotAt 36 = .ok (.getfield 82, 3) := by decide +kernel
theorem dX6_lotAt_39 : decode cX6_lotAt 39 = .ok (.getfield 95, 3) := by decide +kernel
theorem dX6_lotAt_42 : decode cX6_lotAt 42 = .ok (.iload_n 2, 1) := by decide +kernel
theorem dX6_lotAt_43 : decode cX6_lotAt 43 = .ok (.iaload, 1) := by decide +kernel
theorem dX6_lotAt_44 : decode cX6_lotAt 44 = .ok (.ireturn, 1) := by decide +kernel
theorem dX6_nextEmptyBay_0 : decode cX6_nextEmptyBay 0 = .ok (.iload_n 1, 1) := by decide +kernel
theorem dX6_nextEmptyBay_1 : decode cX6_nextEmptyBay 1 = .ok (.bipush 24, 2) := by decide +kernel
theorem dX6_nextEmptyBay_3 : decode cX6_nextEmptyBay 3 = .ok (.invokestatic 91, 3) := by decide +kernel
theorem dX6_nextEmptyBay_6 : decode cX6_nextEmptyBay 6 = .ok (.iload_n 1, 1) := by decide +kernel
theorem dX6_nextEmptyBay_7 : decode cX6_nextEmptyBay 7 = .ok (.istore_n 2, 1) := by decide +kernel
theorem dX6_nextEmptyBay_8 : decode cX6_nextEmptyBay 8 = .ok (.iload_n 2, 1) := by decide +kernel
theorem dX6_nextEmptyBay_9 : decode cX6_nextEmptyBay 9 = .ok (.bipush 24, 2) := by decide +kernel
theorem dX6_nextEmptyBay_11 : decode cX6_nextEmptyBay 11 = .ok (.if_icmp .ge 25, 3) := by decide +kernel
theorem dX6_nextEmptyBay_14 : decode cX6_nextEmptyBay 14 = .ok (.aload_n 0, 1) := by decide +kernel
theorem dX6_nextEmptyBay_15 : decode cX6_nextEmptyBay 15 = .ok (.getfield 10, 3) := by decide +kernel
theorem dX6_nextEmptyBay_18 : decode cX6_nextEmptyBay 18 = .ok (.getfield 82, 3) := by decide +kernel
theorem dX6_nextEmptyBay_21 : decode cX6_nextEmptyBay 21 = .ok (.iload_n 2, 1) := by decide +kernel
theorem dX6_nextEmptyBay_22 : decode cX6_nextEmptyBay 22 = .ok (.invokevirtual 124, 3) := by decide +kernel
theorem dX6_nextEmptyBay_25 : decode cX6_nextEmptyBay 25 = .ok (.ifCond .ge 5, 3) := by decide +kernel
theorem dX6_nextEmptyBay_28 : decode cX6_nextEmptyBay 28 = .ok (.iload_n 2, 1) := by decide +kernel
theorem dX6_nextEmptyBay_29 : decode cX6_nextEmptyBay 29 = .ok (.ireturn, 1) := by decide +kernel
theorem dX6_nextEmptyBay_30 : decode cX6_nextEmptyBay 30 = .ok (.iinc 2 1, 3) := by decide +kernel
theorem dX6_nextEmptyBay_33 : decode cX6_nextEmptyBay 33 = .ok (.goto (-25), 3) := by decide +kernel
theorem dX6_nextEmptyBay_36 : decode cX6_nextEmptyBay 36 = .ok (.new 127, 3) := by decide +kernel
theorem dX6_nextEmptyBay_39 : decode cX6_nextEmptyBay 39 = .ok (.dup, 1) := by decide +kernel
theorem dX6_nextEmptyBay_40 : decode cX6_nextEmptyBay 40 = .ok (.ldc 134, 2) := by decide +kernel
theorem dX6_nextEmptyBay_42 : decode cX6_nextEmptyBay 42 = .ok (.invokespecial 131, 3) := by decide +kernel
theorem dX6_nextEmptyBay_45 : decode cX6_nextEmptyBay 45 = .ok (.athrow, 1) := by decide +kernel
theorem dX6_quantityOfKind_0 : decode cX6_quantityOfKind 0 = .ok (.iload_n 1, 1) := by decide +kernel
theorem dX6_quantityOfKind_1 : decode cX6_quantityOfKind 1 = .ok (.invokestatic 136, 3) := by decide +kernel
theorem dX6_quantityOfKind_4 : decode cX6_quantityOfKind 4 = .ok (.ifCond .ne 13, 3) := by decide +kernel
theorem dX6_quantityOfKind_7 : decode cX6_quantityOfKind 7 = .ok (.new 140, 3) := by decide +kernel
theorem dX6_quantityOfKind_10 : decode cX6_quantityOfKind 10 = .ok (.dup, 1) := by decide +kernel
theorem dX6_quantityOfKind_11 : decode cX6_quantityOfKind 11 = .ok (.ldc 142, 2) := by decide +kernel
theorem dX6_quantityOfKind_13 : decode cX6_quantityOfKind 13 = .ok (.invokespecial 144, 3) := by decide +kernel
theorem dX6_quantityOfKind_16 : decode cX6_quantityOfKind 16 = .ok (.athrow, 1) := by decide +kernel
theorem dX6_quantityOfKind_17 : decode cX6_quantityOfKind 17 = .ok (.aload_n 0, 1) := by decide +kernel
theorem dX6_quantityOfKind_18 : decode cX6_quantityOfKind 18 = .ok (.getfield 10, 3) := by decide +kernel
theorem dX6_quantityOfKind_21 : decode cX6_quantityOfKind 21 = .ok (.getfield 82, 3) := by decide +kernel
theorem dX6_quantityOfKind_24 : decode cX6_quantityOfKind 24 = .ok (.iload_n 1, 1) := by decide +kernel
theorem dX6_quantityOfKind_25 : decode cX6_quantityOfKind 25 = .ok (.invokevirtual 145, 3) := by decide +kernel
theorem dX6_quantityOfKind_28 : decode cX6_quantityOfKind 28 = .ok (.ireturn, 1) := by decide +kernel
theorem dX6_lotByValue_0 : decode cX6_lotByValue 0 = .ok (.aload_n 0, 1) := by decide +kernel
theorem dX6_lotByValue_1 : decode cX6_lotByValue 1 = .ok (.getfield 10, 3) := by decide +kernel
theorem dX6_lotByValue_4 : decode cX6_lotByValue 4 = .ok (.getfield 82, 3) := by decide +kernel
theorem dX6_lotByValue_7 : decode cX6_lotByValue 7 = .ok (.iload_n 1, 1) := by decide +kernel
theorem dX6_lotByValue_8 : decode cX6_lotByValue 8 = .ok (.invokevirtual 149, 3) := by decide +kernel
theorem dX6_lotByValue_11 : decode cX6_lotByValue 11 = .ok (.istore_n 2, 1) := by decide +kernel
theorem dX6_lotByValue_12 : decode cX6_lotByValue 12 = .ok (.iload_n 2, 1) := by decide +kernel
theorem dX6_lotByValue_13 : decode cX6_lotByValue 13 = .ok (.ifCond .ge 13, 3) := by decide +kernel
theorem dX6_lotByValue_16 : decode cX6_lotByValue 16 = .ok (.new 152, 3) := by decide +kernel
theorem dX6_lotByValue_19 : decode cX6_lotByValue 19 = .ok (.dup, 1) := by decide +kernel
theorem dX6_lotByValue_20 : decode cX6_lotByValue 20 = .ok (.ldc 154, 2) := by decide +kernel
theorem dX6_lotByValue_22 : decode cX6_lotByValue 22 = .ok (.invokespecial 156, 3) := by decide +kernel
theorem dX6_lotByValue_25 : decode cX6_lotByValue 25 = .ok (.athrow, 1) := by decide +kernel
theorem dX6_lotByValue_26 : decode cX6_lotByValue 26 = .ok (.aload_n 0, 1) := by decide +kernel
theorem dX6_lotByValue_27 : decode cX6_lotByValue 27 = .ok (.getfield 10, 3) := by decide +kernel
theorem dX6_lotByValue_30 : decode cX6_lotByValue 30 = .ok (.getfield 82, 3) := by decide +kernel
theorem dX6_lotByValue_33 : decode cX6_lotByValue 33 = .ok (.getfield 95, 3) := by decide +kernel
theorem dX6_lotByValue_36 : decode cX6_lotByValue 36 = .ok (.iload_n 2, 1) := by decide +kernel
theorem dX6_lotByValue_37 : decode cX6_lotByValue 37 = .ok (.iaload, 1) := by decide +kernel
theorem dX6_lotByValue_38 : decode cX6_lotByValue 38 = .ok (.ireturn, 1) := by decide +kernel
theorem dX6_addStep_0 : decode cX6_addStep 0 = .ok (.aload_n 0, 1) := by decide +kernel
theorem dX6_addStep_1 : decode cX6_addStep 1 = .ok (.getfield 22, 3) := by decide +kernel
theorem dX6_addStep_4 : decode cX6_addStep 4 = .ok (.aload_n 0, 1) := by decide +kernel
theorem dX6_addStep_5 : decode cX6_addStep 5 = .ok (.getfield 10, 3) := by decide +kernel
theorem dX6_addStep_8 : decode cX6_addStep 8 = .ok (.invokevirtual 57, 3) := by decide +kernel
theorem dX6_addStep_11 : decode cX6_addStep 11 = .ok (.aload_n 0, 1) := by decide +kernel
theorem dX6_addStep_12 : decode cX6_addStep 12 = .ok (.aload_n 0, 1) := by decide +kernel
theorem dX6_addStep_13 : decode cX6_addStep 13 = .ok (.getfield 10, 3) := by decide +kernel
theorem dX6_addStep_16 : decode cX6_addStep 16 = .ok (.getfield 157, 3) := by decide +kernel
theorem dX6_addStep_19 : decode cX6_addStep 19 = .ok (.iload_n 1, 1) := by decide +kernel
theorem dX6_addStep_20 : decode cX6_addStep 20 = .ok (.iload_n 2, 1) := by decide +kernel
theorem dX6_addStep_21 : decode cX6_addStep 21 = .ok (.invokevirtual 161, 3) := by decide +kernel
theorem dX6_addStep_24 : decode cX6_addStep 24 = .ok (.invokevirtual 65, 3) := by decide +kernel
theorem dX6_addStep_27 : decode cX6_addStep 27 = .ok (.ireturn, 1) := by decide +kernel
theorem dX6_removeStep_0 : decode cX6_removeStep 0 = .ok (.aload_n 0, 1) := by decide +kernel
theorem dX6_removeStep_1 : decode cX6_removeStep 1 = .ok (.getfield 22, 3) := by decide +kernel
theorem dX6_removeStep_4 : decode cX6_removeStep 4 = .ok (.aload_n 0, 1) := by decide +kernel
theorem dX6_removeStep_5 : decode cX6_removeStep 5 = .ok (.getfield 10, 3) := by decide +kernel
theorem dX6_removeStep_8 : decode cX6_removeStep 8 = .ok (.invokevirtual 57, 3) := by decide +kernel
theorem dX6_removeStep_11 : decode cX6_removeStep 11 = .ok (.aload_n 0, 1) := by decide +kernel
theorem dX6_removeStep_12 : decode cX6_removeStep 12 = .ok (.aload_n 0, 1) := by decide +kernel
theorem dX6_removeStep_13 : decode cX6_removeStep 13 = .ok (.getfield 10, 3) := by decide +kernel
theorem dX6_removeStep_16 : decode cX6_removeStep 16 = .ok (.getfield 157, 3) := by decide +kernel
theorem dX6_removeStep_19 : decode cX6_removeStep 19 = .ok (.iload_n 1, 1) := by decide +kernel
theorem dX6_removeStep_20 : decode cX6_removeStep 20 = .ok (.invokevirtual 166, 3) := by decide +kernel
theorem dX6_removeStep_23 : decode cX6_removeStep 23 = .ok (.invokevirtual 65, 3) := by decide +kernel
theorem dX6_removeStep_26 : decode cX6_removeStep 26 = .ok (.ireturn, 1) := by decide +kernel
theorem dX6_stepCount_0 : decode cX6_stepCount 0 = .ok (.aload_n 0, 1) := by decide +kernel
theorem dX6_stepCount_1 : decode cX6_stepCount 1 = .ok (.getfield 10, 3) := by decide +kernel
theorem dX6_stepCount_4 : decode cX6_stepCount 4 = .ok (.getfield 157, 3) := by decide +kernel
theorem dX6_stepCount_7 : decode cX6_stepCount 7 = .ok (.getfield 169, 3) := by decide +kernel
theorem dX6_stepCount_10 : decode cX6_stepCount 10 = .ok (.ireturn, 1) := by decide +kernel
theorem dX6_threshold_0 : decode cX6_threshold 0 = .ok (.iload_n 1, 1) := by decide +kernel
theorem dX6_threshold_1 : decode cX6_threshold 1 = .ok (.aload_n 0, 1) := by decide +kernel
theorem dX6_threshold_2 : decode cX6_threshold 2 = .ok (.getfield 10, 3) := by decide +kernel
theorem dX6_threshold_5 : decode cX6_threshold 5 = .ok (.getfield 157, 3) := by decide +kernel
theorem dX6_threshold_8 : decode cX6_threshold 8 = .ok (.getfield 169, 3) := by decide +kernel
theorem dX6_threshold_11 : decode cX6_threshold 11 = .ok (.invokestatic 91, 3) := by decide +kernel
theorem dX6_threshold_14 : decode cX6_threshold 14 = .ok (.aload_n 0, 1) := by decide +kernel
theorem dX6_threshold_15 : decode cX6_threshold 15 = .ok (.getfield 10, 3) := by decide +kernel
theorem dX6_threshold_18 : decode cX6_threshold 18 = .ok (.getfield 157, 3) := by decide +kernel
theorem dX6_threshold_21 : decode cX6_threshold 21 = .ok (.getfield 170, 3) := by decide +kernel
theorem dX6_threshold_24 : decode cX6_threshold 24 = .ok (.iload_n 1, 1) := by decide +kernel
theorem dX6_threshold_25 : decode cX6_threshold 25 = .ok (.iaload, 1) := by decide +kernel
theorem dX6_threshold_26 : decode cX6_threshold 26 = .ok (.ireturn, 1) := by decide +kernel
theorem dX6_rate_0 : decode cX6_rate 0 = .ok (.iload_n 1, 1) := by decide +kernel
theorem dX6_rate_1 : decode cX6_rate 1 = .ok (.aload_n 0, 1) := by decide +kernel
theorem dX6_rate_2 : decode cX6_rate 2 = .ok (.getfield 10, 3) := by decide +kernel
theorem dX6_rate_5 : decode cX6_rate 5 = .ok (.getfield 157, 3) := by decide +kernel
theorem dX6_rate_8 : decode cX6_rate 8 = .ok (.getfield 169, 3) := by decide +kernel
theorem dX6_rate_11 : decode cX6_rate 11 = .ok (.invokestatic 91, 3) := by decide +kernel
theorem dX6_rate_14 : decode cX6_rate 14 = .ok (.aload_n 0, 1) := by decide +kernel
theorem dX6_rate_15 : decode cX6_rate 15 = .ok (.getfield 10, 3) := by decide +kernel
theorem dX6_rate_18 : decode cX6_rate 18 = .ok (.getfield 157, 3) := by decide +kernel
theorem dX6_rate_21 : decode cX6_rate 21 = .ok (.getfield 173, 3) := by decide +kernel
theorem dX6_rate_24 : decode cX6_rate 24 = .ok (.iload_n 1, 1) := by decide +kernel
theorem dX6_rate_25 : decode cX6_rate 25 = .ok (.iaload, 1) := by decide +kernel
theorem dX6_rate_26 : decode cX6_rate 26 = .ok (.ireturn, 1) := by decide +kernel
theorem dX6_dutyOn_0 : decode cX6_dutyOn 0 = .ok (.iload_n 1, 1) := by decide +kernel
theorem dX6_dutyOn_1 : decode cX6_dutyOn 1 = .ok (.invokestatic 176, 3) := by decide +kernel
theorem dX6_dutyOn_4 : decode cX6_dutyOn 4 = .ok (.aload_n 0, 1) := by decide +kernel
theorem dX6_dutyOn_5 : decode cX6_dutyOn 5 = .ok (.getfield 10, 3) := by decide +kernel
theorem dX6_dutyOn_8 : decode cX6_dutyOn 8 = .ok (.getfield 157, 3) := by decide +kernel
theorem dX6_dutyOn_11 : decode cX6_dutyOn 11 = .ok (.iload_n 1, 1) := by decide +kernel
theorem dX6_dutyOn_12 : decode cX6_dutyOn 12 = .ok (.invokevirtual 180, 3) := by decide +kernel
theorem dX6_dutyOn_15 : decode cX6_dutyOn 15 = .ok (.ireturn, 1) := by decide +kernel
theorem dX6_dutyOnByCoins_0 : decode cX6_dutyOnByCoins 0 = .ok (.iload_n 1, 1) := by decide +kernel
theorem dX6_dutyOnByCoins_1 : decode cX6_dutyOnByCoins 1 = .ok (.invokestatic 176, 3) := by decide +kernel
theorem dX6_dutyOnByCoins_4 : decode cX6_dutyOnByCoins 4 = .ok (.aload_n 0, 1) := by decide +kernel
theorem dX6_dutyOnByCoins_5 : decode cX6_dutyOnByCoins 5 = .ok (.getfield 10, 3) := by decide +kernel
theorem dX6_dutyOnByCoins_8 : decode cX6_dutyOnByCoins 8 = .ok (.getfield 157, 3) := by decide +kernel
theorem dX6_dutyOnByCoins_11 : decode cX6_dutyOnByCoins 11 = .ok (.iload_n 1, 1) := by decide +kernel
theorem dX6_dutyOnByCoins_12 : decode cX6_dutyOnByCoins 12 = .ok (.invokevirtual 183, 3) := by decide +kernel
theorem dX6_dutyOnByCoins_15 : decode cX6_dutyOnByCoins 15 = .ok (.ireturn, 1) := by decide +kernel
theorem dX6_duty_0 : decode cX6_duty 0 = .ok (.aload_n 0, 1) := by decide +kernel
theorem dX6_duty_1 : decode cX6_duty 1 = .ok (.getfield 10, 3) := by decide +kernel
theorem dX6_duty_4 : decode cX6_duty 4 = .ok (.aload_n 0, 1) := by decide +kernel
theorem dX6_duty_5 : decode cX6_duty 5 = .ok (.iload_n 1, 1) := by decide +kernel
theorem dX6_duty_6 : decode cX6_duty 6 = .ok (.invokevirtual 102, 3) := by decide +kernel
theorem dX6_duty_9 : decode cX6_duty 9 = .ok (.invokevirtual 186, 3) := by decide +kernel
theorem dX6_duty_12 : decode cX6_duty 12 = .ok (.ireturn, 1) := by decide +kernel
theorem dX6_totalDuty_0 : decode cX6_totalDuty 0 = .ok (.aload_n 0, 1) := by decide +kernel
theorem dX6_totalDuty_1 : decode cX6_totalDuty 1 = .ok (.getfield 10, 3) := by decide +kernel
theorem dX6_totalDuty_4 : decode cX6_totalDuty 4 = .ok (.invokevirtual 189, 3) := by decide +kernel
theorem dX6_totalDuty_7 : decode cX6_totalDuty 7 = .ok (.ireturn, 1) := by decide +kernel
theorem dX6_totalDutyByBays_0 : decode cX6_totalDutyByBays 0 = .ok (.aload_n 0, 1) := by decide +kernel
theorem dX6_totalDutyByBays_1 : decode cX6_totalDutyByBays 1 = .ok (.getfield 10, 3) := by decide +kernel
theorem dX6_totalDutyByBays_4 : decode cX6_totalDutyByBays 4 = .ok (.invokevirtual 193, 3) := by decide +kernel
theorem dX6_totalDutyByBays_7 : decode cX6_totalDutyByBays 7 = .ok (.ireturn, 1) := by decide +kernel
theorem dX6_passDays_0 : decode cX6_passDays 0 = .ok (.aload_n 0, 1) := by decide +kernel
theorem dX6_passDays_1 : decode cX6_passDays 1 = .ok (.getfield 22, 3) := by decide +kernel
theorem dX6_passDays_4 : decode cX6_passDays 4 = .ok (.aload_n 0, 1) := by decide +kernel
theorem dX6_passDays_5 : decode cX6_passDays 5 = .ok (.getfield 10, 3) := by decide +kernel
theorem dX6_passDays_8 : decode cX6_passDays 8 = .ok (.invokevirtual 57, 3) := by decide +kernel
theorem dX6_passDays_11 : decode cX6_passDays 11 = .ok (.aload_n 0, 1) := by decide +kernel
theorem dX6_passDays_12 : decode cX6_passDays 12 = .ok (.aload_n 0, 1) := by decide +kernel
theorem dX6_passDays_13 : decode cX6_passDays 13 = .ok (.getfield 10, 3) := by decide +kernel
theorem dX6_passDays_16 : decode cX6_passDays 16 = .ok (.iload_n 1, 1) := by decide +kernel
theorem dX6_passDays_17 : decode cX6_passDays 17 = .ok (.invokevirtual 196, 3) := by decide +kernel
theorem dX6_passDays_20 : decode cX6_passDays 20 = .ok (.invokevirtual 65, 3) := by decide +kernel
theorem dX6_passDays_23 : decode cX6_passDays 23 = .ok (.ireturn, 1) := by decide +kernel
theorem dX6_day_0 : decode cX6_day 0 = .ok (.aload_n 0, 1) := by decide +kernel
theorem dX6_day_1 : decode cX6_day 1 = .ok (.getfield 10, 3) := by decide +kernel
theorem dX6_day_4 : decode cX6_day 4 = .ok (.getfield 199, 3) := by decide +kernel
theorem dX6_day_7 : decode cX6_day 7 = .ok (.ireturn, 1) := by decide +kernel
theorem dX6_dampCount_0 : decode cX6_dampCount 0 = .ok (.aload_n 0, 1) := by decide +kernel
theorem dX6_dampCount_1 : decode cX6_dampCount 1 = .ok (.getfield 10, 3) := by decide +kernel
theorem dX6_dampCount_4 : decode cX6_dampCount 4 = .ok (.getfield 82, 3) := by decide +kernel
theorem dX6_dampCount_7 : decode cX6_dampCount 7 = .ok (.invokevirtual 202, 3) := by decide +kernel
theorem dX6_dampCount_10 : decode cX6_dampCount 10 = .ok (.ireturn, 1) := by decide +kernel
theorem dX6_dampAfter_0 : decode cX6_dampAfter 0 = .ok (.iload_n 1, 1) := by decide +kernel
theorem dX6_dampAfter_1 : decode cX6_dampAfter 1 = .ok (.ifCond .lt 9, 3) := by decide +kernel
theorem dX6_dampAfter_4 : decode cX6_dampAfter 4 = .ok (.iload_n 1, 1) := by decide +kernel
theorem dX6_dampAfter_5 : decode cX6_dampAfter 5 = .ok (.bipush 30, 2) := by decide +kernel
theorem dX6_dampAfter_7 : decode cX6_dampAfter 7 = .ok (.if_icmp .le 13, 3) := by decide +kernel
theorem dX6_dampAfter_10 : decode cX6_dampAfter 10 = .ok (.new 140, 3) := by decide +kernel
theorem dX6_dampAfter_13 : decode cX6_dampAfter 13 = .ok (.dup, 1) := by decide +kernel
theorem dX6_dampAfter_14 : decode cX6_dampAfter 14 = .ok (.ldc 205, 2) := by decide +kernel
theorem dX6_dampAfter_16 : decode cX6_dampAfter 16 = .ok (.invokespecial 144, 3) := by decide +kernel
theorem dX6_dampAfter_19 : decode cX6_dampAfter 19 = .ok (.athrow, 1) := by decide +kernel
theorem dX6_dampAfter_20 : decode cX6_dampAfter 20 = .ok (.aload_n 0, 1) := by decide +kernel
theorem dX6_dampAfter_21 : decode cX6_dampAfter 21 = .ok (.getfield 16, 3) := by decide +kernel
theorem dX6_dampAfter_24 : decode cX6_dampAfter 24 = .ok (.aload_n 0, 1) := by decide +kernel
theorem dX6_dampAfter_25 : decode cX6_dampAfter 25 = .ok (.getfield 10, 3) := by decide +kernel
theorem dX6_dampAfter_28 : decode cX6_dampAfter 28 = .ok (.invokevirtual 207, 3) := by decide +kernel
theorem dX6_dampAfter_31 : decode cX6_dampAfter 31 = .ok (.iload_n 1, 1) := by decide +kernel
theorem dX6_dampAfter_32 : decode cX6_dampAfter 32 = .ok (.ifCond .le 12, 3) := by decide +kernel
theorem dX6_dampAfter_35 : decode cX6_dampAfter 35 = .ok (.aload_n 0, 1) := by decide +kernel
theorem dX6_dampAfter_36 : decode cX6_dampAfter 36 = .ok (.getfield 16, 3) := by decide +kernel
theorem dX6_dampAfter_39 : decode cX6_dampAfter 39 = .ok (.iload_n 1, 1) := by decide +kernel
theorem dX6_dampAfter_40 : decode cX6_dampAfter 40 = .ok (.invokevirtual 196, 3) := by decide +kernel
theorem dX6_dampAfter_43 : decode cX6_dampAfter 43 = .ok (.pop, 1) := by decide +kernel
theorem dX6_dampAfter_44 : decode cX6_dampAfter 44 = .ok (.aload_n 0, 1) := by decide +kernel
theorem dX6_dampAfter_45 : decode cX6_dampAfter 45 = .ok (.getfield 16, 3) := by decide +kernel
theorem dX6_dampAfter_48 : decode cX6_dampAfter 48 = .ok (.getfield 82, 3) := by decide +kernel
theorem dX6_dampAfter_51 : decode cX6_dampAfter 51 = .ok (.invokevirtual 202, 3) := by decide +kernel
theorem dX6_dampAfter_54 : decode cX6_dampAfter 54 = .ok (.ireturn, 1) := by decide +kernel
theorem dX6_dampReach_0 : decode cX6_dampReach 0 = .ok (.aload_n 0, 1) := by decide +kernel
theorem dX6_dampReach_1 : decode cX6_dampReach 1 = .ok (.getfield 10, 3) := by decide +kernel
theorem dX6_dampReach_4 : decode cX6_dampReach 4 = .ok (.getfield 82, 3) := by decide +kernel
theorem dX6_dampReach_7 : decode cX6_dampReach 7 = .ok (.aload_n 0, 1) := by decide +kernel
theorem dX6_dampReach_8 : decode cX6_dampReach 8 = .ok (.getfield 44, 3) := by decide +kernel
theorem dX6_dampReach_11 : decode cX6_dampReach 11 = .ok (.invokevirtual 210, 3) := by decide +kernel
theorem dX6_dampReach_14 : decode cX6_dampReach 14 = .ok (.ireturn, 1) := by decide +kernel
theorem dX6_dampReachByStretches_0 : decode cX6_dampReachByStretches 0 = .ok (.aload_n 0, 1) := by decide +kernel
theorem dX6_dampReachByStretches_1 : decode cX6_dampReachByStretches 1 = .ok (.getfield 10, 3) := by decide +kernel
theorem dX6_dampReachByStretches_4 : decode cX6_dampReachByStretches 4 = .ok (.getfield 82, 3) := by decide +kernel
theorem dX6_dampReachByStretches_7 : decode cX6_dampReachByStretches 7 = .ok (.invokevirtual 214, 3) := by decide +kernel
theorem dX6_dampReachByStretches_10 : decode cX6_dampReachByStretches 10 = .ok (.ireturn, 1) := by decide +kernel
theorem dX6_destroyedCount_0 : decode cX6_destroyedCount 0 = .ok (.aload_n 0, 1) := by decide +kernel
theorem dX6_destroyedCount_1 : decode cX6_destroyedCount 1 = .ok (.getfield 10, 3) := by decide +kernel
theorem dX6_destroyedCount_4 : decode cX6_destroyedCount 4 = .ok (.getfield 217, 3) := by decide +kernel
theorem dX6_destroyedCount_7 : decode cX6_destroyedCount 7 = .ok (.ireturn, 1) := by decide +kernel
theorem dX6_enqueue_0 : decode cX6_enqueue 0 = .ok (.aload_n 0, 1) := by decide +kernel
theorem dX6_enqueue_1 : decode cX6_enqueue 1 = .ok (.getfield 22, 3) := by decide +kernel
theorem dX6_enqueue_4 : decode cX6_enqueue 4 = .ok (.aload_n 0, 1) := by decide +kernel
theorem dX6_enqueue_5 : decode cX6_enqueue 5 = .ok (.getfield 10, 3) := by decide +kernel
theorem dX6_enqueue_8 : decode cX6_enqueue 8 = .ok (.invokevirtual 57, 3) := by decide +kernel
theorem dX6_enqueue_11 : decode cX6_enqueue 11 = .ok (.aload_n 0, 1) := by decide +kernel
theorem dX6_enqueue_12 : decode cX6_enqueue 12 = .ok (.aload_n 0, 1) := by decide +kernel
theorem dX6_enqueue_13 : decode cX6_enqueue 13 = .ok (.getfield 10, 3) := by decide +kernel
theorem dX6_enqueue_16 : decode cX6_enqueue 16 = .ok (.iload_n 1, 1) := by decide +kernel
theorem dX6_enqueue_17 : decode cX6_enqueue 17 = .ok (.invokevirtual 220, 3) := by decide +kernel
theorem dX6_enqueue_20 : decode cX6_enqueue 20 = .ok (.invokevirtual 65, 3) := by decide +kernel
theorem dX6_enqueue_23 : decode cX6_enqueue 23 = .ok (.ireturn, 1) := by decide +kernel
theorem dX6_audit_0 : decode cX6_audit 0 = .ok (.aload_n 0, 1) := by decide +kernel
theorem dX6_audit_1 : decode cX6_audit 1 = .ok (.getfield 22, 3) := by decide +kernel
theorem dX6_audit_4 : decode cX6_audit 4 = .ok (.aload_n 0, 1) := by decide +kernel
theorem dX6_audit_5 : decode cX6_audit 5 = .ok (.getfield 10, 3) := by decide +kernel
theorem dX6_audit_8 : decode cX6_audit 8 = .ok (.invokevirtual 57, 3) := by decide +kernel
theorem dX6_audit_11 : decode cX6_audit 11 = .ok (.aload_n 0, 1) := by decide +kernel
theorem dX6_audit_12 : decode cX6_audit 12 = .ok (.aload_n 0, 1) := by decide +kernel
theorem dX6_audit_13 : decode cX6_audit 13 = .ok (.getfield 10, 3) := by decide +kernel
theorem dX6_audit_16 : decode cX6_audit 16 = .ok (.invokevirtual 223, 3) := by decide +kernel
theorem dX6_audit_19 : decode cX6_audit 19 = .ok (.invokevirtual 65, 3) := by decide +kernel
theorem dX6_audit_22 : decode cX6_audit 22 = .ok (.ireturn, 1) := by decide +kernel
theorem dX6_queueLength_0 : decode cX6_queueLength 0 = .ok (.aload_n 0, 1) := by decide +kernel
theorem dX6_queueLength_1 : decode cX6_queueLength 1 = .ok (.getfield 10, 3) := by decide +kernel
theorem dX6_queueLength_4 : decode cX6_queueLength 4 = .ok (.getfield 226, 3) := by decide +kernel
theorem dX6_queueLength_7 : decode cX6_queueLength 7 = .ok (.getfield 230, 3) := by decide +kernel
theorem dX6_queueLength_10 : decode cX6_queueLength 10 = .ok (.ireturn, 1) := by decide +kernel
theorem dX6_queued_0 : decode cX6_queued 0 = .ok (.iload_n 1, 1) := by decide +kernel
theorem dX6_queued_1 : decode cX6_queued 1 = .ok (.aload_n 0, 1) := by decide +kernel
theorem dX6_queued_2 : decode cX6_queued 2 = .ok (.getfield 10, 3) := by decide +kernel
theorem dX6_queued_5 : decode cX6_queued 5 = .ok (.getfield 226, 3) := by decide +kernel
theorem dX6_queued_8 : decode cX6_queued 8 = .ok (.getfield 230, 3) := by decide +kernel
theorem dX6_queued_11 : decode cX6_queued 11 = .ok (.invokestatic 91, 3) := by decide +kernel
theorem dX6_queued_14 : decode cX6_queued 14 = .ok (.aload_n 0, 1) := by decide +kernel
theorem dX6_queued_15 : decode cX6_queued 15 = .ok (.getfield 10, 3) := by decide +kernel
theorem dX6_queued_18 : decode cX6_queued 18 = .ok (.getfield 226, 3) := by decide +kernel
theorem dX6_queued_21 : decode cX6_queued 21 = .ok (.getfield 235, 3) := by decide +kernel
theorem dX6_queued_24 : decode cX6_queued 24 = .ok (.iload_n 1, 1) := by decide +kernel
theorem dX6_queued_25 : decode cX6_queued 25 = .ok (.iaload, 1) := by decide +kernel
theorem dX6_queued_26 : decode cX6_queued 26 = .ok (.ireturn, 1) := by decide +kernel
theorem dX6_deposit_0 : decode cX6_deposit 0 = .ok (.aload_n 0, 1) := by decide +kernel
theorem dX6_deposit_1 : decode cX6_deposit 1 = .ok (.getfield 22, 3) := by decide +kernel
theorem dX6_deposit_4 : decode cX6_deposit 4 = .ok (.aload_n 0, 1) := by decide +kernel
theorem dX6_deposit_5 : decode cX6_deposit 5 = .ok (.getfield 10, 3) := by decide +kernel
theorem dX6_deposit_8 : decode cX6_deposit 8 = .ok (.invokevirtual 57, 3) := by decide +kernel
theorem dX6_deposit_11 : decode cX6_deposit 11 = .ok (.aload_n 0, 1) := by decide +kernel
theorem dX6_deposit_12 : decode cX6_deposit 12 = .ok (.aload_n 0, 1) := by decide +kernel
theorem dX6_deposit_13 : decode cX6_deposit 13 = .ok (.getfield 10, 3) := by decide +kernel
theorem dX6_deposit_16 : decode cX6_deposit 16 = .ok (.iload_n 1, 1) := by decide +kernel
theorem dX6_deposit_17 : decode cX6_deposit 17 = .ok (.invokevirtual 236, 3) := by decide +kernel
theorem dX6_deposit_20 : decode cX6_deposit 20 = .ok (.invokevirtual 65, 3) := by decide +kernel
theorem dX6_deposit_23 : decode cX6_deposit 23 = .ok (.ireturn, 1) := by decide +kernel
theorem dX6_release_0 : decode cX6_release 0 = .ok (.aload_n 0, 1) := by decide +kernel
theorem dX6_release_1 : decode cX6_release 1 = .ok (.getfield 22, 3) := by decide +kernel
theorem dX6_release_4 : decode cX6_release 4 = .ok (.aload_n 0, 1) := by decide +kernel
theorem dX6_release_5 : decode cX6_release 5 = .ok (.getfield 10, 3) := by decide +kernel
theorem dX6_release_8 : decode cX6_release 8 = .ok (.invokevirtual 57, 3) := by decide +kernel
theorem dX6_release_11 : decode cX6_release 11 = .ok (.aload_n 0, 1) := by decide +kernel
theorem dX6_release_12 : decode cX6_release 12 = .ok (.aload_n 0, 1) := by decide +kernel
theorem dX6_release_13 : decode cX6_release 13 = .ok (.getfield 10, 3) := by decide +kernel
theorem dX6_release_16 : decode cX6_release 16 = .ok (.iload_n 1, 1) := by decide +kernel
theorem dX6_release_17 : decode cX6_release 17 = .ok (.invokevirtual 239, 3) := by decide +kernel
theorem dX6_release_20 : decode cX6_release 20 = .ok (.invokevirtual 65, 3) := by decide +kernel
theorem dX6_release_23 : decode cX6_release 23 = .ok (.ireturn, 1) := by decide +kernel
theorem dX6_bond_0 : decode cX6_bond 0 = .ok (.aload_n 0, 1) := by decide +kernel
theorem dX6_bond_1 : decode cX6_bond 1 = .ok (.getfield 10, 3) := by decide +kernel
theorem dX6_bond_4 : decode cX6_bond 4 = .ok (.getfield 242, 3) := by decide +kernel
theorem dX6_bond_7 : decode cX6_bond 7 = .ok (.ireturn, 1) := by decide +kernel
theorem dX6_collected_0 : decode cX6_collected 0 = .ok (.aload_n 0, 1) := by decide +kernel
theorem dX6_collected_1 : decode cX6_collected 1 = .ok (.getfield 10, 3) := by decide +kernel
theorem dX6_collected_4 : decode cX6_collected 4 = .ok (.getfield 245, 3) := by decide +kernel
theorem dX6_collected_7 : decode cX6_collected 7 = .ok (.ireturn, 1) := by decide +kernel
theorem dX6_mostReleases_0 : decode cX6_mostReleases 0 = .ok (.aload_n 0, 1) := by decide +kernel
theorem dX6_mostReleases_1 : decode cX6_mostReleases 1 = .ok (.getfield 10, 3) := by decide +kernel
theorem dX6_mostReleases_4 : decode cX6_mostReleases 4 = .ok (.aload_n 0, 1) := by decide +kernel
theorem dX6_mostReleases_5 : decode cX6_mostReleases 5 = .ok (.getfield 40, 3) := by decide +kernel
theorem dX6_mostReleases_8 : decode cX6_mostReleases 8 = .ok (.invokevirtual 248, 3) := by decide +kernel
theorem dX6_mostReleases_11 : decode cX6_mostReleases 11 = .ok (.ireturn, 1) := by decide +kernel
theorem dX6_meanValue_0 : decode cX6_meanValue 0 = .ok (.aload_n 0, 1) := by decide +kernel
theorem dX6_meanValue_1 : decode cX6_meanValue 1 = .ok (.getfield 10, 3) := by decide +kernel
theorem dX6_meanValue_4 : decode cX6_meanValue 4 = .ok (.getfield 82, 3) := by decide +kernel
theorem dX6_meanValue_7 : decode cX6_meanValue 7 = .ok (.getfield 86, 3) := by decide +kernel
theorem dX6_meanValue_10 : decode cX6_meanValue 10 = .ok (.istore_n 1, 1) := by decide +kernel
theorem dX6_meanValue_11 : decode cX6_meanValue 11 = .ok (.iload_n 1, 1) := by decide +kernel
theorem dX6_meanValue_12 : decode cX6_meanValue 12 = .ok (.ifCond .ne 13, 3) := by decide +kernel
theorem dX6_meanValue_15 : decode cX6_meanValue 15 = .ok (.new 251, 3) := by decide +kernel
theorem dX6_meanValue_18 : decode cX6_meanValue 18 = .ok (.dup, 1) := by decide +kernel
theorem dX6_meanValue_19 : decode cX6_meanValue 19 = .ok (.ldc 253, 2) := by decide +kernel
theorem dX6_meanValue_21 : decode cX6_meanValue 21 = .ok (.invokespecial 255, 3) := by decide +kernel
theorem dX6_meanValue_24 : decode cX6_meanValue 24 = .ok (.athrow, 1) := by decide +kernel
theorem dX6_meanValue_25 : decode cX6_meanValue 25 = .ok (.aload_n 0, 1) := by decide +kernel
theorem dX6_meanValue_26 : decode cX6_meanValue 26 = .ok (.getfield 10, 3) := by decide +kernel
theorem dX6_meanValue_29 : decode cX6_meanValue 29 = .ok (.getfield 82, 3) := by decide +kernel
theorem dX6_meanValue_32 : decode cX6_meanValue 32 = .ok (.invokevirtual 256, 3) := by decide +kernel
theorem dX6_meanValue_35 : decode cX6_meanValue 35 = .ok (.i2d, 1) := by decide +kernel
theorem dX6_meanValue_36 : decode cX6_meanValue 36 = .ok (.iload_n 1, 1) := by decide +kernel
theorem dX6_meanValue_37 : decode cX6_meanValue 37 = .ok (.i2d, 1) := by decide +kernel
theorem dX6_meanValue_38 : decode cX6_meanValue 38 = .ok (.ddiv, 1) := by decide +kernel
theorem dX6_meanValue_39 : decode cX6_meanValue 39 = .ok (.dreturn, 1) := by decide +kernel
theorem dX6_sealedFraction_0 : decode cX6_sealedFraction 0 = .ok (.aload_n 0, 1) := by decide +kernel
theorem dX6_sealedFraction_1 : decode cX6_sealedFraction 1 = .ok (.getfield 10, 3) := by decide +kernel
theorem dX6_sealedFraction_4 : decode cX6_sealedFraction 4 = .ok (.getfield 82, 3) := by decide +kernel
theorem dX6_sealedFraction_7 : decode cX6_sealedFraction 7 = .ok (.getfield 86, 3) := by decide +kernel
theorem dX6_sealedFraction_10 : decode cX6_sealedFraction 10 = .ok (.istore_n 1, 1) := by decide +kernel
theorem dX6_sealedFraction_11 : decode cX6_sealedFraction 11 = .ok (.iload_n 1, 1) := by decide +kernel
theorem dX6_sealedFraction_12 : decode cX6_sealedFraction 12 = .ok (.ifCond .ne 13, 3) := by decide +kernel
theorem dX6_sealedFraction_15 : decode cX6_sealedFraction 15 = .ok (.new 251, 3) := by decide +kernel
theorem dX6_sealedFraction_18 : decode cX6_sealedFraction 18 = .ok (.dup, 1) := by decide +kernel
theorem dX6_sealedFraction_19 : decode cX6_sealedFraction 19 = .ok (.ldc 253, 2) := by decide +kernel
theorem dX6_sealedFraction_21 : decode cX6_sealedFraction 21 = .ok (.invokespecial 255, 3) := by decide +kernel
theorem dX6_sealedFraction_24 : decode cX6_sealedFraction 24 = .ok (.athrow, 1) := by decide +kernel
theorem dX6_sealedFraction_25 : decode cX6_sealedFraction 25 = .ok (.aload_n 0, 1) := by decide +kernel
theorem dX6_sealedFraction_26 : decode cX6_sealedFraction 26 = .ok (.getfield 10, 3) := by decide +kernel
theorem dX6_sealedFraction_29 : decode cX6_sealedFraction 29 = .ok (.getfield 82, 3) := by decide +kernel
theorem dX6_sealedFraction_32 : decode cX6_sealedFraction 32 = .ok (.invokevirtual 259, 3) := by decide +kernel
theorem dX6_sealedFraction_35 : decode cX6_sealedFraction 35 = .ok (.i2f, 1) := by decide +kernel
theorem dX6_sealedFraction_36 : decode cX6_sealedFraction 36 = .ok (.iload_n 1, 1) := by decide +kernel
theorem dX6_sealedFraction_37 : decode cX6_sealedFraction 37 = .ok (.i2f, 1) := by decide +kernel
theorem dX6_sealedFraction_38 : decode cX6_sealedFraction 38 = .ok (.fdiv, 1) := by decide +kernel
theorem dX6_sealedFraction_39 : decode cX6_sealedFraction 39 = .ok (.freturn, 1) := by decide +kernel
theorem dX6_writeLot_0 : decode cX6_writeLot 0 = .ok (.aload_n 0, 1) := by decide +kernel
theorem dX6_writeLot_1 : decode cX6_writeLot 1 = .ok (.iload_n 1, 1) := by decide +kernel
theorem dX6_writeLot_2 : decode cX6_writeLot 2 = .ok (.invokevirtual 102, 3) := by decide +kernel
theorem dX6_writeLot_5 : decode cX6_writeLot 5 = .ok (.istore_n 2, 1) := by decide +kernel
theorem dX6_writeLot_6 : decode cX6_writeLot 6 = .ok (.aload_n 0, 1) := by decide +kernel
theorem dX6_writeLot_7 : decode cX6_writeLot 7 = .ok (.getfield 10, 3) := by decide +kernel
theorem dX6_writeLot_10 : decode cX6_writeLot 10 = .ok (.getfield 82, 3) := by decide +kernel
theorem dX6_writeLot_13 : decode cX6_writeLot 13 = .ok (.astore_n 3, 1) := by decide +kernel
theorem dX6_writeLot_14 : decode cX6_writeLot 14 = .ok (.aload_n 0, 1) := by decide +kernel
theorem dX6_writeLot_15 : decode cX6_writeLot 15 = .ok (.getfield 36, 3) := by decide +kernel
theorem dX6_writeLot_18 : decode cX6_writeLot 18 = .ok (.iconst 0, 1) := by decide +kernel
theorem dX6_writeLot_19 : decode cX6_writeLot 19 = .ok (.invokevirtual 262, 3) := by decide +kernel
theorem dX6_writeLot_22 : decode cX6_writeLot 22 = .ok (.aload_n 0, 1) := by decide +kernel
theorem dX6_writeLot_23 : decode cX6_writeLot 23 = .ok (.getfield 36, 3) := by decide +kernel
theorem dX6_writeLot_26 : decode cX6_writeLot 26 = .ok (.aload_n 3, 1) := by decide +kernel
theorem dX6_writeLot_27 : decode cX6_writeLot 27 = .ok (.getfield 98, 3) := by decide +kernel
theorem dX6_writeLot_30 : decode cX6_writeLot 30 = .ok (.iload_n 2, 1) := by decide +kernel
theorem dX6_writeLot_31 : decode cX6_writeLot 31 = .ok (.caload, 1) := by decide +kernel
theorem dX6_writeLot_32 : decode cX6_writeLot 32 = .ok (.invokevirtual 265, 3) := by decide +kernel
theorem dX6_writeLot_35 : decode cX6_writeLot 35 = .ok (.aload_n 3, 1) := by decide +kernel
theorem dX6_writeLot_36 : decode cX6_writeLot 36 = .ok (.getfield 105, 3) := by decide +kernel
theorem dX6_writeLot_39 : decode cX6_writeLot 39 = .ok (.iload_n 2, 1) := by decide +kernel
theorem dX6_writeLot_40 : decode cX6_writeLot 40 = .ok (.iaload, 1) := by decide +kernel
theorem dX6_writeLot_41 : decode cX6_writeLot 41 = .ok (.invokevirtual 269, 3) := by decide +kernel
theorem dX6_writeLot_44 : decode cX6_writeLot 44 = .ok (.pop, 1) := by decide +kernel
theorem dX6_writeLot_45 : decode cX6_writeLot 45 = .ok (.aload_n 0, 1) := by decide +kernel
theorem dX6_writeLot_46 : decode cX6_writeLot 46 = .ok (.getfield 36, 3) := by decide +kernel
theorem dX6_writeLot_49 : decode cX6_writeLot 49 = .ok (.bipush 42, 2) := by decide +kernel
theorem dX6_writeLot_51 : decode cX6_writeLot 51 = .ok (.invokevirtual 265, 3) := by decide +kernel
theorem dX6_writeLot_54 : decode cX6_writeLot 54 = .ok (.aload_n 3, 1) := by decide +kernel
theorem dX6_writeLot_55 : decode cX6_writeLot 55 = .ok (.getfield 108, 3) := by decide +kernel
theorem dX6_writeLot_58 : decode cX6_writeLot 58 = .ok (.iload_n 2, 1) := by decide +kernel
theorem dX6_writeLot_59 : decode cX6_writeLot 59 = .ok (.iaload, 1) := by decide +kernel
theorem dX6_writeLot_60 : decode cX6_writeLot 60 = .ok (.invokevirtual 269, 3) := by decide +kernel
theorem dX6_writeLot_63 : decode cX6_writeLot 63 = .ok (.pop, 1) := by decide +kernel
theorem dX6_writeLot_64 : decode cX6_writeLot 64 = .ok (.aload_n 0, 1) := by decide +kernel
theorem dX6_writeLot_65 : decode cX6_writeLot 65 = .ok (.getfield 36, 3) := by decide +kernel
theorem dX6_writeLot_68 : decode cX6_writeLot 68 = .ok (.bipush 64, 2) := by decide +kernel
theorem dX6_writeLot_70 : decode cX6_writeLot 70 = .ok (.invokevirtual 265, 3) := by decide +kernel
theorem dX6_writeLot_73 : decode cX6_writeLot 73 = .ok (.aload_n 3, 1) := by decide +kernel
theorem dX6_writeLot_74 : decode cX6_writeLot 74 = .ok (.getfield 114, 3) := by decide +kernel
theorem dX6_writeLot_77 : decode cX6_writeLot 77 = .ok (.iload_n 2, 1) := by decide +kernel
theorem dX6_writeLot_78 : decode cX6_writeLot 78 = .ok (.iaload, 1) := by decide +kernel
theorem dX6_writeLot_79 : decode cX6_writeLot 79 = .ok (.invokevirtual 269, 3) := by decide +kernel
theorem dX6_writeLot_82 : decode cX6_writeLot 82 = .ok (.pop, 1) := by decide +kernel
theorem dX6_writeLot_83 : decode cX6_writeLot 83 = .ok (.aload_n 3, 1) := by decide +kernel
theorem dX6_writeLot_84 : decode cX6_writeLot 84 = .ok (.getfield 117, 3) := by decide +kernel
theorem dX6_writeLot_87 : decode cX6_writeLot 87 = .ok (.iload_n 2, 1) := by decide +kernel
theorem dX6_writeLot_88 : decode cX6_writeLot 88 = .ok (.baload, 1) := by decide +kernel
theorem dX6_writeLot_89 : decode cX6_writeLot 89 = .ok (.ifCond .eq 13, 3) := by decide +kernel
theorem dX6_writeLot_92 : decode cX6_writeLot 92 = .ok (.aload_n 0, 1) := by decide +kernel
theorem dX6_writeLot_93 : decode cX6_writeLot 93 = .ok (.getfield 36, 3) := by decide +kernel
theorem dX6_writeLot_96 : decode cX6_writeLot 96 = .ok (.bipush 35, 2) := by decide +kernel
theorem dX6_writeLot_98 : decode cX6_writeLot 98 = .ok (.invokevirtual 265, 3) := by decide +kernel
theorem dX6_writeLot_101 : decode cX6_writeLot 101 = .ok (.pop, 1) := by decide +kernel
theorem dX6_writeLot_102 : decode cX6_writeLot 102 = .ok (.aload_n 3, 1) := by decide +kernel
theorem dX6_writeLot_103 : decode cX6_writeLot 103 = .ok (.getfield 121, 3) := by decide +kernel
theorem dX6_writeLot_106 : decode cX6_writeLot 106 = .ok (.iload_n 2, 1) := by decide +kernel
theorem dX6_writeLot_107 : decode cX6_writeLot 107 = .ok (.baload, 1) := by decide +kernel
theorem dX6_writeLot_108 : decode cX6_writeLot 108 = .ok (.ifCond .eq 13, 3) := by decide +kernel
theorem dX6_writeLot_111 : decode cX6_writeLot 111 = .ok (.aload_n 0, 1) := by decide +kernel
theorem dX6_writeLot_112 : decode cX6_writeLot 112 = .ok (.getfield 36, 3) := by decide +kernel
theorem dX6_writeLot_115 : decode cX6_writeLot 115 = .ok (.bipush 126, 2) := by decide +kernel
theorem dX6_writeLot_117 : decode cX6_writeLot 117 = .ok (.invokevirtual 265, 3) := by decide +kernel
theorem dX6_writeLot_120 : decode cX6_writeLot 120 = .ok (.pop, 1) := by decide +kernel
theorem dX6_writeLot_121 : decode cX6_writeLot 121 = .ok (.aload_n 0, 1) := by decide +kernel
theorem dX6_writeLot_122 : decode cX6_writeLot 122 = .ok (.getfield 10, 3) := by decide +kernel
theorem dX6_writeLot_125 : decode cX6_writeLot 125 = .ok (.getfield 226, 3) := by decide +kernel
theorem dX6_writeLot_128 : decode cX6_writeLot 128 = .ok (.iload_n 1, 1) := by decide +kernel
theorem dX6_writeLot_129 : decode cX6_writeLot 129 = .ok (.invokevirtual 272, 3) := by decide +kernel
theorem dX6_writeLot_132 : decode cX6_writeLot 132 = .ok (.ifCond .lt 13, 3) := by decide +kernel
theorem dX6_writeLot_135 : decode cX6_writeLot 135 = .ok (.aload_n 0, 1) := by decide +kernel
theorem dX6_writeLot_136 : decode cX6_writeLot 136 = .ok (.getfield 36, 3) := by decide +kernel
theorem dX6_writeLot_139 : decode cX6_writeLot 139 = .ok (.bipush 63, 2) := by decide +kernel
theorem dX6_writeLot_141 : decode cX6_writeLot 141 = .ok (.invokevirtual 265, 3) := by decide +kernel
theorem dX6_writeLot_144 : decode cX6_writeLot 144 = .ok (.pop, 1) := by decide +kernel
theorem dX6_writeLot_145 : decode cX6_writeLot 145 = .ok (.aload_n 0, 1) := by decide +kernel
theorem dX6_writeLot_146 : decode cX6_writeLot 146 = .ok (.getfield 36, 3) := by decide +kernel
theorem dX6_writeLot_149 : decode cX6_writeLot 149 = .ok (.invokevirtual 275, 3) := by decide +kernel
theorem dX6_writeLot_152 : decode cX6_writeLot 152 = .ok (.ireturn, 1) := by decide +kernel
theorem dX6_outputCharacter_0 : decode cX6_outputCharacter 0 = .ok (.iload_n 1, 1) := by decide +kernel
theorem dX6_outputCharacter_1 : decode cX6_outputCharacter 1 = .ok (.aload_n 0, 1) := by decide +kernel
theorem dX6_outputCharacter_2 : decode cX6_outputCharacter 2 = .ok (.getfield 36, 3) := by decide +kernel
theorem dX6_outputCharacter_5 : decode cX6_outputCharacter 5 = .ok (.invokevirtual 275, 3) := by decide +kernel
theorem dX6_outputCharacter_8 : decode cX6_outputCharacter 8 = .ok (.invokestatic 91, 3) := by decide +kernel
theorem dX6_outputCharacter_11 : decode cX6_outputCharacter 11 = .ok (.aload_n 0, 1) := by decide +kernel
theorem dX6_outputCharacter_12 : decode cX6_outputCharacter 12 = .ok (.getfield 36, 3) := by decide +kernel
theorem dX6_outputCharacter_15 : decode cX6_outputCharacter 15 = .ok (.iload_n 1, 1) := by decide +kernel
theorem dX6_outputCharacter_16 : decode cX6_outputCharacter 16 = .ok (.invokevirtual 281, 3) := by decide +kernel
theorem dX6_outputCharacter_19 : decode cX6_outputCharacter 19 = .ok (.ireturn, 1) := by decide +kernel
theorem dX6_isConsistent_0 : decode cX6_isConsistent 0 = .ok (.aload_n 0, 1) := by decide +kernel
theorem dX6_isConsistent_1 : decode cX6_isConsistent 1 = .ok (.getfield 10, 3) := by decide +kernel
theorem dX6_isConsistent_4 : decode cX6_isConsistent 4 = .ok (.invokevirtual 284, 3) := by decide +kernel
theorem dX6_isConsistent_7 : decode cX6_isConsistent 7 = .ok (.ifCond .eq 51, 3) := by decide +kernel
theorem dX6_isConsistent_10 : decode cX6_isConsistent 10 = .ok (.aload_n 0, 1) := by decide +kernel
theorem dX6_isConsistent_11 : decode cX6_isConsistent 11 = .ok (.getfield 10, 3) := by decide +kernel
theorem dX6_isConsistent_14 : decode cX6_isConsistent 14 = .ok (.invokevirtual 189, 3) := by decide +kernel
theorem dX6_isConsistent_17 : decode cX6_isConsistent 17 = .ok (.aload_n 0, 1) := by decide +kernel
theorem dX6_isConsistent_18 : decode cX6_isConsistent 18 = .ok (.getfield 10, 3) := by decide +kernel
theorem dX6_isConsistent_21 : decode cX6_isConsistent 21 = .ok (.invokevirtual 193, 3) := by decide +kernel
theorem dX6_isConsistent_24 : decode cX6_isConsistent 24 = .ok (.if_icmp .ne 34, 3) := by decide +kernel
theorem dX6_isConsistent_27 : decode cX6_isConsistent 27 = .ok (.aload_n 0, 1) := by decide +kernel
theorem dX6_isConsistent_28 : decode cX6_isConsistent 28 = .ok (.getfield 10, 3) := by decide +kernel
theorem dX6_isConsistent_31 : decode cX6_isConsistent 31 = .ok (.getfield 82, 3) := by decide +kernel
theorem dX6_isConsistent_34 : decode cX6_isConsistent 34 = .ok (.aload_n 0, 1) := by decide +kernel
theorem dX6_isConsistent_35 : decode cX6_isConsistent 35 = .ok (.getfield 44, 3) := by decide +kernel
theorem dX6_isConsistent_38 : decode cX6_isConsistent 38 = .ok (.invokevirtual 210, 3) := by decide +kernel
theorem dX6_isConsistent_41 : decode cX6_isConsistent 41 = .ok (.aload_n 0, 1) := by decide +kernel
theorem dX6_isConsistent_42 : decode cX6_isConsistent 42 = .ok (.getfield 10, 3) := by decide +kernel
theorem dX6_isConsistent_45 : decode cX6_isConsistent 45 = .ok (.getfield 82, 3) := by decide +kernel
theorem dX6_isConsistent_48 : decode cX6_isConsistent 48 = .ok (.invokevirtual 214, 3) := by decide +kernel
theorem dX6_isConsistent_51 : decode cX6_isConsistent 51 = .ok (.if_icmp .ne 7, 3) := by decide +kernel
theorem dX6_isConsistent_54 : decode cX6_isConsistent 54 = .ok (.iconst 1, 1) := by decide +kernel
theorem dX6_isConsistent_55 : decode cX6_isConsistent 55 = .ok (.goto 4, 3) := by decide +kernel
theorem dX6_isConsistent_58 : decode cX6_isConsistent 58 = .ok (.iconst 0, 1) := by decide +kernel
theorem dX6_isConsistent_59 : decode cX6_isConsistent 59 = .ok (.ireturn, 1) := by decide +kernel
theorem dX6_feed_0 : decode cX6_feed 0 = .ok (.aload_n 0, 1) := by decide +kernel
theorem dX6_feed_1 : decode cX6_feed 1 = .ok (.getfield 29, 3) := by decide +kernel
theorem dX6_feed_4 : decode cX6_feed 4 = .ok (.iload_n 1, 1) := by decide +kernel
theorem dX6_feed_5 : decode cX6_feed 5 = .ok (.invokevirtual 288, 3) := by decide +kernel
theorem dX6_feed_8 : decode cX6_feed 8 = .ok (.ifCond .ne 14, 3) := by decide +kernel
theorem dX6_feed_11 : decode cX6_feed 11 = .ok (.new 290, 3) := by decide +kernel
theorem dX6_feed_14 : decode cX6_feed 14 = .ok (.dup, 1) := by decide +kernel
theorem dX6_feed_15 : decode cX6_feed 15 = .ok (.ldc_w 292, 3) := by decide +kernel
theorem dX6_feed_18 : decode cX6_feed 18 = .ok (.invokespecial 294, 3) := by decide +kernel
theorem dX6_feed_21 : decode cX6_feed 21 = .ok (.athrow, 1) := by decide +kernel
theorem dX6_feed_22 : decode cX6_feed 22 = .ok (.aload_n 0, 1) := by decide +kernel
theorem dX6_feed_23 : decode cX6_feed 23 = .ok (.getfield 29, 3) := by decide +kernel
theorem dX6_feed_26 : decode cX6_feed 26 = .ok (.getfield 295, 3) := by decide +kernel
theorem dX6_feed_29 : decode cX6_feed 29 = .ok (.ireturn, 1) := by decide +kernel
theorem dX6_execute_0 : decode cX6_execute 0 = .ok (.aload_n 0, 1) := by decide +kernel
theorem dX6_execute_1 : decode cX6_execute 1 = .ok (.getfield 29, 3) := by decide +kernel
theorem dX6_execute_4 : decode cX6_execute 4 = .ok (.invokevirtual 296, 3) := by decide +kernel
theorem dX6_execute_7 : decode cX6_execute 7 = .ok (.istore_n 1, 1) := by decide +kernel
theorem dX6_execute_8 : decode cX6_execute 8 = .ok (.iload_n 1, 1) := by decide +kernel
theorem dX6_execute_9 : decode cX6_execute 9 = .ok (.ifCond .ge 32, 3) := by decide +kernel
theorem dX6_execute_12 : decode cX6_execute 12 = .ok (.aload_n 0, 1) := by decide +kernel
theorem dX6_execute_13 : decode cX6_execute 13 = .ok (.aload_n 0, 1) := by decide +kernel
theorem dX6_execute_14 : decode cX6_execute 14 = .ok (.getfield 29, 3) := by decide +kernel
theorem dX6_execute_17 : decode cX6_execute 17 = .ok (.getfield 299, 3) := by decide +kernel
theorem dX6_execute_20 : decode cX6_execute 20 = .ok (.putfield 50, 3) := by decide +kernel
theorem dX6_execute_23 : decode cX6_execute 23 = .ok (.aload_n 0, 1) := by decide +kernel
theorem dX6_execute_24 : decode cX6_execute 24 = .ok (.getfield 29, 3) := by decide +kernel
theorem dX6_execute_27 : decode cX6_execute 27 = .ok (.invokevirtual 302, 3) := by decide +kernel
theorem dX6_execute_30 : decode cX6_execute 30 = .ok (.new 140, 3) := by decide +kernel
theorem dX6_execute_33 : decode cX6_execute 33 = .ok (.dup, 1) := by decide +kernel
theorem dX6_execute_34 : decode cX6_execute 34 = .ok (.ldc_w 305, 3) := by decide +kernel
theorem dX6_execute_37 : decode cX6_execute 37 = .ok (.invokespecial 144, 3) := by decide +kernel
theorem dX6_execute_40 : decode cX6_execute 40 = .ok (.athrow, 1) := by decide +kernel
theorem dX6_execute_41 : decode cX6_execute 41 = .ok (.aload_n 0, 1) := by decide +kernel
theorem dX6_execute_42 : decode cX6_execute 42 = .ok (.getfield 22, 3) := by decide +kernel
theorem dX6_execute_45 : decode cX6_execute 45 = .ok (.aload_n 0, 1) := by decide +kernel
theorem dX6_execute_46 : decode cX6_execute 46 = .ok (.getfield 10, 3) := by decide +kernel
theorem dX6_execute_49 : decode cX6_execute 49 = .ok (.invokevirtual 57, 3) := by decide +kernel
theorem dX6_execute_52 : decode cX6_execute 52 = .ok (.aload_n 0, 1) := by decide +kernel
theorem dX6_execute_53 : decode cX6_execute 53 = .ok (.iload_n 1, 1) := by decide +kernel
theorem dX6_execute_54 : decode cX6_execute 54 = .ok (.invokevirtual 307, 3) := by decide +kernel
theorem dX6_execute_57 : decode cX6_execute 57 = .ok (.istore_n 2, 1) := by decide +kernel
theorem dX6_execute_58 : decode cX6_execute 58 = .ok (.aload_n 0, 1) := by decide +kernel
theorem dX6_execute_59 : decode cX6_execute 59 = .ok (.getfield 29, 3) := by decide +kernel
theorem dX6_execute_62 : decode cX6_execute 62 = .ok (.invokevirtual 302, 3) := by decide +kernel
theorem dX6_execute_65 : decode cX6_execute 65 = .ok (.iload_n 2, 1) := by decide +kernel
theorem dX6_execute_66 : decode cX6_execute 66 = .ok (.iload_n 1, 1) := by decide +kernel
theorem dX6_execute_67 : decode cX6_execute 67 = .ok (.if_icmp .ge 30, 3) := by decide +kernel
theorem dX6_execute_70 : decode cX6_execute 70 = .ok (.aload_n 0, 1) := by decide +kernel
theorem dX6_execute_71 : decode cX6_execute 71 = .ok (.iload_n 2, 1) := by decide +kernel
theorem dX6_execute_72 : decode cX6_execute 72 = .ok (.putfield 54, 3) := by decide +kernel
theorem dX6_execute_75 : decode cX6_execute 75 = .ok (.aload_n 0, 1) := by decide +kernel
theorem dX6_execute_76 : decode cX6_execute 76 = .ok (.getfield 22, 3) := by decide +kernel
theorem dX6_execute_79 : decode cX6_execute 79 = .ok (.aload_n 0, 1) := by decide +kernel
theorem dX6_execute_80 : decode cX6_execute 80 = .ok (.getfield 10, 3) := by decide +kernel
theorem dX6_execute_83 : decode cX6_execute 83 = .ok (.invokevirtual 310, 3) := by decide +kernel
theorem dX6_execute_86 : decode cX6_execute 86 = .ok (.new 313, 3) := by decide +kernel
theorem dX6_execute_89 : decode cX6_execute 89 = .ok (.dup, 1) := by decide +kernel
theorem dX6_execute_90 : decode cX6_execute 90 = .ok (.ldc_w 315, 3) := by decide +kernel
theorem dX6_execute_93 : decode cX6_execute 93 = .ok (.invokespecial 317, 3) := by decide +kernel
theorem dX6_execute_96 : decode cX6_execute 96 = .ok (.athrow, 1) := by decide +kernel
theorem dX6_execute_97 : decode cX6_execute 97 = .ok (.aload_n 0, 1) := by decide +kernel
theorem dX6_execute_98 : decode cX6_execute 98 = .ok (.getfield 22, 3) := by decide +kernel
theorem dX6_execute_101 : decode cX6_execute 101 = .ok (.invokevirtual 318, 3) := by decide +kernel
theorem dX6_execute_104 : decode cX6_execute 104 = .ok (.iload_n 1, 1) := by decide +kernel
theorem dX6_execute_105 : decode cX6_execute 105 = .ok (.ireturn, 1) := by decide +kernel
theorem dX6_undo_0 : decode cX6_undo 0 = .ok (.aload_n 0, 1) := by decide +kernel
theorem dX6_undo_1 : decode cX6_undo 1 = .ok (.getfield 22, 3) := by decide +kernel
theorem dX6_undo_4 : decode cX6_undo 4 = .ok (.getfield 325, 3) := by decide +kernel
theorem dX6_undo_7 : decode cX6_undo 7 = .ok (.ifCond .ne 14, 3) := by decide +kernel
theorem dX6_undo_10 : decode cX6_undo 10 = .ok (.new 290, 3) := by decide +kernel
theorem dX6_undo_13 : decode cX6_undo 13 = .ok (.dup, 1) := by decide +kernel
theorem dX6_undo_14 : decode cX6_undo 14 = .ok (.ldc_w 326, 3) := by decide +kernel
theorem dX6_undo_17 : decode cX6_undo 17 = .ok (.invokespecial 294, 3) := by decide +kernel
theorem dX6_undo_20 : decode cX6_undo 20 = .ok (.athrow, 1) := by decide +kernel
theorem dX6_undo_21 : decode cX6_undo 21 = .ok (.aload_n 0, 1) := by decide +kernel
theorem dX6_undo_22 : decode cX6_undo 22 = .ok (.getfield 22, 3) := by decide +kernel
theorem dX6_undo_25 : decode cX6_undo 25 = .ok (.aload_n 0, 1) := by decide +kernel
theorem dX6_undo_26 : decode cX6_undo 26 = .ok (.getfield 10, 3) := by decide +kernel
theorem dX6_undo_29 : decode cX6_undo 29 = .ok (.invokevirtual 328, 3) := by decide +kernel
theorem dX6_undo_32 : decode cX6_undo 32 = .ok (.aload_n 0, 1) := by decide +kernel
theorem dX6_undo_33 : decode cX6_undo 33 = .ok (.getfield 22, 3) := by decide +kernel
theorem dX6_undo_36 : decode cX6_undo 36 = .ok (.getfield 325, 3) := by decide +kernel
theorem dX6_undo_39 : decode cX6_undo 39 = .ok (.ireturn, 1) := by decide +kernel
theorem dX6_undoCount_0 : decode cX6_undoCount 0 = .ok (.aload_n 0, 1) := by decide +kernel
theorem dX6_undoCount_1 : decode cX6_undoCount 1 = .ok (.getfield 22, 3) := by decide +kernel
theorem dX6_undoCount_4 : decode cX6_undoCount 4 = .ok (.getfield 325, 3) := by decide +kernel
theorem dX6_undoCount_7 : decode cX6_undoCount 7 = .ok (.ireturn, 1) := by decide +kernel
theorem dX6_save_0 : decode cX6_save 0 = .ok (.aload_n 0, 1) := by decide +kernel
theorem dX6_save_1 : decode cX6_save 1 = .ok (.getfield 47, 3) := by decide +kernel
theorem dX6_save_4 : decode cX6_save 4 = .ok (.astore_n 1, 1) := by decide +kernel
theorem dX6_save_5 : decode cX6_save 5 = .ok (.aload_n 1, 1) := by decide +kernel
theorem dX6_save_6 : decode cX6_save 6 = .ok (.ifnonnull 16, 3) := by decide +kernel
theorem dX6_save_9 : decode cX6_save 9 = .ok (.new 7, 3) := by decide +kernel
theorem dX6_save_12 : decode cX6_save 12 = .ok (.dup, 1) := by decide +kernel
theorem dX6_save_13 : decode cX6_save 13 = .ok (.invokespecial 9, 3) := by decide +kernel
theorem dX6_save_16 : decode cX6_save 16 = .ok (.astore_n 1, 1) := by decide +kernel
theorem dX6_save_17 : decode cX6_save 17 = .ok (.aload_n 0, 1) := by decide +kernel
theorem dX6_save_18 : decode cX6_save 18 = .ok (.aload_n 1, 1) := by decide +kernel
theorem dX6_save_19 : decode cX6_save 19 = .ok (.putfield 47, 3) := by decide +kernel
theorem dX6_save_22 : decode cX6_save 22 = .ok (.aload_n 1, 1) := by decide +kernel
theorem dX6_save_23 : decode cX6_save 23 = .ok (.aload_n 0, 1) := by decide +kernel
theorem dX6_save_24 : decode cX6_save 24 = .ok (.getfield 10, 3) := by decide +kernel
theorem dX6_save_27 : decode cX6_save 27 = .ok (.invokevirtual 207, 3) := by decide +kernel
theorem dX6_save_30 : decode cX6_save 30 = .ok (.aload_n 0, 1) := by decide +kernel
theorem dX6_save_31 : decode cX6_save 31 = .ok (.getfield 10, 3) := by decide +kernel
theorem dX6_save_34 : decode cX6_save 34 = .ok (.getfield 82, 3) := by decide +kernel
theorem dX6_save_37 : decode cX6_save 37 = .ok (.getfield 86, 3) := by decide +kernel
theorem dX6_save_40 : decode cX6_save 40 = .ok (.ireturn, 1) := by decide +kernel
theorem dX6_restore_0 : decode cX6_restore 0 = .ok (.aload_n 0, 1) := by decide +kernel
theorem dX6_restore_1 : decode cX6_restore 1 = .ok (.getfield 47, 3) := by decide +kernel
theorem dX6_restore_4 : decode cX6_restore 4 = .ok (.astore_n 1, 1) := by decide +kernel
theorem dX6_restore_5 : decode cX6_restore 5 = .ok (.aload_n 1, 1) := by decide +kernel
theorem dX6_restore_6 : decode cX6_restore 6 = .ok (.ifnonnull 14, 3) := by decide +kernel
theorem dX6_restore_9 : decode cX6_restore 9 = .ok (.new 290, 3) := by decide +kernel
theorem dX6_restore_12 : decode cX6_restore 12 = .ok (.dup, 1) := by decide +kernel
theorem dX6_restore_13 : decode cX6_restore 13 = .ok (.ldc_w 331, 3) := by decide +kernel
theorem dX6_restore_16 : decode cX6_restore 16 = .ok (.invokespecial 294, 3) := by decide +kernel
theorem dX6_restore_19 : decode cX6_restore 19 = .ok (.athrow, 1) := by decide +kernel
theorem dX6_restore_20 : decode cX6_restore 20 = .ok (.aload_n 0, 1) := by decide +kernel
theorem dX6_restore_21 : decode cX6_restore 21 = .ok (.getfield 10, 3) := by decide +kernel
theorem dX6_restore_24 : decode cX6_restore 24 = .ok (.aload_n 1, 1) := by decide +kernel
theorem dX6_restore_25 : decode cX6_restore 25 = .ok (.invokevirtual 207, 3) := by decide +kernel
theorem dX6_restore_28 : decode cX6_restore 28 = .ok (.aload_n 0, 1) := by decide +kernel
theorem dX6_restore_29 : decode cX6_restore 29 = .ok (.getfield 22, 3) := by decide +kernel
theorem dX6_restore_32 : decode cX6_restore 32 = .ok (.invokevirtual 333, 3) := by decide +kernel
theorem dX6_restore_35 : decode cX6_restore 35 = .ok (.aload_n 0, 1) := by decide +kernel
theorem dX6_restore_36 : decode cX6_restore 36 = .ok (.getfield 10, 3) := by decide +kernel
theorem dX6_restore_39 : decode cX6_restore 39 = .ok (.getfield 82, 3) := by decide +kernel
theorem dX6_restore_42 : decode cX6_restore 42 = .ok (.getfield 86, 3) := by decide +kernel
theorem dX6_restore_45 : decode cX6_restore 45 = .ok (.ireturn, 1) := by decide +kernel
theorem dX6_settle_0 : decode cX6_settle 0 = .ok (.iload_n 1, 1) := by decide +kernel
theorem dX6_settle_1 : decode cX6_settle 1 = .ok (.ifCond .ge 7, 3) := by decide +kernel
theorem dX6_settle_4 : decode cX6_settle 4 = .ok (.iload_n 1, 1) := by decide +kernel
theorem dX6_settle_5 : decode cX6_settle 5 = .ok (.invokestatic 336, 3) := by decide +kernel
theorem dX6_settle_8 : decode cX6_settle 8 = .ok (.aload_n 0, 1) := by decide +kernel
theorem dX6_settle_9 : decode cX6_settle 9 = .ok (.getfield 22, 3) := by decide +kernel
theorem dX6_settle_12 : decode cX6_settle 12 = .ok (.invokevirtual 318, 3) := by decide +kernel
theorem dX6_settle_15 : decode cX6_settle 15 = .ok (.iload_n 1, 1) := by decide +kernel
theorem dX6_settle_16 : decode cX6_settle 16 = .ok (.ireturn, 1) := by decide +kernel
theorem dX6_throwFor_0 : decode cX6_throwFor 0 = .ok (.iload_n 0, 1) := by decide +kernel
theorem dX6_throwFor_1 : decode cX6_throwFor 1 = .ok (.tableswitch 63 (-4) (-1) #[55, 47, 39, 31], 31) := by decide +kernel
theorem dX6_throwFor_32 : decode cX6_throwFor 32 = .ok (.new 127, 3) := by decide +kernel
theorem dX6_throwFor_35 : decode cX6_throwFor 35 = .ok (.dup, 1) := by decide +kernel
theorem dX6_throwFor_36 : decode cX6_throwFor 36 = .ok (.invokespecial 339, 3) := by decide +kernel
theorem dX6_throwFor_39 : decode cX6_throwFor 39 = .ok (.athrow, 1) := by decide +kernel
theorem dX6_throwFor_40 : decode cX6_throwFor 40 = .ok (.new 152, 3) := by decide +kernel
theorem dX6_throwFor_43 : decode cX6_throwFor 43 = .ok (.dup, 1) := by decide +kernel
theorem dX6_throwFor_44 : decode cX6_throwFor 44 = .ok (.invokespecial 340, 3) := by decide +kernel
theorem dX6_throwFor_47 : decode cX6_throwFor 47 = .ok (.athrow, 1) := by decide +kernel
theorem dX6_throwFor_48 : decode cX6_throwFor 48 = .ok (.new 140, 3) := by decide +kernel
theorem dX6_throwFor_51 : decode cX6_throwFor 51 = .ok (.dup, 1) := by decide +kernel
theorem dX6_throwFor_52 : decode cX6_throwFor 52 = .ok (.invokespecial 341, 3) := by decide +kernel
theorem dX6_throwFor_55 : decode cX6_throwFor 55 = .ok (.athrow, 1) := by decide +kernel
theorem dX6_throwFor_56 : decode cX6_throwFor 56 = .ok (.new 290, 3) := by decide +kernel
theorem dX6_throwFor_59 : decode cX6_throwFor 59 = .ok (.dup, 1) := by decide +kernel
theorem dX6_throwFor_60 : decode cX6_throwFor 60 = .ok (.invokespecial 342, 3) := by decide +kernel
theorem dX6_throwFor_63 : decode cX6_throwFor 63 = .ok (.athrow, 1) := by decide +kernel
theorem dX6_throwFor_64 : decode cX6_throwFor 64 = .ok (.new 313, 3) := by decide +kernel
theorem dX6_throwFor_67 : decode cX6_throwFor 67 = .ok (.dup, 1) := by decide +kernel
theorem dX6_throwFor_68 : decode cX6_throwFor 68 = .ok (.invokespecial 343, 3) := by decide +kernel
theorem dX6_throwFor_71 : decode cX6_throwFor 71 = .ok (.athrow, 1) := by decide +kernel
theorem dX6_checkIndex_0 : decode cX6_checkIndex 0 = .ok (.iload_n 0, 1) := by decide +kernel
theorem dX6_checkIndex_1 : decode cX6_checkIndex 1 = .ok (.ifCond .lt 8, 3) := by decide +kernel
theorem dX6_checkIndex_4 : decode cX6_checkIndex 4 = .ok (.iload_n 0, 1) := by decide +kernel
theorem dX6_checkIndex_5 : decode cX6_checkIndex 5 = .ok (.iload_n 1, 1) := by decide +kernel
theorem dX6_checkIndex_6 : decode cX6_checkIndex 6 = .ok (.if_icmp .lt 11, 3) := by decide +kernel
theorem dX6_checkIndex_9 : decode cX6_checkIndex 9 = .ok (.new 152, 3) := by decide +kernel
theorem dX6_checkIndex_12 : decode cX6_checkIndex 12 = .ok (.dup, 1) := by decide +kernel
theorem dX6_checkIndex_13 : decode cX6_checkIndex 13 = .ok (.invokespecial 340, 3) := by decide +kernel
theorem dX6_checkIndex_16 : decode cX6_checkIndex 16 = .ok (.athrow, 1) := by decide +kernel
theorem dX6_checkIndex_17 : decode cX6_checkIndex 17 = .ok (.return_, 1) := by decide +kernel
theorem dX6_checkValue_0 : decode cX6_checkValue 0 = .ok (.iload_n 0, 1) := by decide +kernel
theorem dX6_checkValue_1 : decode cX6_checkValue 1 = .ok (.ifCond .lt 10, 3) := by decide +kernel
theorem dX6_checkValue_4 : decode cX6_checkValue 4 = .ok (.iload_n 0, 1) := by decide +kernel
theorem dX6_checkValue_5 : decode cX6_checkValue 5 = .ok (.sipush 9999, 3) := by decide +kernel
theorem dX6_checkValue_8 : decode cX6_checkValue 8 = .ok (.if_icmp .le 14, 3) := by decide +kernel
theorem dX6_checkValue_11 : decode cX6_checkValue 11 = .ok (.new 140, 3) := by decide +kernel
theorem dX6_checkValue_14 : decode cX6_checkValue 14 = .ok (.dup, 1) := by decide +kernel
theorem dX6_checkValue_15 : decode cX6_checkValue 15 = .ok (.ldc_w 344, 3) := by decide +kernel
theorem dX6_checkValue_18 : decode cX6_checkValue 18 = .ok (.invokespecial 144, 3) := by decide +kernel
theorem dX6_checkValue_21 : decode cX6_checkValue 21 = .ok (.athrow, 1) := by decide +kernel
theorem dX6_checkValue_22 : decode cX6_checkValue 22 = .ok (.return_, 1) := by decide +kernel
theorem dX6_slotOf_0 : decode cX6_slotOf 0 = .ok (.aload_n 0, 1) := by decide +kernel
theorem dX6_slotOf_1 : decode cX6_slotOf 1 = .ok (.getfield 10, 3) := by decide +kernel
theorem dX6_slotOf_4 : decode cX6_slotOf 4 = .ok (.getfield 82, 3) := by decide +kernel
theorem dX6_slotOf_7 : decode cX6_slotOf 7 = .ok (.iload_n 1, 1) := by decide +kernel
theorem dX6_slotOf_8 : decode cX6_slotOf 8 = .ok (.invokevirtual 346, 3) := by decide +kernel
theorem dX6_slotOf_11 : decode cX6_slotOf 11 = .ok (.istore_n 2, 1) := by decide +kernel
theorem dX6_slotOf_12 : decode cX6_slotOf 12 = .ok (.iload_n 2, 1) := by decide +kernel
theorem dX6_slotOf_13 : decode cX6_slotOf 13 = .ok (.ifCond .ge 14, 3) := by decide +kernel
theorem dX6_slotOf_16 : decode cX6_slotOf 16 = .ok (.new 127, 3) := by decide +kernel
theorem dX6_slotOf_19 : decode cX6_slotOf 19 = .ok (.dup, 1) := by decide +kernel
theorem dX6_slotOf_20 : decode cX6_slotOf 20 = .ok (.ldc_w 349, 3) := by decide +kernel
theorem dX6_slotOf_23 : decode cX6_slotOf 23 = .ok (.invokespecial 131, 3) := by decide +kernel
theorem dX6_slotOf_26 : decode cX6_slotOf 26 = .ok (.athrow, 1) := by decide +kernel
theorem dX6_slotOf_27 : decode cX6_slotOf 27 = .ok (.iload_n 2, 1) := by decide +kernel
theorem dX6_slotOf_28 : decode cX6_slotOf 28 = .ok (.ireturn, 1) := by decide +kernel
theorem dX6_performFirst_0 : decode cX6_performFirst 0 = .ok (.aload_n 0, 1) := by decide +kernel
theorem dX6_performFirst_1 : decode cX6_performFirst 1 = .ok (.getfield 29, 3) := by decide +kernel
theorem dX6_performFirst_4 : decode cX6_performFirst 4 = .ok (.invokevirtual 351, 3) := by decide +kernel
theorem dX6_performFirst_7 : decode cX6_performFirst 7 = .ok (.iconst 0, 1) := by decide +kernel
theorem dX6_performFirst_8 : decode cX6_performFirst 8 = .ok (.istore_n 2, 1) := by decide +kernel
theorem dX6_performFirst_9 : decode cX6_performFirst 9 = .ok (.iload_n 2, 1) := by decide +kernel
theorem dX6_performFirst_10 : decode cX6_performFirst 10 = .ok (.iload_n 1, 1) := by decide +kernel
theorem dX6_performFirst_11 : decode cX6_performFirst 11 = .ok (.if_icmp .ge 42, 3) := by decide +kernel
theorem dX6_performFirst_14 : decode cX6_performFirst 14 = .ok (.aload_n 0, 1) := by decide +kernel
theorem dX6_performFirst_15 : decode cX6_performFirst 15 = .ok (.getfield 29, 3) := by decide +kernel
theorem dX6_performFirst_18 : decode cX6_performFirst 18 = .ok (.invokevirtual 354, 3) := by decide +kernel
theorem dX6_performFirst_21 : decode cX6_performFirst 21 = .ok (.ifCond .eq 17, 3) := by decide +kernel
theorem dX6_performFirst_24 : decode cX6_performFirst 24 = .ok (.aload_n 0, 1) := by decide +kernel
theorem dX6_performFirst_25 : decode cX6_performFirst 25 = .ok (.getfield 10, 3) := by decide +kernel
theorem dX6_performFirst_28 : decode cX6_performFirst 28 = .ok (.aload_n 0, 1) := by decide +kernel
theorem dX6_performFirst_29 : decode cX6_performFirst 29 = .ok (.getfield 29, 3) := by decide +kernel
theorem dX6_performFirst_32 : decode cX6_performFirst 32 = .ok (.invokevirtual 357, 3) := by decide +kernel
theorem dX6_performFirst_35 : decode cX6_performFirst 35 = .ok (.ifCond .ge 5, 3) := by decide +kernel
theorem dX6_performFirst_38 : decode cX6_performFirst 38 = .ok (.iload_n 2, 1) := by decide +kernel
theorem dX6_performFirst_39 : decode cX6_performFirst 39 = .ok (.ireturn, 1) := by decide +kernel
theorem dX6_performFirst_40 : decode cX6_performFirst 40 = .ok (.aload_n 0, 1) := by decide +kernel
theorem dX6_performFirst_41 : decode cX6_performFirst 41 = .ok (.getfield 29, 3) := by decide +kernel
theorem dX6_performFirst_44 : decode cX6_performFirst 44 = .ok (.invokevirtual 361, 3) := by decide +kernel
theorem dX6_performFirst_47 : decode cX6_performFirst 47 = .ok (.iinc 2 1, 3) := by decide +kernel
theorem dX6_performFirst_50 : decode cX6_performFirst 50 = .ok (.goto (-41), 3) := by decide +kernel
theorem dX6_performFirst_53 : decode cX6_performFirst 53 = .ok (.iload_n 1, 1) := by decide +kernel
theorem dX6_performFirst_54 : decode cX6_performFirst 54 = .ok (.ireturn, 1) := by decide +kernel
theorem dX6_isKind_0 : decode cX6_isKind 0 = .ok (.iload_n 0, 1) := by decide +kernel
theorem dX6_isKind_1 : decode cX6_isKind 1 = .ok (.bipush 97, 2) := by decide +kernel
theorem dX6_isKind_3 : decode cX6_isKind 3 = .ok (.if_icmp .lt 13, 3) := by decide +kernel
theorem dX6_isKind_6 : decode cX6_isKind 6 = .ok (.iload_n 0, 1) := by decide +kernel
theorem dX6_isKind_7 : decode cX6_isKind 7 = .ok (.bipush 101, 2) := by decide +kernel
theorem dX6_isKind_9 : decode cX6_isKind 9 = .ok (.if_icmp .gt 7, 3) := by decide +kernel
theorem dX6_isKind_12 : decode cX6_isKind 12 = .ok (.iconst 1, 1) := by decide +kernel
theorem dX6_isKind_13 : decode cX6_isKind 13 = .ok (.goto 4, 3) := by decide +kernel
theorem dX6_isKind_16 : decode cX6_isKind 16 = .ok (.iconst 0, 1) := by decide +kernel
theorem dX6_isKind_17 : decode cX6_isKind 17 = .ok (.ireturn, 1) := by decide +kernel
theorem dX6_isBay_0 : decode cX6_isBay 0 = .ok (.iload_n 0, 1) := by decide +kernel
theorem dX6_isBay_1 : decode cX6_isBay 1 = .ok (.ifCond .lt 13, 3) := by decide +kernel
theorem dX6_isBay_4 : decode cX6_isBay 4 = .ok (.iload_n 0, 1) := by decide +kernel
theorem dX6_isBay_5 : decode cX6_isBay 5 = .ok (.bipush 24, 2) := by decide +kernel
theorem dX6_isBay_7 : decode cX6_isBay 7 = .ok (.if_icmp .ge 7, 3) := by decide +kernel
theorem dX6_isBay_10 : decode cX6_isBay 10 = .ok (.iconst 1, 1) := by decide +kernel
theorem dX6_isBay_11 : decode cX6_isBay 11 = .ok (.goto 4, 3) := by decide +kernel
theorem dX6_isBay_14 : decode cX6_isBay 14 = .ok (.iconst 0, 1) := by decide +kernel
theorem dX6_isBay_15 : decode cX6_isBay 15 = .ok (.ireturn, 1) := by decide +kernel
theorem dX6_hasBay_0 : decode cX6_hasBay 0 = .ok (.iload_n 1, 1) := by decide +kernel
theorem dX6_hasBay_1 : decode cX6_hasBay 1 = .ok (.invokestatic 364, 3) := by decide +kernel
theorem dX6_hasBay_4 : decode cX6_hasBay 4 = .ok (.ifCond .eq 15, 3) := by decide +kernel
theorem dX6_hasBay_7 : decode cX6_hasBay 7 = .ok (.iload_n 0, 1) := by decide +kernel
theorem dX6_hasBay_8 : decode cX6_hasBay 8 = .ok (.iload_n 1, 1) := by decide +kernel
theorem dX6_hasBay_9 : decode cX6_hasBay 9 = .ok (.ishr, 1) := by decide +kernel
theorem dX6_hasBay_10 : decode cX6_hasBay 10 = .ok (.iconst 1, 1) := by decide +kernel
theorem dX6_hasBay_11 : decode cX6_hasBay 11 = .ok (.iand, 1) := by decide +kernel
theorem dX6_hasBay_12 : decode cX6_hasBay 12 = .ok (.ifCond .eq 7, 3) := by decide +kernel
theorem dX6_hasBay_15 : decode cX6_hasBay 15 = .ok (.iconst 1, 1) := by decide +kernel
theorem dX6_hasBay_16 : decode cX6_hasBay 16 = .ok (.goto 4, 3) := by decide +kernel
theorem dX6_hasBay_19 : decode cX6_hasBay 19 = .ok (.iconst 0, 1) := by decide +kernel
theorem dX6_hasBay_20 : decode cX6_hasBay 20 = .ok (.ireturn, 1) := by decide +kernel
