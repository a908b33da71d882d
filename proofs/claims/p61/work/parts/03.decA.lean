theorem dX0_init_0 : decode cX0_init 0 = .ok (.aload_n 0, 1) := by decide +kernel
theorem dX0_init_1 : decode cX0_init 1 = .ok (.invokespecial 3, 3) := by decide +kernel
theorem dX0_init_4 : decode cX0_init 4 = .ok (.aload_n 0, 1) := by decide +kernel
theorem dX0_init_5 : decode cX0_init 5 = .ok (.bipush 16, 2) := by decide +kernel
theorem dX0_init_7 : decode cX0_init 7 = .ok (.newarray .int, 2) := by decide +kernel
theorem dX0_init_9 : decode cX0_init 9 = .ok (.putfield 9, 3) := by decide +kernel
theorem dX0_init_12 : decode cX0_init 12 = .ok (.aload_n 0, 1) := by decide +kernel
theorem dX0_init_13 : decode cX0_init 13 = .ok (.iconst 0, 1) := by decide +kernel
theorem dX0_init_14 : decode cX0_init 14 = .ok (.putfield 15, 3) := by decide +kernel
theorem dX0_init_17 : decode cX0_init 17 = .ok (.return_, 1) := by decide +kernel
theorem dX0_placeOf_0 : decode cX0_placeOf 0 = .ok (.iconst 0, 1) := by decide +kernel
theorem dX0_placeOf_1 : decode cX0_placeOf 1 = .ok (.istore_n 2, 1) := by decide +kernel
theorem dX0_placeOf_2 : decode cX0_placeOf 2 = .ok (.iload_n 2, 1) := by decide +kernel
theorem dX0_placeOf_3 : decode cX0_placeOf 3 = .ok (.aload_n 0, 1) := by decide +kernel
theorem dX0_placeOf_4 : decode cX0_placeOf 4 = .ok (.getfield 15, 3) := by decide +kernel
theorem dX0_placeOf_7 : decode cX0_placeOf 7 = .ok (.if_icmp .ge 21, 3) := by decide +kernel
theorem dX0_placeOf_10 : decode cX0_placeOf 10 = .ok (.aload_n 0, 1) := by decide +kernel
theorem dX0_placeOf_11 : decode cX0_placeOf 11 = .ok (.getfield 9, 3) := by decide +kernel
theorem dX0_placeOf_14 : decode cX0_placeOf 14 = .ok (.iload_n 2, 1) := by decide +kernel
theorem dX0_placeOf_15 : decode cX0_placeOf 15 = .ok (.iaload, 1) := by decide +kernel
theorem dX0_placeOf_16 : decode cX0_placeOf 16 = .ok (.iload_n 1, 1) := by decide +kernel
theorem dX0_placeOf_17 : decode cX0_placeOf 17 = .ok (.if_icmp .ne 5, 3) := by decide +kernel
theorem dX0_placeOf_20 : decode cX0_placeOf 20 = .ok (.iload_n 2, 1) := by decide +kernel
theorem dX0_placeOf_21 : decode cX0_placeOf 21 = .ok (.ireturn, 1) := by decide +kernel
theorem dX0_placeOf_22 : decode cX0_placeOf 22 = .ok (.iinc 2 1, 3) := by decide +kernel
theorem dX0_placeOf_25 : decode cX0_placeOf 25 = .ok (.goto (-23), 3) := by decide +kernel
theorem dX0_placeOf_28 : decode cX0_placeOf 28 = .ok (.iconst (-1), 1) := by decide +kernel
theorem dX0_placeOf_29 : decode cX0_placeOf 29 = .ok (.ireturn, 1) := by decide +kernel
theorem dX0_append_0 : decode cX0_append 0 = .ok (.aload_n 0, 1) := by decide +kernel
theorem dX0_append_1 : decode cX0_append 1 = .ok (.getfield 15, 3) := by decide +kernel
theorem dX0_append_4 : decode cX0_append 4 = .ok (.bipush 16, 2) := by decide +kernel
theorem dX0_append_6 : decode cX0_append 6 = .ok (.if_icmp .ge 11, 3) := by decide +kernel
theorem dX0_append_9 : decode cX0_append 9 = .ok (.aload_n 0, 1) := by decide +kernel
theorem dX0_append_10 : decode cX0_append 10 = .ok (.iload_n 1, 1) := by decide +kernel
theorem dX0_append_11 : decode cX0_append 11 = .ok (.invokevirtual 19, 3) := by decide +kernel
theorem dX0_append_14 : decode cX0_append 14 = .ok (.ifCond .lt 6, 3) := by decide +kernel
theorem dX0_append_17 : decode cX0_append 17 = .ok (.bipush (-4), 2) := by decide +kernel
theorem dX0_append_19 : decode cX0_append 19 = .ok (.ireturn, 1) := by decide +kernel
theorem dX0_append_20 : decode cX0_append 20 = .ok (.aload_n 0, 1) := by decide +kernel
theorem dX0_append_21 : decode cX0_append 21 = .ok (.getfield 9, 3) := by decide +kernel
theorem dX0_append_24 : decode cX0_append 24 = .ok (.aload_n 0, 1) := by decide +kernel
theorem dX0_append_25 : decode cX0_append 25 = .ok (.getfield 15, 3) := by decide +kernel
theorem dX0_append_28 : decode cX0_append 28 = .ok (.iload_n 1, 1) := by decide +kernel
theorem dX0_append_29 : decode cX0_append 29 = .ok (.iastore, 1) := by decide +kernel
theorem dX0_append_30 : decode cX0_append 30 = .ok (.aload_n 0, 1) := by decide +kernel
theorem dX0_append_31 : decode cX0_append 31 = .ok (.dup, 1) := by decide +kernel
theorem dX0_append_32 : decode cX0_append 32 = .ok (.getfield 15, 3) := by decide +kernel
theorem dX0_append_35 : decode cX0_append 35 = .ok (.iconst 1, 1) := by decide +kernel
theorem dX0_append_36 : decode cX0_append 36 = .ok (.iadd, 1) := by decide +kernel
theorem dX0_append_37 : decode cX0_append 37 = .ok (.putfield 15, 3) := by decide +kernel
theorem dX0_append_40 : decode cX0_append 40 = .ok (.aload_n 0, 1) := by decide +kernel
theorem dX0_append_41 : decode cX0_append 41 = .ok (.getfield 15, 3) := by decide +kernel
theorem dX0_append_44 : decode cX0_append 44 = .ok (.ireturn, 1) := by decide +kernel
theorem dX0_remove_0 : decode cX0_remove 0 = .ok (.iconst 0, 1) := by decide +kernel
theorem dX0_remove_1 : decode cX0_remove 1 = .ok (.istore_n 2, 1) := by decide +kernel
theorem dX0_remove_2 : decode cX0_remove 2 = .ok (.iconst 0, 1) := by decide +kernel
theorem dX0_remove_3 : decode cX0_remove 3 = .ok (.istore_n 3, 1) := by decide +kernel
theorem dX0_remove_4 : decode cX0_remove 4 = .ok (.iload_n 3, 1) := by decide +kernel
theorem dX0_remove_5 : decode cX0_remove 5 = .ok (.aload_n 0, 1) := by decide +kernel
theorem dX0_remove_6 : decode cX0_remove 6 = .ok (.getfield 15, 3) := by decide +kernel
theorem dX0_remove_9 : decode cX0_remove 9 = .ok (.if_icmp .ge 34, 3) := by decide +kernel
theorem dX0_remove_12 : decode cX0_remove 12 = .ok (.aload_n 0, 1) := by decide +kernel
theorem dX0_remove_13 : decode cX0_remove 13 = .ok (.getfield 9, 3) := by decide +kernel
theorem dX0_remove_16 : decode cX0_remove 16 = .ok (.iload_n 3, 1) := by decide +kernel
theorem dX0_remove_17 : decode cX0_remove 17 = .ok (.iaload, 1) := by decide +kernel
theorem dX0_remove_18 : decode cX0_remove 18 = .ok (.iload_n 1, 1) := by decide +kernel
theorem dX0_remove_19 : decode cX0_remove 19 = .ok (.if_icmp .eq 18, 3) := by decide +kernel
theorem dX0_remove_22 : decode cX0_remove 22 = .ok (.aload_n 0, 1) := by decide +kernel
theorem dX0_remove_23 : decode cX0_remove 23 = .ok (.getfield 9, 3) := by decide +kernel
theorem dX0_remove_26 : decode cX0_remove 26 = .ok (.iload_n 2, 1) := by decide +kernel
theorem dX0_remove_27 : decode cX0_remove 27 = .ok (.aload_n 0, 1) := by decide +kernel
theorem dX0_remove_28 : decode cX0_remove 28 = .ok (.getfield 9, 3) := by decide +kernel
theorem dX0_remove_31 : decode cX0_remove 31 = .ok (.iload_n 3, 1) := by decide +kernel
theorem dX0_remove_32 : decode cX0_remove 32 = .ok (.iaload, 1) := by decide +kernel
theorem dX0_remove_33 : decode cX0_remove 33 = .ok (.iastore, 1) := by decide +kernel
theorem dX0_remove_34 : decode cX0_remove 34 = .ok (.iinc 2 1, 3) := by decide +kernel
theorem dX0_remove_37 : decode cX0_remove 37 = .ok (.iinc 3 1, 3) := by decide +kernel
theorem dX0_remove_40 : decode cX0_remove 40 = .ok (.goto (-36), 3) := by decide +kernel
theorem dX0_remove_43 : decode cX0_remove 43 = .ok (.aload_n 0, 1) := by decide +kernel
theorem dX0_remove_44 : decode cX0_remove 44 = .ok (.iload_n 2, 1) := by decide +kernel
theorem dX0_remove_45 : decode cX0_remove 45 = .ok (.putfield 15, 3) := by decide +kernel
theorem dX0_remove_48 : decode cX0_remove 48 = .ok (.return_, 1) := by decide +kernel
theorem dX0_copyFrom_0 : decode cX0_copyFrom 0 = .ok (.iconst 0, 1) := by decide +kernel
theorem dX0_copyFrom_1 : decode cX0_copyFrom 1 = .ok (.istore_n 2, 1) := by decide +kernel
theorem dX0_copyFrom_2 : decode cX0_copyFrom 2 = .ok (.iload_n 2, 1) := by decide +kernel
theorem dX0_copyFrom_3 : decode cX0_copyFrom 3 = .ok (.aload_n 1, 1) := by decide +kernel
theorem dX0_copyFrom_4 : decode cX0_copyFrom 4 = .ok (.getfield 15, 3) := by decide +kernel
theorem dX0_copyFrom_7 : decode cX0_copyFrom 7 = .ok (.if_icmp .ge 21, 3) := by decide +kernel
theorem dX0_copyFrom_10 : decode cX0_copyFrom 10 = .ok (.aload_n 0, 1) := by decide +kernel
theorem dX0_copyFrom_11 : decode cX0_copyFrom 11 = .ok (.getfield 9, 3) := by decide +kernel
theorem dX0_copyFrom_14 : decode cX0_copyFrom 14 = .ok (.iload_n 2, 1) := by decide +kernel
theorem dX0_copyFrom_15 : decode cX0_copyFrom 15 = .ok (.aload_n 1, 1) := by decide +kernel
theorem dX0_copyFrom_16 : decode cX0_copyFrom 16 = .ok (.getfield 9, 3) := by decide +kernel
theorem dX0_copyFrom_19 : decode cX0_copyFrom 19 = .ok (.iload_n 2, 1) := by decide +kernel
theorem dX0_copyFrom_20 : decode cX0_copyFrom 20 = .ok (.iaload, 1) := by decide +kernel
theorem dX0_copyFrom_21 : decode cX0_copyFrom 21 = .ok (.iastore, 1) := by decide +kernel
theorem dX0_copyFrom_22 : decode cX0_copyFrom 22 = .ok (.iinc 2 1, 3) := by decide +kernel
theorem dX0_copyFrom_25 : decode cX0_copyFrom 25 = .ok (.goto (-23), 3) := by decide +kernel
theorem dX0_copyFrom_28 : decode cX0_copyFrom 28 = .ok (.aload_n 0, 1) := by decide +kernel
theorem dX0_copyFrom_29 : decode cX0_copyFrom 29 = .ok (.aload_n 1, 1) := by decide +kernel
theorem dX0_copyFrom_30 : decode cX0_copyFrom 30 = .ok (.getfield 15, 3) := by decide +kernel
theorem dX0_copyFrom_33 : decode cX0_copyFrom 33 = .ok (.putfield 15, 3) := by decide +kernel
theorem dX0_copyFrom_36 : decode cX0_copyFrom 36 = .ok (.return_, 1) := by decide +kernel
theorem dX1_init_0 : decode cX1_init 0 = .ok (.aload_n 0, 1) := by decide +kernel
theorem dX1_init_1 : decode cX1_init 1 = .ok (.invokespecial 3, 3) := by decide +kernel
theorem dX1_init_4 : decode cX1_init 4 = .ok (.aload_n 0, 1) := by decide +kernel
theorem dX1_init_5 : decode cX1_init 5 = .ok (.bipush 60, 2) := by decide +kernel
theorem dX1_init_7 : decode cX1_init 7 = .ok (.newarray .char, 2) := by decide +kernel
theorem dX1_init_9 : decode cX1_init 9 = .ok (.putfield 9, 3) := by decide +kernel
theorem dX1_init_12 : decode cX1_init 12 = .ok (.aload_n 0, 1) := by decide +kernel
theorem dX1_init_13 : decode cX1_init 13 = .ok (.iconst 3, 1) := by decide +kernel
theorem dX1_init_14 : decode cX1_init 14 = .ok (.newarray .int, 2) := by decide +kernel
theorem dX1_init_16 : decode cX1_init 16 = .ok (.putfield 15, 3) := by decide +kernel
theorem dX1_init_19 : decode cX1_init 19 = .ok (.aload_n 0, 1) := by decide +kernel
theorem dX1_init_20 : decode cX1_init 20 = .ok (.iconst 0, 1) := by decide +kernel
theorem dX1_init_21 : decode cX1_init 21 = .ok (.putfield 19, 3) := by decide +kernel
theorem dX1_init_24 : decode cX1_init 24 = .ok (.aload_n 0, 1) := by decide +kernel
theorem dX1_init_25 : decode cX1_init 25 = .ok (.iconst 0, 1) := by decide +kernel
theorem dX1_init_26 : decode cX1_init 26 = .ok (.putfield 23, 3) := by decide +kernel
theorem dX1_init_29 : decode cX1_init 29 = .ok (.aload_n 0, 1) := by decide +kernel
theorem dX1_init_30 : decode cX1_init 30 = .ok (.bipush 10, 2) := by decide +kernel
theorem dX1_init_32 : decode cX1_init 32 = .ok (.putfield 26, 3) := by decide +kernel
theorem dX1_init_35 : decode cX1_init 35 = .ok (.aload_n 0, 1) := by decide +kernel
theorem dX1_init_36 : decode cX1_init 36 = .ok (.bipush 97, 2) := by decide +kernel
theorem dX1_init_38 : decode cX1_init 38 = .ok (.putfield 29, 3) := by decide +kernel
theorem dX1_init_41 : decode cX1_init 41 = .ok (.aload_n 0, 1) := by decide +kernel
theorem dX1_init_42 : decode cX1_init 42 = .ok (.iconst 0, 1) := by decide +kernel
theorem dX1_init_43 : decode cX1_init 43 = .ok (.putfield 33, 3) := by decide +kernel
theorem dX1_init_46 : decode cX1_init 46 = .ok (.return_, 1) := by decide +kernel
theorem dX1_formOf_0 : decode cX1_formOf 0 = .ok (.iload_n 0, 1) := by decide +kernel
theorem dX1_formOf_1 : decode cX1_formOf 1 = .ok (.tableswitch 85 0 9 #[55, 58, 61, 64, 67, 70, 73, 76, 79, 82], 55) := by decide +kernel
theorem dX1_formOf_56 : decode cX1_formOf 56 = .ok (.ldc 36, 2) := by decide +kernel
theorem dX1_formOf_58 : decode cX1_formOf 58 = .ok (.areturn, 1) := by decide +kernel
theorem dX1_formOf_59 : decode cX1_formOf 59 = .ok (.ldc 38, 2) := by decide +kernel
theorem dX1_formOf_61 : decode cX1_formOf 61 = .ok (.areturn, 1) := by decide +kernel
theorem dX1_formOf_62 : decode cX1_formOf 62 = .ok (.ldc 40, 2) := by decide +kernel
theorem dX1_formOf_64 : decode cX1_formOf 64 = .ok (.areturn, 1) := by decide +kernel
theorem dX1_formOf_65 : decode cX1_formOf 65 = .ok (.ldc 42, 2) := by decide +kernel
theorem dX1_formOf_67 : decode cX1_formOf 67 = .ok (.areturn, 1) := by decide +kernel
theorem dX1_formOf_68 : decode cX1_formOf 68 = .ok (.ldc 44, 2) := by decide +kernel
theorem dX1_formOf_70 : decode cX1_formOf 70 = .ok (.areturn, 1) := by decide +kernel
theorem dX1_formOf_71 : decode cX1_formOf 71 = .ok (.ldc 46, 2) := by decide +kernel
theorem dX1_formOf_73 : decode cX1_formOf 73 = .ok (.areturn, 1) := by decide +kernel
theorem dX1_formOf_74 : decode cX1_formOf 74 = .ok (.ldc 48, 2) := by decide +kernel
theorem dX1_formOf_76 : decode cX1_formOf 76 = .ok (.areturn, 1) := by decide +kernel
theorem dX1_formOf_77 : decode cX1_formOf 77 = .ok (.ldc 50, 2) := by decide +kernel
theorem dX1_formOf_79 : decode cX1_formOf 79 = .ok (.areturn, 1) := by decide +kernel
theorem dX1_formOf_80 : decode cX1_formOf 80 = .ok (.ldc 52, 2) := by decide +kernel
theorem dX1_formOf_82 : decode cX1_formOf 82 = .ok (.areturn, 1) := by decide +kernel
theorem dX1_formOf_83 : decode cX1_formOf 83 = .ok (.ldc 54, 2) := by decide +kernel
theorem dX1_formOf_85 : decode cX1_formOf 85 = .ok (.areturn, 1) := by decide +kernel
theorem dX1_formOf_86 : decode cX1_formOf 86 = .ok (.ldc 56, 2) := by decide +kernel
theorem dX1_formOf_88 : decode cX1_formOf 88 = .ok (.areturn, 1) := by decide +kernel
theorem dX1_append_0 : decode cX1_append 0 = .ok (.aload_n 0, 1) := by decide +kernel
theorem dX1_append_1 : decode cX1_append 1 = .ok (.getfield 19, 3) := by decide +kernel
theorem dX1_append_4 : decode cX1_append 4 = .ok (.bipush 60, 2) := by decide +kernel
theorem dX1_append_6 : decode cX1_append 6 = .ok (.if_icmp .lt 5, 3) := by decide +kernel
theorem dX1_append_9 : decode cX1_append 9 = .ok (.iconst 0, 1) := by decide +kernel
theorem dX1_append_10 : decode cX1_append 10 = .ok (.ireturn, 1) := by decide +kernel
theorem dX1_append_11 : decode cX1_append 11 = .ok (.aload_n 0, 1) := by decide +kernel
theorem dX1_append_12 : decode cX1_append 12 = .ok (.getfield 9, 3) := by decide +kernel
theorem dX1_append_15 : decode cX1_append 15 = .ok (.aload_n 0, 1) := by decide +kernel
theorem dX1_append_16 : decode cX1_append 16 = .ok (.getfield 19, 3) := by decide +kernel
theorem dX1_append_19 : decode cX1_append 19 = .ok (.iload_n 1, 1) := by decide +kernel
theorem dX1_append_20 : decode cX1_append 20 = .ok (.castore, 1) := by decide +kernel
theorem dX1_append_21 : decode cX1_append 21 = .ok (.aload_n 0, 1) := by decide +kernel
theorem dX1_append_22 : decode cX1_append 22 = .ok (.dup, 1) := by decide +kernel
theorem dX1_append_23 : decode cX1_append 23 = .ok (.getfield 19, 3) := by decide +kernel
theorem dX1_append_26 : decode cX1_append 26 = .ok (.iconst 1, 1) := by decide +kernel
theorem dX1_append_27 : decode cX1_append 27 = .ok (.iadd, 1) := by decide +kernel
theorem dX1_append_28 : decode cX1_append 28 = .ok (.putfield 19, 3) := by decide +kernel
theorem dX1_append_31 : decode cX1_append 31 = .ok (.iconst 1, 1) := by decide +kernel
theorem dX1_append_32 : decode cX1_append 32 = .ok (.ireturn, 1) := by decide +kernel
theorem dX1_clear_0 : decode cX1_clear 0 = .ok (.aload_n 0, 1) := by decide +kernel
theorem dX1_clear_1 : decode cX1_clear 1 = .ok (.iconst 0, 1) := by decide +kernel
theorem dX1_clear_2 : decode cX1_clear 2 = .ok (.putfield 19, 3) := by decide +kernel
theorem dX1_clear_5 : decode cX1_clear 5 = .ok (.return_, 1) := by decide +kernel
theorem dX1_rewind_0 : decode cX1_rewind 0 = .ok (.aload_n 0, 1) := by decide +kernel
theorem dX1_rewind_1 : decode cX1_rewind 1 = .ok (.iconst 0, 1) := by decide +kernel
theorem dX1_rewind_2 : decode cX1_rewind 2 = .ok (.putfield 23, 3) := by decide +kernel
theorem dX1_rewind_5 : decode cX1_rewind 5 = .ok (.return_, 1) := by decide +kernel
theorem dX1_skipSemicolon_0 : decode cX1_skipSemicolon 0 = .ok (.aload_n 0, 1) := by decide +kernel
theorem dX1_skipSemicolon_1 : decode cX1_skipSemicolon 1 = .ok (.dup, 1) := by decide +kernel
theorem dX1_skipSemicolon_2 : decode cX1_skipSemicolon 2 = .ok (.getfield 23, 3) := by decide +kernel
theorem dX1_skipSemicolon_5 : decode cX1_skipSemicolon 5 = .ok (.iconst 1, 1) := by decide +kernel
theorem dX1_skipSemicolon_6 : decode cX1_skipSemicolon 6 = .ok (.iadd, 1) := by decide +kernel
theorem dX1_skipSemicolon_7 : decode cX1_skipSemicolon 7 = .ok (.putfield 23, 3) := by decide +kernel
theorem dX1_skipSemicolon_10 : decode cX1_skipSemicolon 10 = .ok (.return_, 1) := by decide +kernel
theorem dX1_countCommands_0 : decode cX1_countCommands 0 = .ok (.aload_n 0, 1) := by decide +kernel
theorem dX1_countCommands_1 : decode cX1_countCommands 1 = .ok (.invokevirtual 58, 3) := by decide +kernel
theorem dX1_countCommands_4 : decode cX1_countCommands 4 = .ok (.iconst 1, 1) := by decide +kernel
theorem dX1_countCommands_5 : decode cX1_countCommands 5 = .ok (.istore_n 1, 1) := by decide +kernel
theorem dX1_countCommands_6 : decode cX1_countCommands 6 = .ok (.iload_n 1, 1) := by decide +kernel
theorem dX1_countCommands_7 : decode cX1_countCommands 7 = .ok (.bipush 60, 2) := by decide +kernel
theorem dX1_countCommands_9 : decode cX1_countCommands 9 = .ok (.if_icmp .gt 51, 3) := by decide +kernel
theorem dX1_countCommands_12 : decode cX1_countCommands 12 = .ok (.aload_n 0, 1) := by decide +kernel
theorem dX1_countCommands_13 : decode cX1_countCommands 13 = .ok (.invokevirtual 61, 3) := by decide +kernel
theorem dX1_countCommands_16 : decode cX1_countCommands 16 = .ok (.ifCond .ne 5, 3) := by decide +kernel
theorem dX1_countCommands_19 : decode cX1_countCommands 19 = .ok (.iconst (-1), 1) := by decide +kernel
theorem dX1_countCommands_20 : decode cX1_countCommands 20 = .ok (.ireturn, 1) := by decide +kernel
theorem dX1_countCommands_21 : decode cX1_countCommands 21 = .ok (.aload_n 0, 1) := by decide +kernel
theorem dX1_countCommands_22 : decode cX1_countCommands 22 = .ok (.getfield 23, 3) := by decide +kernel
theorem dX1_countCommands_25 : decode cX1_countCommands 25 = .ok (.aload_n 0, 1) := by decide +kernel
theorem dX1_countCommands_26 : decode cX1_countCommands 26 = .ok (.getfield 19, 3) := by decide +kernel
theorem dX1_countCommands_29 : decode cX1_countCommands 29 = .ok (.if_icmp .lt 5, 3) := by decide +kernel
theorem dX1_countCommands_32 : decode cX1_countCommands 32 = .ok (.iload_n 1, 1) := by decide +kernel
theorem dX1_countCommands_33 : decode cX1_countCommands 33 = .ok (.ireturn, 1) := by decide +kernel
theorem dX1_countCommands_34 : decode cX1_countCommands 34 = .ok (.aload_n 0, 1) := by decide +kernel
theorem dX1_countCommands_35 : decode cX1_countCommands 35 = .ok (.getfield 9, 3) := by decide +kernel
theorem dX1_countCommands_38 : decode cX1_countCommands 38 = .ok (.aload_n 0, 1) := by decide +kernel
theorem dX1_countCommands_39 : decode cX1_countCommands 39 = .ok (.getfield 23, 3) := by decide +kernel
theorem dX1_countCommands_42 : decode cX1_countCommands 42 = .ok (.caload, 1) := by decide +kernel
theorem dX1_countCommands_43 : decode cX1_countCommands 43 = .ok (.bipush 59, 2) := by decide +kernel
theorem dX1_countCommands_45 : decode cX1_countCommands 45 = .ok (.if_icmp .eq 5, 3) := by decide +kernel
theorem dX1_countCommands_48 : decode cX1_countCommands 48 = .ok (.iconst (-1), 1) := by decide +kernel
theorem dX1_countCommands_49 : decode cX1_countCommands 49 = .ok (.ireturn, 1) := by decide +kernel
theorem dX1_countCommands_50 : decode cX1_countCommands 50 = .ok (.aload_n 0, 1) := by decide +kernel
theorem dX1_countCommands_51 : decode cX1_countCommands 51 = .ok (.invokevirtual 65, 3) := by decide +kernel
theorem dX1_countCommands_54 : decode cX1_countCommands 54 = .ok (.iinc 1 1, 3) := by decide +kernel
theorem dX1_countCommands_57 : decode cX1_countCommands 57 = .ok (.goto (-51), 3) := by decide +kernel
theorem dX1_countCommands_60 : decode cX1_countCommands 60 = .ok (.iconst (-1), 1) := by decide +kernel
theorem dX1_countCommands_61 : decode cX1_countCommands 61 = .ok (.ireturn, 1) := by decide +kernel
theorem dX1_readCommand_0 : decode cX1_readCommand 0 = .ok (.aload_n 0, 1) := by decide +kernel
theorem dX1_readCommand_1 : decode cX1_readCommand 1 = .ok (.getfield 23, 3) := by decide +kernel
theorem dX1_readCommand_4 : decode cX1_readCommand 4 = .ok (.istore_n 1, 1) := by decide +kernel
theorem dX1_readCommand_5 : decode cX1_readCommand 5 = .ok (.iload_n 1, 1) := by decide +kernel
theorem dX1_readCommand_6 : decode cX1_readCommand 6 = .ok (.istore_n 2, 1) := by decide +kernel
theorem dX1_readCommand_7 : decode cX1_readCommand 7 = .ok (.iconst 0, 1) := by decide +kernel
theorem dX1_readCommand_8 : decode cX1_readCommand 8 = .ok (.istore_n 3, 1) := by decide +kernel
theorem dX1_readCommand_9 : decode cX1_readCommand 9 = .ok (.iload_n 3, 1) := by decide +kernel
theorem dX1_readCommand_10 : decode cX1_readCommand 10 = .ok (.bipush 11, 2) := by decide +kernel
theorem dX1_readCommand_12 : decode cX1_readCommand 12 = .ok (.if_icmp .ge 41, 3) := by decide +kernel
theorem dX1_readCommand_15 : decode cX1_readCommand 15 = .ok (.aload_n 0, 1) := by decide +kernel
theorem dX1_readCommand_16 : decode cX1_readCommand 16 = .ok (.iload_n 1, 1) := by decide +kernel
theorem dX1_readCommand_17 : decode cX1_readCommand 17 = .ok (.putfield 23, 3) := by decide +kernel
theorem dX1_readCommand_20 : decode cX1_readCommand 20 = .ok (.aload_n 0, 1) := by decide +kernel
theorem dX1_readCommand_21 : decode cX1_readCommand 21 = .ok (.iload_n 3, 1) := by decide +kernel
theorem dX1_readCommand_22 : decode cX1_readCommand 22 = .ok (.invokestatic 68, 3) := by decide +kernel
theorem dX1_readCommand_25 : decode cX1_readCommand 25 = .ok (.invokevirtual 72, 3) := by decide +kernel
theorem dX1_readCommand_28 : decode cX1_readCommand 28 = .ok (.ifCond .eq 10, 3) := by decide +kernel
theorem dX1_readCommand_31 : decode cX1_readCommand 31 = .ok (.aload_n 0, 1) := by decide +kernel
theorem dX1_readCommand_32 : decode cX1_readCommand 32 = .ok (.iload_n 3, 1) := by decide +kernel
theorem dX1_readCommand_33 : decode cX1_readCommand 33 = .ok (.putfield 26, 3) := by decide +kernel
theorem dX1_readCommand_36 : decode cX1_readCommand 36 = .ok (.iconst 1, 1) := by decide +kernel
theorem dX1_readCommand_37 : decode cX1_readCommand 37 = .ok (.ireturn, 1) := by decide +kernel
theorem dX1_readCommand_38 : decode cX1_readCommand 38 = .ok (.iload_n 2, 1) := by decide +kernel
theorem dX1_readCommand_39 : decode cX1_readCommand 39 = .ok (.aload_n 0, 1) := by decide +kernel
theorem dX1_readCommand_40 : decode cX1_readCommand 40 = .ok (.getfield 23, 3) := by decide +kernel
theorem dX1_readCommand_43 : decode cX1_readCommand 43 = .ok (.invokestatic 76, 3) := by decide +kernel
theorem dX1_readCommand_46 : decode cX1_readCommand 46 = .ok (.istore_n 2, 1) := by decide +kernel
theorem dX1_readCommand_47 : decode cX1_readCommand 47 = .ok (.iinc 3 1, 3) := by decide +kernel
theorem dX1_readCommand_50 : decode cX1_readCommand 50 = .ok (.goto (-41), 3) := by decide +kernel
theorem dX1_readCommand_53 : decode cX1_readCommand 53 = .ok (.aload_n 0, 1) := by decide +kernel
theorem dX1_readCommand_54 : decode cX1_readCommand 54 = .ok (.iload_n 2, 1) := by decide +kernel
theorem dX1_readCommand_55 : decode cX1_readCommand 55 = .ok (.putfield 23, 3) := by decide +kernel
theorem dX1_readCommand_58 : decode cX1_readCommand 58 = .ok (.iconst 0, 1) := by decide +kernel
theorem dX1_readCommand_59 : decode cX1_readCommand 59 = .ok (.ireturn, 1) := by decide +kernel
theorem dX1_readForm_0 : decode cX1_readForm 0 = .ok (.aload_n 0, 1) := by decide +kernel
theorem dX1_readForm_1 : decode cX1_readForm 1 = .ok (.iconst 0, 1) := by decide +kernel
theorem dX1_readForm_2 : decode cX1_readForm 2 = .ok (.putfield 33, 3) := by decide +kernel
theorem dX1_readForm_5 : decode cX1_readForm 5 = .ok (.iconst 0, 1) := by decide +kernel
theorem dX1_readForm_6 : decode cX1_readForm 6 = .ok (.istore_n 2, 1) := by decide +kernel
theorem dX1_readForm_7 : decode cX1_readForm 7 = .ok (.iload_n 2, 1) := by decide +kernel
theorem dX1_readForm_8 : decode cX1_readForm 8 = .ok (.aload_n 1, 1) := by decide +kernel
theorem dX1_readForm_9 : decode cX1_readForm 9 = .ok (.invokevirtual 82, 3) := by decide +kernel
theorem dX1_readForm_12 : decode cX1_readForm 12 = .ok (.if_icmp .ge 42, 3) := by decide +kernel
theorem dX1_readForm_15 : decode cX1_readForm 15 = .ok (.aload_n 1, 1) := by decide +kernel
theorem dX1_readForm_16 : decode cX1_readForm 16 = .ok (.iload_n 2, 1) := by decide +kernel
theorem dX1_readForm_17 : decode cX1_readForm 17 = .ok (.invokevirtual 87, 3) := by decide +kernel
theorem dX1_readForm_20 : decode cX1_readForm 20 = .ok (.istore_n 3, 1) := by decide +kernel
theorem dX1_readForm_21 : decode cX1_readForm 21 = .ok (.iload_n 3, 1) := by decide +kernel
theorem dX1_readForm_22 : decode cX1_readForm 22 = .ok (.bipush 35, 2) := by decide +kernel
theorem dX1_readForm_24 : decode cX1_readForm 24 = .ok (.if_icmp .ne 10, 3) := by decide +kernel
theorem dX1_readForm_27 : decode cX1_readForm 27 = .ok (.aload_n 0, 1) := by decide +kernel
theorem dX1_readForm_28 : decode cX1_readForm 28 = .ok (.invokevirtual 91, 3) := by decide +kernel
theorem dX1_readForm_31 : decode cX1_readForm 31 = .ok (.goto 8, 3) := by decide +kernel
theorem dX1_readForm_34 : decode cX1_readForm 34 = .ok (.aload_n 0, 1) := by decide +kernel
theorem dX1_readForm_35 : decode cX1_readForm 35 = .ok (.iload_n 3, 1) := by decide +kernel
theorem dX1_readForm_36 : decode cX1_readForm 36 = .ok (.invokevirtual 94, 3) := by decide +kernel
theorem dX1_readForm_39 : decode cX1_readForm 39 = .ok (.istore 4, 2) := by decide +kernel
theorem dX1_readForm_41 : decode cX1_readForm 41 = .ok (.iload 4, 2) := by decide +kernel
theorem dX1_readForm_43 : decode cX1_readForm 43 = .ok (.ifCond .ne 5, 3) := by decide +kernel
theorem dX1_readForm_46 : decode cX1_readForm 46 = .ok (.iconst 0, 1) := by decide +kernel
theorem dX1_readForm_47 : decode cX1_readForm 47 = .ok (.ireturn, 1) := by decide +kernel
theorem dX1_readForm_48 : decode cX1_readForm 48 = .ok (.iinc 2 1, 3) := by decide +kernel
theorem dX1_readForm_51 : decode cX1_readForm 51 = .ok (.goto (-44), 3) := by decide +kernel
theorem dX1_readForm_54 : decode cX1_readForm 54 = .ok (.iconst 1, 1) := by decide +kernel
theorem dX1_readForm_55 : decode cX1_readForm 55 = .ok (.ireturn, 1) := by decide +kernel
theorem dX1_readCharacter_0 : decode cX1_readCharacter 0 = .ok (.aload_n 0, 1) := by decide +kernel
theorem dX1_readCharacter_1 : decode cX1_readCharacter 1 = .ok (.getfield 23, 3) := by decide +kernel
theorem dX1_readCharacter_4 : decode cX1_readCharacter 4 = .ok (.aload_n 0, 1) := by decide +kernel
theorem dX1_readCharacter_5 : decode cX1_readCharacter 5 = .ok (.getfield 19, 3) := by decide +kernel
theorem dX1_readCharacter_8 : decode cX1_readCharacter 8 = .ok (.if_icmp .lt 5, 3) := by decide +kernel
theorem dX1_readCharacter_11 : decode cX1_readCharacter 11 = .ok (.iconst 0, 1) := by decide +kernel
theorem dX1_readCharacter_12 : decode cX1_readCharacter 12 = .ok (.ireturn, 1) := by decide +kernel
theorem dX1_readCharacter_13 : decode cX1_readCharacter 13 = .ok (.aload_n 0, 1) := by decide +kernel
theorem dX1_readCharacter_14 : decode cX1_readCharacter 14 = .ok (.getfield 9, 3) := by decide +kernel
theorem dX1_readCharacter_17 : decode cX1_readCharacter 17 = .ok (.aload_n 0, 1) := by decide +kernel
theorem dX1_readCharacter_18 : decode cX1_readCharacter 18 = .ok (.getfield 23, 3) := by decide +kernel
theorem dX1_readCharacter_21 : decode cX1_readCharacter 21 = .ok (.caload, 1) := by decide +kernel
theorem dX1_readCharacter_22 : decode cX1_readCharacter 22 = .ok (.istore_n 2, 1) := by decide +kernel
theorem dX1_readCharacter_23 : decode cX1_readCharacter 23 = .ok (.iload_n 1, 1) := by decide +kernel
theorem dX1_readCharacter_24 : decode cX1_readCharacter 24 = .ok (.bipush 37, 2) := by decide +kernel
theorem dX1_readCharacter_26 : decode cX1_readCharacter 26 = .ok (.if_icmp .ne 10, 3) := by decide +kernel
theorem dX1_readCharacter_29 : decode cX1_readCharacter 29 = .ok (.iload_n 2, 1) := by decide +kernel
theorem dX1_readCharacter_30 : decode cX1_readCharacter 30 = .ok (.invokestatic 98, 3) := by decide +kernel
theorem dX1_readCharacter_33 : decode cX1_readCharacter 33 = .ok (.goto 13, 3) := by decide +kernel
theorem dX1_readCharacter_36 : decode cX1_readCharacter 36 = .ok (.iload_n 2, 1) := by decide +kernel
theorem dX1_readCharacter_37 : decode cX1_readCharacter 37 = .ok (.iload_n 1, 1) := by decide +kernel
theorem dX1_readCharacter_38 : decode cX1_readCharacter 38 = .ok (.if_icmp .ne 7, 3) := by decide +kernel
theorem dX1_readCharacter_41 : decode cX1_readCharacter 41 = .ok (.iconst 1, 1) := by decide +kernel
theorem dX1_readCharacter_42 : decode cX1_readCharacter 42 = .ok (.goto 4, 3) := by decide +kernel
theorem dX1_readCharacter_45 : decode cX1_readCharacter 45 = .ok (.iconst 0, 1) := by decide +kernel
theorem dX1_readCharacter_46 : decode cX1_readCharacter 46 = .ok (.istore_n 3, 1) := by decide +kernel
theorem dX1_readCharacter_47 : decode cX1_readCharacter 47 = .ok (.iload_n 3, 1) := by decide +kernel
theorem dX1_readCharacter_48 : decode cX1_readCharacter 48 = .ok (.ifCond .ne 5, 3) := by decide +kernel
theorem dX1_readCharacter_51 : decode cX1_readCharacter 51 = .ok (.iconst 0, 1) := by decide +kernel
theorem dX1_readCharacter_52 : decode cX1_readCharacter 52 = .ok (.ireturn, 1) := by decide +kernel
theorem dX1_readCharacter_53 : decode cX1_readCharacter 53 = .ok (.iload_n 1, 1) := by decide +kernel
theorem dX1_readCharacter_54 : decode cX1_readCharacter 54 = .ok (.bipush 37, 2) := by decide +kernel
theorem dX1_readCharacter_56 : decode cX1_readCharacter 56 = .ok (.if_icmp .ne 8, 3) := by decide +kernel
theorem dX1_readCharacter_59 : decode cX1_readCharacter 59 = .ok (.aload_n 0, 1) := by decide +kernel
theorem dX1_readCharacter_60 : decode cX1_readCharacter 60 = .ok (.iload_n 2, 1) := by decide +kernel
theorem dX1_readCharacter_61 : decode cX1_readCharacter 61 = .ok (.putfield 29, 3) := by decide +kernel
theorem dX1_readCharacter_64 : decode cX1_readCharacter 64 = .ok (.aload_n 0, 1) := by decide +kernel
theorem dX1_readCharacter_65 : decode cX1_readCharacter 65 = .ok (.dup, 1) := by decide +kernel
theorem dX1_readCharacter_66 : decode cX1_readCharacter 66 = .ok (.getfield 23, 3) := by decide +kernel
theorem dX1_readCharacter_69 : decode cX1_readCharacter 69 = .ok (.iconst 1, 1) := by decide +kernel
theorem dX1_readCharacter_70 : decode cX1_readCharacter 70 = .ok (.iadd, 1) := by decide +kernel
theorem dX1_readCharacter_71 : decode cX1_readCharacter 71 = .ok (.putfield 23, 3) := by decide +kernel
theorem dX1_readCharacter_74 : decode cX1_readCharacter 74 = .ok (.iconst 1, 1) := by decide +kernel
theorem dX1_readCharacter_75 : decode cX1_readCharacter 75 = .ok (.ireturn, 1) := by decide +kernel
theorem dX1_readNumber_0 : decode cX1_readNumber 0 = .ok (.iconst 0, 1) := by decide +kernel
theorem dX1_readNumber_1 : decode cX1_readNumber 1 = .ok (.istore_n 1, 1) := by decide +kernel
theorem dX1_readNumber_2 : decode cX1_readNumber 2 = .ok (.iconst 0, 1) := by decide +kernel
theorem dX1_readNumber_3 : decode cX1_readNumber 3 = .ok (.istore_n 2, 1) := by decide +kernel
theorem dX1_readNumber_4 : decode cX1_readNumber 4 = .ok (.iload_n 2, 1) := by decide +kernel
theorem dX1_readNumber_5 : decode cX1_readNumber 5 = .ok (.iconst 4, 1) := by decide +kernel
theorem dX1_readNumber_6 : decode cX1_readNumber 6 = .ok (.if_icmp .ge 63, 3) := by decide +kernel
theorem dX1_readNumber_9 : decode cX1_readNumber 9 = .ok (.aload_n 0, 1) := by decide +kernel
theorem dX1_readNumber_10 : decode cX1_readNumber 10 = .ok (.getfield 23, 3) := by decide +kernel
theorem dX1_readNumber_13 : decode cX1_readNumber 13 = .ok (.aload_n 0, 1) := by decide +kernel
theorem dX1_readNumber_14 : decode cX1_readNumber 14 = .ok (.getfield 19, 3) := by decide +kernel
theorem dX1_readNumber_17 : decode cX1_readNumber 17 = .ok (.if_icmp .ge 52, 3) := by decide +kernel
theorem dX1_readNumber_20 : decode cX1_readNumber 20 = .ok (.aload_n 0, 1) := by decide +kernel
theorem dX1_readNumber_21 : decode cX1_readNumber 21 = .ok (.getfield 9, 3) := by decide +kernel
theorem dX1_readNumber_24 : decode cX1_readNumber 24 = .ok (.aload_n 0, 1) := by decide +kernel
theorem dX1_readNumber_25 : decode cX1_readNumber 25 = .ok (.getfield 23, 3) := by decide +kernel
theorem dX1_readNumber_28 : decode cX1_readNumber 28 = .ok (.caload, 1) := by decide +kernel
theorem dX1_readNumber_29 : decode cX1_readNumber 29 = .ok (.invokestatic 101, 3) := by decide +kernel
theorem dX1_readNumber_32 : decode cX1_readNumber 32 = .ok (.ifCond .eq 37, 3) := by decide +kernel
theorem dX1_readNumber_35 : decode cX1_readNumber 35 = .ok (.iload_n 1, 1) := by decide +kernel
theorem dX1_readNumber_36 : decode cX1_readNumber 36 = .ok (.bipush 10, 2) := by decide +kernel
theorem dX1_readNumber_38 : decode cX1_readNumber 38 = .ok (.imul, 1) := by decide +kernel
theorem dX1_readNumber_39 : decode cX1_readNumber 39 = .ok (.aload_n 0, 1) := by decide +kernel
theorem dX1_readNumber_40 : decode cX1_readNumber 40 = .ok (.getfield 9, 3) := by decide +kernel
theorem dX1_readNumber_43 : decode cX1_readNumber 43 = .ok (.aload_n 0, 1) := by decide +kernel
theorem dX1_readNumber_44 : decode cX1_readNumber 44 = .ok (.getfield 23, 3) := by decide +kernel
theorem dX1_readNumber_47 : decode cX1_readNumber 47 = .ok (.caload, 1) := by decide +kernel
theorem dX1_readNumber_48 : decode cX1_readNumber 48 = .ok (.bipush 48, 2) := by decide +kernel
theorem dX1_readNumber_50 : decode cX1_readNumber 50 = .ok (.isub, 1) := by decide +kernel
theorem dX1_readNumber_51 : decode cX1_readNumber 51 = .ok (.iadd, 1) := by decide +kernel
theorem dX1_readNumber_52 : decode cX1_readNumber 52 = .ok (.istore_n 1, 1) := by decide +kernel
theorem dX1_readNumber_53 : decode cX1_readNumber 53 = .ok (.iinc 2 1, 3) := by decide +kernel
theorem dX1_readNumber_56 : decode cX1_readNumber 56 = .ok (.aload_n 0, 1) := by decide +kernel
theorem dX1_readNumber_57 : decode cX1_readNumber 57 = .ok (.dup, 1) := by decide +kernel
theorem dX1_readNumber_58 : decode cX1_readNumber 58 = .ok (.getfield 23, 3) := by decide +kernel
theorem dX1_readNumber_61 : decode cX1_readNumber 61 = .ok (.iconst 1, 1) := by decide +kernel
theorem dX1_readNumber_62 : decode cX1_readNumber 62 = .ok (.iadd, 1) := by decide +kernel
theorem dX1_readNumber_63 : decode cX1_readNumber 63 = .ok (.putfield 23, 3) := by decide +kernel
theorem dX1_readNumber_66 : decode cX1_readNumber 66 = .ok (.goto (-62), 3) := by decide +kernel
theorem dX1_readNumber_69 : decode cX1_readNumber 69 = .ok (.iload_n 2, 1) := by decide +kernel
theorem dX1_readNumber_70 : decode cX1_readNumber 70 = .ok (.ifCond .eq 11, 3) := by decide +kernel
theorem dX1_readNumber_73 : decode cX1_readNumber 73 = .ok (.aload_n 0, 1) := by decide +kernel
theorem dX1_readNumber_74 : decode cX1_readNumber 74 = .ok (.getfield 33, 3) := by decide +kernel
theorem dX1_readNumber_77 : decode cX1_readNumber 77 = .ok (.iconst 3, 1) := by decide +kernel
theorem dX1_readNumber_78 : decode cX1_readNumber 78 = .ok (.if_icmp .lt 5, 3) := by decide +kernel
theorem dX1_readNumber_81 : decode cX1_readNumber 81 = .ok (.iconst 0, 1) := by decide +kernel
theorem dX1_readNumber_82 : decode cX1_readNumber 82 = .ok (.ireturn, 1) := by decide +kernel
theorem dX1_readNumber_83 : decode cX1_readNumber 83 = .ok (.aload_n 0, 1) := by decide +kernel
theorem dX1_readNumber_84 : decode cX1_readNumber 84 = .ok (.getfield 15, 3) := by decide +kernel
theorem dX1_readNumber_87 : decode cX1_readNumber 87 = .ok (.aload_n 0, 1) := by decide +kernel
theorem dX1_readNumber_88 : decode cX1_readNumber 88 = .ok (.getfield 33, 3) := by decide +kernel
theorem dX1_readNumber_91 : decode cX1_readNumber 91 = .ok (.iload_n 1, 1) := by decide +kernel
theorem dX1_readNumber_92 : decode cX1_readNumber 92 = .ok (.iastore, 1) := by decide +kernel
theorem dX1_readNumber_93 : decode cX1_readNumber 93 = .ok (.aload_n 0, 1) := by decide +kernel
theorem dX1_readNumber_94 : decode cX1_readNumber 94 = .ok (.dup, 1) := by decide +kernel
theorem dX1_readNumber_95 : decode cX1_readNumber 95 = .ok (.getfield 33, 3) := by decide +kernel
theorem dX1_readNumber_98 : decode cX1_readNumber 98 = .ok (.iconst 1, 1) := by decide +kernel
theorem dX1_readNumber_99 : decode cX1_readNumber 99 = .ok (.iadd, 1) := by decide +kernel
theorem dX1_readNumber_100 : decode cX1_readNumber 100 = .ok (.putfield 33, 3) := by decide +kernel
theorem dX1_readNumber_103 : decode cX1_readNumber 103 = .ok (.iconst 1, 1) := by decide +kernel
theorem dX1_readNumber_104 : decode cX1_readNumber 104 = .ok (.ireturn, 1) := by decide +kernel
theorem dX1_isDigit_0 : decode cX1_isDigit 0 = .ok (.iload_n 0, 1) := by decide +kernel
theorem dX1_isDigit_1 : decode cX1_isDigit 1 = .ok (.bipush 48, 2) := by decide +kernel
theorem dX1_isDigit_3 : decode cX1_isDigit 3 = .ok (.if_icmp .lt 13, 3) := by decide +kernel
theorem dX1_isDigit_6 : decode cX1_isDigit 6 = .ok (.iload_n 0, 1) := by decide +kernel
theorem dX1_isDigit_7 : decode cX1_isDigit 7 = .ok (.bipush 57, 2) := by decide +kernel
theorem dX1_isDigit_9 : decode cX1_isDigit 9 = .ok (.if_icmp .gt 7, 3) := by decide +kernel
theorem dX1_isDigit_12 : decode cX1_isDigit 12 = .ok (.iconst 1, 1) := by decide +kernel
theorem dX1_isDigit_13 : decode cX1_isDigit 13 = .ok (.goto 4, 3) := by decide +kernel
theorem dX1_isDigit_16 : decode cX1_isDigit 16 = .ok (.iconst 0, 1) := by decide +kernel
theorem dX1_isDigit_17 : decode cX1_isDigit 17 = .ok (.ireturn, 1) := by decide +kernel
theorem dX2_init_0 : decode cX2_init 0 = .ok (.aload_n 0, 1) := by decide +kernel
theorem dX2_init_1 : decode cX2_init 1 = .ok (.invokespecial 3, 3) := by decide +kernel
theorem dX2_init_4 : decode cX2_init 4 = .ok (.aload_n 0, 1) := by decide +kernel
theorem dX2_init_5 : decode cX2_init 5 = .ok (.bipush 9, 2) := by decide +kernel
theorem dX2_init_7 : decode cX2_init 7 = .ok (.anewarray 11, 3) := by decide +kernel
theorem dX2_init_10 : decode cX2_init 10 = .ok (.putfield 13, 3) := by decide +kernel
theorem dX2_init_13 : decode cX2_init 13 = .ok (.aload_n 0, 1) := by decide +kernel
theorem dX2_init_14 : decode cX2_init 14 = .ok (.iconst 0, 1) := by decide +kernel
theorem dX2_init_15 : decode cX2_init 15 = .ok (.putfield 17, 3) := by decide +kernel
theorem dX2_init_18 : decode cX2_init 18 = .ok (.aload_n 0, 1) := by decide +kernel
theorem dX2_init_19 : decode cX2_init 19 = .ok (.iconst 0, 1) := by decide +kernel
theorem dX2_init_20 : decode cX2_init 20 = .ok (.putfield 21, 3) := by decide +kernel
theorem dX2_init_23 : decode cX2_init 23 = .ok (.return_, 1) := by decide +kernel
theorem dX2_prepare_0 : decode cX2_prepare 0 = .ok (.aload_n 0, 1) := by decide +kernel
theorem dX2_prepare_1 : decode cX2_prepare 1 = .ok (.getfield 13, 3) := by decide +kernel
theorem dX2_prepare_4 : decode cX2_prepare 4 = .ok (.aload_n 0, 1) := by decide +kernel
theorem dX2_prepare_5 : decode cX2_prepare 5 = .ok (.getfield 17, 3) := by decide +kernel
theorem dX2_prepare_8 : decode cX2_prepare 8 = .ok (.aaload, 1) := by decide +kernel
theorem dX2_prepare_9 : decode cX2_prepare 9 = .ok (.astore_n 2, 1) := by decide +kernel
theorem dX2_prepare_10 : decode cX2_prepare 10 = .ok (.aload_n 2, 1) := by decide +kernel
theorem dX2_prepare_11 : decode cX2_prepare 11 = .ok (.ifnonnull 21, 3) := by decide +kernel
theorem dX2_prepare_14 : decode cX2_prepare 14 = .ok (.new 11, 3) := by decide +kernel
theorem dX2_prepare_17 : decode cX2_prepare 17 = .ok (.dup, 1) := by decide +kernel
theorem dX2_prepare_18 : decode cX2_prepare 18 = .ok (.invokespecial 24, 3) := by decide +kernel
theorem dX2_prepare_21 : decode cX2_prepare 21 = .ok (.astore_n 2, 1) := by decide +kernel
theorem dX2_prepare_22 : decode cX2_prepare 22 = .ok (.aload_n 0, 1) := by decide +kernel
theorem dX2_prepare_23 : decode cX2_prepare 23 = .ok (.getfield 13, 3) := by decide +kernel
theorem dX2_prepare_26 : decode cX2_prepare 26 = .ok (.aload_n 0, 1) := by decide +kernel
theorem dX2_prepare_27 : decode cX2_prepare 27 = .ok (.getfield 17, 3) := by decide +kernel
theorem dX2_prepare_30 : decode cX2_prepare 30 = .ok (.aload_n 2, 1) := by decide +kernel
theorem dX2_prepare_31 : decode cX2_prepare 31 = .ok (.aastore, 1) := by decide +kernel
theorem dX2_prepare_32 : decode cX2_prepare 32 = .ok (.aload_n 2, 1) := by decide +kernel
theorem dX2_prepare_33 : decode cX2_prepare 33 = .ok (.aload_n 1, 1) := by decide +kernel
theorem dX2_prepare_34 : decode cX2_prepare 34 = .ok (.invokevirtual 25, 3) := by decide +kernel
theorem dX2_prepare_37 : decode cX2_prepare 37 = .ok (.return_, 1) := by decide +kernel
theorem dX2_keepPrepared_0 : decode cX2_keepPrepared 0 = .ok (.aload_n 0, 1) := by decide +kernel
theorem dX2_keepPrepared_1 : decode cX2_keepPrepared 1 = .ok (.aload_n 0, 1) := by decide +kernel
theorem dX2_keepPrepared_2 : decode cX2_keepPrepared 2 = .ok (.getfield 17, 3) := by decide +kernel
theorem dX2_keepPrepared_5 : decode cX2_keepPrepared 5 = .ok (.bipush 8, 2) := by decide +kernel
theorem dX2_keepPrepared_7 : decode cX2_keepPrepared 7 = .ok (.if_icmp .lt 7, 3) := by decide +kernel
theorem dX2_keepPrepared_10 : decode cX2_keepPrepared 10 = .ok (.iconst 0, 1) := by decide +kernel
theorem dX2_keepPrepared_11 : decode cX2_keepPrepared 11 = .ok (.goto 9, 3) := by decide +kernel
theorem dX2_keepPrepared_14 : decode cX2_keepPrepared 14 = .ok (.aload_n 0, 1) := by decide +kernel
theorem dX2_keepPrepared_15 : decode cX2_keepPrepared 15 = .ok (.getfield 17, 3) := by decide +kernel
theorem dX2_keepPrepared_18 : decode cX2_keepPrepared 18 = .ok (.iconst 1, 1) := by decide +kernel
theorem dX2_keepPrepared_19 : decode cX2_keepPrepared 19 = .ok (.iadd, 1) := by decide +kernel
theorem dX2_keepPrepared_20 : decode cX2_keepPrepared 20 = .ok (.putfield 17, 3) := by decide +kernel
theorem dX2_keepPrepared_23 : decode cX2_keepPrepared 23 = .ok (.aload_n 0, 1) := by decide +kernel
theorem dX2_keepPrepared_24 : decode cX2_keepPrepared 24 = .ok (.getfield 21, 3) := by decide +kernel
theorem dX2_keepPrepared_27 : decode cX2_keepPrepared 27 = .ok (.bipush 8, 2) := by decide +kernel
theorem dX2_keepPrepared_29 : decode cX2_keepPrepared 29 = .ok (.if_icmp .ge 13, 3) := by decide +kernel
theorem dX2_keepPrepared_32 : decode cX2_keepPrepared 32 = .ok (.aload_n 0, 1) := by decide +kernel
theorem dX2_keepPrepared_33 : decode cX2_keepPrepared 33 = .ok (.dup, 1) := by decide +kernel
theorem dX2_keepPrepared_34 : decode cX2_keepPrepared 34 = .ok (.getfield 21, 3) := by decide +kernel
theorem dX2_keepPrepared_37 : decode cX2_keepPrepared 37 = .ok (.iconst 1, 1) := by decide +kernel
theorem dX2_keepPrepared_38 : decode cX2_keepPrepared 38 = .ok (.iadd, 1) := by decide +kernel
theorem dX2_keepPrepared_39 : decode cX2_keepPrepared 39 = .ok (.putfield 21, 3) := by decide +kernel
theorem dX2_keepPrepared_42 : decode cX2_keepPrepared 42 = .ok (.return_, 1) := by decide +kernel
theorem dX2_takeBack_0 : decode cX2_takeBack 0 = .ok (.aload_n 0, 1) := by decide +kernel
theorem dX2_takeBack_1 : decode cX2_takeBack 1 = .ok (.getfield 13, 3) := by decide +kernel
theorem dX2_takeBack_4 : decode cX2_takeBack 4 = .ok (.aload_n 0, 1) := by decide +kernel
theorem dX2_takeBack_5 : decode cX2_takeBack 5 = .ok (.getfield 17, 3) := by decide +kernel
theorem dX2_takeBack_8 : decode cX2_takeBack 8 = .ok (.aaload, 1) := by decide +kernel
theorem dX2_takeBack_9 : decode cX2_takeBack 9 = .ok (.astore_n 2, 1) := by decide +kernel
theorem dX2_takeBack_10 : decode cX2_takeBack 10 = .ok (.aload_n 2, 1) := by decide +kernel
theorem dX2_takeBack_11 : decode cX2_takeBack 11 = .ok (.ifnull 8, 3) := by decide +kernel
theorem dX2_takeBack_14 : decode cX2_takeBack 14 = .ok (.aload_n 1, 1) := by decide +kernel
theorem dX2_takeBack_15 : decode cX2_takeBack 15 = .ok (.aload_n 2, 1) := by decide +kernel
theorem dX2_takeBack_16 : decode cX2_takeBack 16 = .ok (.invokevirtual 25, 3) := by decide +kernel
theorem dX2_takeBack_19 : decode cX2_takeBack 19 = .ok (.return_, 1) := by decide +kernel
theorem dX2_undoLatest_0 : decode cX2_undoLatest 0 = .ok (.aload_n 0, 1) := by decide +kernel
theorem dX2_undoLatest_1 : decode cX2_undoLatest 1 = .ok (.aload_n 0, 1) := by decide +kernel
theorem dX2_undoLatest_2 : decode cX2_undoLatest 2 = .ok (.getfield 17, 3) := by decide +kernel
theorem dX2_undoLatest_5 : decode cX2_undoLatest 5 = .ok (.ifCond .gt 8, 3) := by decide +kernel
theorem dX2_undoLatest_8 : decode cX2_undoLatest 8 = .ok (.bipush 8, 2) := by decide +kernel
theorem dX2_undoLatest_10 : decode cX2_undoLatest 10 = .ok (.goto 9, 3) := by decide +kernel
theorem dX2_undoLatest_13 : decode cX2_undoLatest 13 = .ok (.aload_n 0, 1) := by decide +kernel
theorem dX2_undoLatest_14 : decode cX2_undoLatest 14 = .ok (.getfield 17, 3) := by decide +kernel
theorem dX2_undoLatest_17 : decode cX2_undoLatest 17 = .ok (.iconst 1, 1) := by decide +kernel
theorem dX2_undoLatest_18 : decode cX2_undoLatest 18 = .ok (.isub, 1) := by decide +kernel
theorem dX2_undoLatest_19 : decode cX2_undoLatest 19 = .ok (.putfield 17, 3) := by decide +kernel
theorem dX2_undoLatest_22 : decode cX2_undoLatest 22 = .ok (.aload_n 0, 1) := by decide +kernel
theorem dX2_undoLatest_23 : decode cX2_undoLatest 23 = .ok (.dup, 1) := by decide +kernel
theorem dX2_undoLatest_24 : decode cX2_undoLatest 24 = .ok (.getfield 21, 3) := by decide +kernel
theorem dX2_undoLatest_27 : decode cX2_undoLatest 27 = .ok (.iconst 1, 1) := by decide +kernel
theorem dX2_undoLatest_28 : decode cX2_undoLatest 28 = .ok (.isub, 1) := by decide +kernel
theorem dX2_undoLatest_29 : decode cX2_undoLatest 29 = .ok (.putfield 21, 3) := by decide +kernel
theorem dX2_undoLatest_32 : decode cX2_undoLatest 32 = .ok (.aload_n 0, 1) := by decide +kernel
theorem dX2_undoLatest_33 : decode cX2_undoLatest 33 = .ok (.aload_n 1, 1) := by decide +kernel
theorem dX2_undoLatest_34 : decode cX2_undoLatest 34 = .ok (.invokevirtual 29, 3) := by decide +kernel
theorem dX2_undoLatest_37 : decode cX2_undoLatest 37 = .ok (.return_, 1) := by decide +kernel
theorem dX2_forget_0 : decode cX2_forget 0 = .ok (.aload_n 0, 1) := by decide +kernel
theorem dX2_forget_1 : decode cX2_forget 1 = .ok (.iconst 0, 1) := by decide +kernel
theorem dX2_forget_2 : decode cX2_forget 2 = .ok (.putfield 21, 3) := by decide +kernel
theorem dX2_forget_5 : decode cX2_forget 5 = .ok (.return_, 1) := by decide +kernel
theorem dX3_init_0 : decode cX3_init 0 = .ok (.aload_n 0, 1) := by decide +kernel
theorem dX3_init_1 : decode cX3_init 1 = .ok (.invokespecial 3, 3) := by decide +kernel
theorem dX3_init_4 : decode cX3_init 4 = .ok (.aload_n 0, 1) := by decide +kernel
theorem dX3_init_5 : decode cX3_init 5 = .ok (.bipush 16, 2) := by decide +kernel
theorem dX3_init_7 : decode cX3_init 7 = .ok (.newarray .int, 2) := by decide +kernel
theorem dX3_init_9 : decode cX3_init 9 = .ok (.putfield 9, 3) := by decide +kernel
theorem dX3_init_12 : decode cX3_init 12 = .ok (.aload_n 0, 1) := by decide +kernel
theorem dX3_init_13 : decode cX3_init 13 = .ok (.bipush 16, 2) := by decide +kernel
theorem dX3_init_15 : decode cX3_init 15 = .ok (.newarray .char, 2) := by decide +kernel
theorem dX3_init_17 : decode cX3_init 17 = .ok (.putfield 15, 3) := by decide +kernel
theorem dX3_init_20 : decode cX3_init 20 = .ok (.aload_n 0, 1) := by decide +kernel
theorem dX3_init_21 : decode cX3_init 21 = .ok (.bipush 16, 2) := by decide +kernel
theorem dX3_init_23 : decode cX3_init 23 = .ok (.newarray .int, 2) := by decide +kernel
theorem dX3_init_25 : decode cX3_init 25 = .ok (.putfield 19, 3) := by decide +kernel
theorem dX3_init_28 : decode cX3_init 28 = .ok (.aload_n 0, 1) := by decide +kernel
theorem dX3_init_29 : decode cX3_init 29 = .ok (.bipush 16, 2) := by decide +kernel
theorem dX3_init_31 : decode cX3_init 31 = .ok (.newarray .int, 2) := by decide +kernel
theorem dX3_init_33 : decode cX3_init 33 = .ok (.putfield 22, 3) := by decide +kernel
theorem dX3_init_36 : decode cX3_init 36 = .ok (.aload_n 0, 1) := by decide +kernel
theorem dX3_init_37 : decode cX3_init 37 = .ok (.bipush 16, 2) := by decide +kernel
theorem dX3_init_39 : decode cX3_init 39 = .ok (.newarray .int, 2) := by decide +kernel
theorem dX3_init_41 : decode cX3_init 41 = .ok (.putfield 25, 3) := by decide +kernel
theorem dX3_init_44 : decode cX3_init 44 = .ok (.aload_n 0, 1) := by decide +kernel
theorem dX3_init_45 : decode cX3_init 45 = .ok (.bipush 16, 2) := by decide +kernel
theorem dX3_init_47 : decode cX3_init 47 = .ok (.newarray .boolean, 2) := by decide +kernel
theorem dX3_init_49 : decode cX3_init 49 = .ok (.putfield 28, 3) := by decide +kernel
theorem dX3_init_52 : decode cX3_init 52 = .ok (.aload_n 0, 1) := by decide +kernel
theorem dX3_init_53 : decode cX3_init 53 = .ok (.bipush 16, 2) := by decide +kernel
theorem dX3_init_55 : decode cX3_init 55 = .ok (.newarray .boolean, 2) := by decide +kernel
theorem dX3_init_57 : decode cX3_init 57 = .ok (.putfield 32, 3) := by decide +kernel
theorem dX3_init_60 : decode cX3_init 60 = .ok (.aload_n 0, 1) := by decide +kernel
theorem dX3_init_61 : decode cX3_init 61 = .ok (.iconst 0, 1) := by decide +kernel
theorem dX3_init_62 : decode cX3_init 62 = .ok (.putfield 35, 3) := by decide +kernel
theorem dX3_init_65 : decode cX3_init 65 = .ok (.aload_n 0, 1) := by decide +kernel
theorem dX3_init_66 : decode cX3_init 66 = .ok (.iconst 0, 1) := by decide +kernel
theorem dX3_init_67 : decode cX3_init 67 = .ok (.putfield 39, 3) := by decide +kernel
theorem dX3_init_70 : decode cX3_init 70 = .ok (.return_, 1) := by decide +kernel
theorem dX3_slotWith_0 : decode cX3_slotWith 0 = .ok (.iconst 0, 1) := by decide +kernel
theorem dX3_slotWith_1 : decode cX3_slotWith 1 = .ok (.istore_n 2, 1) := by decide +kernel
theorem dX3_slotWith_2 : decode cX3_slotWith 2 = .ok (.iload_n 2, 1) := by decide +kernel
theorem dX3_slotWith_3 : decode cX3_slotWith 3 = .ok (.aload_n 0, 1) := by decide +kernel
theorem dX3_slotWith_4 : decode cX3_slotWith 4 = .ok (.getfield 35, 3) := by decide +kernel
theorem dX3_slotWith_7 : decode cX3_slotWith 7 = .ok (.if_icmp .ge 21, 3) := by decide +kernel
theorem dX3_slotWith_10 : decode cX3_slotWith 10 = .ok (.aload_n 0, 1) := by decide +kernel
theorem dX3_slotWith_11 : decode cX3_slotWith 11 = .ok (.getfield 9, 3) := by decide +kernel
theorem dX3_slotWith_14 : decode cX3_slotWith 14 = .ok (.iload_n 2, 1) := by decide +kernel
theorem dX3_slotWith_15 : decode cX3_slotWith 15 = .ok (.iaload, 1) := by decide +kernel
theorem dX3_slotWith_16 : decode cX3_slotWith 16 = .ok (.iload_n 1, 1) := by decide +kernel
theorem dX3_slotWith_17 : decode cX3_slotWith 17 = .ok (.if_icmp .ne 5, 3) := by decide +kernel
theorem dX3_slotWith_20 : decode cX3_slotWith 20 = .ok (.iload_n 2, 1) := by decide +kernel
theorem dX3_slotWith_21 : decode cX3_slotWith 21 = .ok (.ireturn, 1) := by decide +kernel
theorem dX3_slotWith_22 : decode cX3_slotWith 22 = .ok (.iinc 2 1, 3) := by decide +kernel
theorem dX3_slotWith_25 : decode cX3_slotWith 25 = .ok (.goto (-23), 3) := by decide +kernel
theorem dX3_slotWith_28 : decode cX3_slotWith 28 = .ok (.iconst (-1), 1) := by decide +kernel
theorem dX3_slotWith_29 : decode cX3_slotWith 29 = .ok (.ireturn, 1) := by decide +kernel
theorem dX3_slotAt_0 : decode cX3_slotAt 0 = .ok (.iconst 0, 1) := by decide +kernel
theorem dX3_slotAt_1 : decode cX3_slotAt 1 = .ok (.istore_n 2, 1) := by decide +kernel
theorem dX3_slotAt_2 : decode cX3_slotAt 2 = .ok (.iload_n 2, 1) := by decide +kernel
theorem dX3_slotAt_3 : decode cX3_slotAt 3 = .ok (.aload_n 0, 1) := by decide +kernel
theorem dX3_slotAt_4 : decode cX3_slotAt 4 = .ok (.getfield 35, 3) := by decide +kernel
theorem dX3_slotAt_7 : decode cX3_slotAt 7 = .ok (.if_icmp .ge 21, 3) := by decide +kernel
theorem dX3_slotAt_10 : decode cX3_slotAt 10 = .ok (.aload_n 0, 1) := by decide +kernel
theorem dX3_slotAt_11 : decode cX3_slotAt 11 = .ok (.getfield 25, 3) := by decide +kernel
theorem dX3_slotAt_14 : decode cX3_slotAt 14 = .ok (.iload_n 2, 1) := by decide +kernel
theorem dX3_slotAt_15 : decode cX3_slotAt 15 = .ok (.iaload, 1) := by decide +kernel
theorem dX3_slotAt_16 : decode cX3_slotAt 16 = .ok (.iload_n 1, 1) := by decide +kernel
theorem dX3_slotAt_17 : decode cX3_slotAt 17 = .ok (.if_icmp .ne 5, 3) := by decide +kernel
theorem dX3_slotAt_20 : decode cX3_slotAt 20 = .ok (.iload_n 2, 1) := by decide +kernel
theorem dX3_slotAt_21 : decode cX3_slotAt 21 = .ok (.ireturn, 1) := by decide +kernel
theorem dX3_slotAt_22 : decode cX3_slotAt 22 = .ok (.iinc 2 1, 3) := by decide +kernel
theorem dX3_slotAt_25 : decode cX3_slotAt 25 = .ok (.goto (-23), 3) := by decide +kernel
theorem dX3_slotAt_28 : decode cX3_slotAt 28 = .ok (.iconst (-1), 1) := by decide +kernel
theorem dX3_slotAt_29 : decode cX3_slotAt 29 = .ok (.ireturn, 1) := by decide +kernel
theorem dX3_valueOf_0 : decode cX3_valueOf 0 = .ok (.aload_n 0, 1) := by decide +kernel
theorem dX3_valueOf_1 : decode cX3_valueOf 1 = .ok (.getfield 19, 3) := by decide +kernel
theorem dX3_valueOf_4 : decode cX3_valueOf 4 = .ok (.iload_n 1, 1) := by decide +kernel
theorem dX3_valueOf_5 : decode cX3_valueOf 5 = .ok (.iaload, 1) := by decide +kernel
theorem dX3_valueOf_6 : decode cX3_valueOf 6 = .ok (.aload_n 0, 1) := by decide +kernel
theorem dX3_valueOf_7 : decode cX3_valueOf 7 = .ok (.getfield 22, 3) := by decide +kernel
theorem dX3_valueOf_10 : decode cX3_valueOf 10 = .ok (.iload_n 1, 1) := by decide +kernel
theorem dX3_valueOf_11 : decode cX3_valueOf 11 = .ok (.iaload, 1) := by decide +kernel
theorem dX3_valueOf_12 : decode cX3_valueOf 12 = .ok (.imul, 1) := by decide +kernel
theorem dX3_valueOf_13 : decode cX3_valueOf 13 = .ok (.ireturn, 1) := by decide +kernel
theorem dX3_sumOfValues_0 : decode cX3_sumOfValues 0 = .ok (.iconst 0, 1) := by decide +kernel
theorem dX3_sumOfValues_1 : decode cX3_sumOfValues 1 = .ok (.istore_n 1, 1) := by decide +kernel
theorem dX3_sumOfValues_2 : decode cX3_sumOfValues 2 = .ok (.iconst 0, 1) := by decide +kernel
theorem dX3_sumOfValues_3 : decode cX3_sumOfValues 3 = .ok (.istore_n 2, 1) := by decide +kernel
theorem dX3_sumOfValues_4 : decode cX3_sumOfValues 4 = .ok (.iload_n 2, 1) := by decide +kernel
theorem dX3_sumOfValues_5 : decode cX3_sumOfValues 5 = .ok (.aload_n 0, 1) := by decide +kernel
theorem dX3_sumOfValues_6 : decode cX3_sumOfValues 6 = .ok (.getfield 35, 3) := by decide +kernel
theorem dX3_sumOfValues_9 : decode cX3_sumOfValues 9 = .ok (.if_icmp .ge 17, 3) := by decide +kernel
theorem dX3_sumOfValues_12 : decode cX3_sumOfValues 12 = .ok (.iload_n 1, 1) := by decide +kernel
theorem dX3_sumOfValues_13 : decode cX3_sumOfValues 13 = .ok (.aload_n 0, 1) := by decide +kernel
theorem dX3_sumOfValues_14 : decode cX3_sumOfValues 14 = .ok (.iload_n 2, 1) := by decide +kernel
theorem dX3_sumOfValues_15 : decode cX3_sumOfValues 15 = .ok (.invokevirtual 42, 3) := by decide +kernel
theorem dX3_sumOfValues_18 : decode cX3_sumOfValues 18 = .ok (.iadd, 1) := by decide +kernel
theorem dX3_sumOfValues_19 : decode cX3_sumOfValues 19 = .ok (.istore_n 1, 1) := by decide +kernel
theorem dX3_sumOfValues_20 : decode cX3_sumOfValues 20 = .ok (.iinc 2 1, 3) := by decide +kernel
theorem dX3_sumOfValues_23 : decode cX3_sumOfValues 23 = .ok (.goto (-19), 3) := by decide +kernel
theorem dX3_sumOfValues_26 : decode cX3_sumOfValues 26 = .ok (.iload_n 1, 1) := by decide +kernel
theorem dX3_sumOfValues_27 : decode cX3_sumOfValues 27 = .ok (.ireturn, 1) := by decide +kernel
theorem dX3_quantityOf_0 : decode cX3_quantityOf 0 = .ok (.iconst 0, 1) := by decide +kernel
theorem dX3_quantityOf_1 : decode cX3_quantityOf 1 = .ok (.istore_n 2, 1) := by decide +kernel
theorem dX3_quantityOf_2 : decode cX3_quantityOf 2 = .ok (.iconst 0, 1) := by decide +kernel
theorem dX3_quantityOf_3 : decode cX3_quantityOf 3 = .ok (.istore_n 3, 1) := by decide +kernel
theorem dX3_quantityOf_4 : decode cX3_quantityOf 4 = .ok (.iload_n 3, 1) := by decide +kernel
theorem dX3_quantityOf_5 : decode cX3_quantityOf 5 = .ok (.aload_n 0, 1) := by decide +kernel
theorem dX3_quantityOf_6 : decode cX3_quantityOf 6 = .ok (.getfield 35, 3) := by decide +kernel
theorem dX3_quantityOf_9 : decode cX3_quantityOf 9 = .ok (.if_icmp .ge 28, 3) := by decide +kernel
theorem dX3_quantityOf_12 : decode cX3_quantityOf 12 = .ok (.aload_n 0, 1) := by decide +kernel
theorem dX3_quantityOf_13 : decode cX3_quantityOf 13 = .ok (.getfield 15, 3) := by decide +kernel
theorem dX3_quantityOf_16 : decode cX3_quantityOf 16 = .ok (.iload_n 3, 1) := by decide +kernel
theorem dX3_quantityOf_17 : decode cX3_quantityOf 17 = .ok (.caload, 1) := by decide +kernel
theorem dX3_quantityOf_18 : decode cX3_quantityOf 18 = .ok (.iload_n 1, 1) := by decide +kernel
theorem dX3_quantityOf_19 : decode cX3_quantityOf 19 = .ok (.if_icmp .ne 12, 3) := by decide +kernel
theorem dX3_quantityOf_22 : decode cX3_quantityOf 22 = .ok (.iload_n 2, 1) := by decide +kernel
theorem dX3_quantityOf_23 : decode cX3_quantityOf 23 = .ok (.aload_n 0, 1) := by decide +kernel
theorem dX3_quantityOf_24 : decode cX3_quantityOf 24 = .ok (.getfield 19, 3) := by decide +kernel
theorem dX3_quantityOf_27 : decode cX3_quantityOf 27 = .ok (.iload_n 3, 1) := by decide +kernel
theorem dX3_quantityOf_28 : decode cX3_quantityOf 28 = .ok (.iaload, 1) := by decide +kernel
theorem dX3_quantityOf_29 : decode cX3_quantityOf 29 = .ok (.iadd, 1) := by decide +kernel
theorem dX3_quantityOf_30 : decode cX3_quantityOf 30 = .ok (.istore_n 2, 1) := by decide +kernel
theorem dX3_quantityOf_31 : decode cX3_quantityOf 31 = .ok (.iinc 3 1, 3) := by decide +kernel
theorem dX3_quantityOf_34 : decode cX3_quantityOf 34 = .ok (.goto (-30), 3) := by decide +kernel
theorem dX3_quantityOf_37 : decode cX3_quantityOf 37 = .ok (.iload_n 2, 1) := by decide +kernel
theorem dX3_quantityOf_38 : decode cX3_quantityOf 38 = .ok (.ireturn, 1) := by decide +kernel
theorem dX3_slotByValue_0 : decode cX3_slotByValue 0 = .ok (.iconst 0, 1) := by decide +kernel
theorem dX3_slotByValue_1 : decode cX3_slotByValue 1 = .ok (.istore_n 2, 1) := by decide +kernel
theorem dX3_slotByValue_2 : decode cX3_slotByValue 2 = .ok (.iload_n 2, 1) := by decide +kernel
theorem dX3_slotByValue_3 : decode cX3_slotByValue 3 = .ok (.aload_n 0, 1) := by decide +kernel
theorem dX3_slotByValue_4 : decode cX3_slotByValue 4 = .ok (.getfield 35, 3) := by decide +kernel
theorem dX3_slotByValue_7 : decode cX3_slotByValue 7 = .ok (.if_icmp .ge 20, 3) := by decide +kernel
theorem dX3_slotByValue_10 : decode cX3_slotByValue 10 = .ok (.aload_n 0, 1) := by decide +kernel
theorem dX3_slotByValue_11 : decode cX3_slotByValue 11 = .ok (.iload_n 2, 1) := by decide +kernel
theorem dX3_slotByValue_12 : decode cX3_slotByValue 12 = .ok (.invokevirtual 46, 3) := by decide +kernel
theorem dX3_slotByValue_15 : decode cX3_slotByValue 15 = .ok (.iload_n 1, 1) := by decide +kernel
theorem dX3_slotByValue_16 : decode cX3_slotByValue 16 = .ok (.if_icmp .ne 5, 3) := by decide +kernel
theorem dX3_slotByValue_19 : decode cX3_slotByValue 19 = .ok (.iload_n 2, 1) := by decide +kernel
theorem dX3_slotByValue_20 : decode cX3_slotByValue 20 = .ok (.ireturn, 1) := by decide +kernel
theorem dX3_slotByValue_21 : decode cX3_slotByValue 21 = .ok (.iinc 2 1, 3) := by decide +kernel
theorem dX3_slotByValue_24 : decode cX3_slotByValue 24 = .ok (.goto (-22), 3) := by decide +kernel
theorem dX3_slotByValue_27 : decode cX3_slotByValue 27 = .ok (.iconst (-1), 1) := by decide +kernel
theorem dX3_slotByValue_28 : decode cX3_slotByValue 28 = .ok (.ireturn, 1) := by decide +kernel
theorem dX3_countAhead_0 : decode cX3_countAhead 0 = .ok (.aload_n 0, 1) := by decide +kernel
theorem dX3_countAhead_1 : decode cX3_countAhead 1 = .ok (.iload_n 1, 1) := by decide +kernel
theorem dX3_countAhead_2 : decode cX3_countAhead 2 = .ok (.invokevirtual 42, 3) := by decide +kernel
theorem dX3_countAhead_5 : decode cX3_countAhead 5 = .ok (.istore_n 2, 1) := by decide +kernel
theorem dX3_countAhead_6 : decode cX3_countAhead 6 = .ok (.iconst 0, 1) := by decide +kernel
theorem dX3_countAhead_7 : decode cX3_countAhead 7 = .ok (.istore_n 3, 1) := by decide +kernel
theorem dX3_countAhead_8 : decode cX3_countAhead 8 = .ok (.iconst 0, 1) := by decide +kernel
theorem dX3_countAhead_9 : decode cX3_countAhead 9 = .ok (.istore 4, 2) := by decide +kernel
theorem dX3_countAhead_11 : decode cX3_countAhead 11 = .ok (.iload 4, 2) := by decide +kernel
theorem dX3_countAhead_13 : decode cX3_countAhead 13 = .ok (.aload_n 0, 1) := by decide +kernel
theorem dX3_countAhead_14 : decode cX3_countAhead 14 = .ok (.getfield 35, 3) := by decide +kernel
theorem dX3_countAhead_17 : decode cX3_countAhead 17 = .ok (.if_icmp .ge 38, 3) := by decide +kernel
theorem dX3_countAhead_20 : decode cX3_countAhead 20 = .ok (.aload_n 0, 1) := by decide +kernel
theorem dX3_countAhead_21 : decode cX3_countAhead 21 = .ok (.iload 4, 2) := by decide +kernel
theorem dX3_countAhead_23 : decode cX3_countAhead 23 = .ok (.invokevirtual 42, 3) := by decide +kernel
theorem dX3_countAhead_26 : decode cX3_countAhead 26 = .ok (.istore 5, 2) := by decide +kernel
theorem dX3_countAhead_28 : decode cX3_countAhead 28 = .ok (.iload 5, 2) := by decide +kernel
theorem dX3_countAhead_30 : decode cX3_countAhead 30 = .ok (.iload_n 2, 1) := by decide +kernel
theorem dX3_countAhead_31 : decode cX3_countAhead 31 = .ok (.if_icmp .gt 15, 3) := by decide +kernel
theorem dX3_countAhead_34 : decode cX3_countAhead 34 = .ok (.iload 5, 2) := by decide +kernel
theorem dX3_countAhead_36 : decode cX3_countAhead 36 = .ok (.iload_n 2, 1) := by decide +kernel
theorem dX3_countAhead_37 : decode cX3_countAhead 37 = .ok (.if_icmp .ne 12, 3) := by decide +kernel
theorem dX3_countAhead_40 : decode cX3_countAhead 40 = .ok (.iload 4, 2) := by decide +kernel
theorem dX3_countAhead_42 : decode cX3_countAhead 42 = .ok (.iload_n 1, 1) := by decide +kernel
theorem dX3_countAhead_43 : decode cX3_countAhead 43 = .ok (.if_icmp .ge 6, 3) := by decide +kernel
theorem dX3_countAhead_46 : decode cX3_countAhead 46 = .ok (.iinc 3 1, 3) := by decide +kernel
theorem dX3_countAhead_49 : decode cX3_countAhead 49 = .ok (.iinc 4 1, 3) := by decide +kernel
theorem dX3_countAhead_52 : decode cX3_countAhead 52 = .ok (.goto (-41), 3) := by decide +kernel
theorem dX3_countAhead_55 : decode cX3_countAhead 55 = .ok (.iload_n 3, 1) := by decide +kernel
theorem dX3_countAhead_56 : decode cX3_countAhead 56 = .ok (.ireturn, 1) := by decide +kernel
theorem dX3_countSealed_0 : decode cX3_countSealed 0 = .ok (.iconst 0, 1) := by decide +kernel
theorem dX3_countSealed_1 : decode cX3_countSealed 1 = .ok (.istore_n 1, 1) := by decide +kernel
theorem dX3_countSealed_2 : decode cX3_countSealed 2 = .ok (.iconst 0, 1) := by decide +kernel
theorem dX3_countSealed_3 : decode cX3_countSealed 3 = .ok (.istore_n 2, 1) := by decide +kernel
theorem dX3_countSealed_4 : decode cX3_countSealed 4 = .ok (.iload_n 2, 1) := by decide +kernel
theorem dX3_countSealed_5 : decode cX3_countSealed 5 = .ok (.aload_n 0, 1) := by decide +kernel
theorem dX3_countSealed_6 : decode cX3_countSealed 6 = .ok (.getfield 35, 3) := by decide +kernel
theorem dX3_countSealed_9 : decode cX3_countSealed 9 = .ok (.if_icmp .ge 21, 3) := by decide +kernel
theorem dX3_countSealed_12 : decode cX3_countSealed 12 = .ok (.aload_n 0, 1) := by decide +kernel
theorem dX3_countSealed_13 : decode cX3_countSealed 13 = .ok (.getfield 28, 3) := by decide +kernel
theorem dX3_countSealed_16 : decode cX3_countSealed 16 = .ok (.iload_n 2, 1) := by decide +kernel
theorem dX3_countSealed_17 : decode cX3_countSealed 17 = .ok (.baload, 1) := by decide +kernel
theorem dX3_countSealed_18 : decode cX3_countSealed 18 = .ok (.ifCond .eq 6, 3) := by decide +kernel
theorem dX3_countSealed_21 : decode cX3_countSealed 21 = .ok (.iinc 1 1, 3) := by decide +kernel
theorem dX3_countSealed_24 : decode cX3_countSealed 24 = .ok (.iinc 2 1, 3) := by decide +kernel
theorem dX3_countSealed_27 : decode cX3_countSealed 27 = .ok (.goto (-23), 3) := by decide +kernel
theorem dX3_countSealed_30 : decode cX3_countSealed 30 = .ok (.iload_n 1, 1) := by decide +kernel
theorem dX3_countSealed_31 : decode cX3_countSealed 31 = .ok (.ireturn, 1) := by decide +kernel
theorem dX3_countDamp_0 : decode cX3_countDamp 0 = .ok (.iconst 0, 1) := by decide +kernel
theorem dX3_countDamp_1 : decode cX3_countDamp 1 = .ok (.istore_n 1, 1) := by decide +kernel
theorem dX3_countDamp_2 : decode cX3_countDamp 2 = .ok (.iconst 0, 1) := by decide +kernel
theorem dX3_countDamp_3 : decode cX3_countDamp 3 = .ok (.istore_n 2, 1) := by decide +kernel
theorem dX3_countDamp_4 : decode cX3_countDamp 4 = .ok (.iload_n 2, 1) := by decide +kernel
theorem dX3_countDamp_5 : decode cX3_countDamp 5 = .ok (.aload_n 0, 1) := by decide +kernel
theorem dX3_countDamp_6 : decode cX3_countDamp 6 = .ok (.getfield 35, 3) := by decide +kernel
theorem dX3_countDamp_9 : decode cX3_countDamp 9 = .ok (.if_icmp .ge 21, 3) := by decide +kernel
theorem dX3_countDamp_12 : decode cX3_countDamp 12 = .ok (.aload_n 0, 1) := by decide +kernel
theorem dX3_countDamp_13 : decode cX3_countDamp 13 = .ok (.getfield 32, 3) := by decide +kernel
theorem dX3_countDamp_16 : decode cX3_countDamp 16 = .ok (.iload_n 2, 1) := by decide +kernel
theorem dX3_countDamp_17 : decode cX3_countDamp 17 = .ok (.baload, 1) := by decide +kernel
theorem dX3_countDamp_18 : decode cX3_countDamp 18 = .ok (.ifCond .eq 6, 3) := by decide +kernel
theorem dX3_countDamp_21 : decode cX3_countDamp 21 = .ok (.iinc 1 1, 3) := by decide +kernel
theorem dX3_countDamp_24 : decode cX3_countDamp 24 = .ok (.iinc 2 1, 3) := by decide +kernel
theorem dX3_countDamp_27 : decode cX3_countDamp 27 = .ok (.goto (-23), 3) := by decide +kernel
theorem dX3_countDamp_30 : decode cX3_countDamp 30 = .ok (.iload_n 1, 1) := by decide +kernel
theorem dX3_countDamp_31 : decode cX3_countDamp 31 = .ok (.ireturn, 1) := by decide +kernel
theorem dX3_append_0 : decode cX3_append 0 = .ok (.aload_n 0, 1) := by decide +kernel
theorem dX3_append_1 : decode cX3_append 1 = .ok (.getfield 35, 3) := by decide +kernel
theorem dX3_append_4 : decode cX3_append 4 = .ok (.bipush 16, 2) := by decide +kernel
theorem dX3_append_6 : decode cX3_append 6 = .ok (.if_icmp .lt 6, 3) := by decide +kernel
theorem dX3_append_9 : decode cX3_append 9 = .ok (.bipush (-4), 2) := by decide +kernel
theorem dX3_append_11 : decode cX3_append 11 = .ok (.ireturn, 1) := by decide +kernel
theorem dX3_append_12 : decode cX3_append 12 = .ok (.aload_n 0, 1) := by decide +kernel
theorem dX3_append_13 : decode cX3_append 13 = .ok (.getfield 39, 3) := by decide +kernel
theorem dX3_append_16 : decode cX3_append 16 = .ok (.istore 5, 2) := by decide +kernel
theorem dX3_append_18 : decode cX3_append 18 = .ok (.aload_n 0, 1) := by decide +kernel
theorem dX3_append_19 : decode cX3_append 19 = .ok (.getfield 9, 3) := by decide +kernel
theorem dX3_append_22 : decode cX3_append 22 = .ok (.aload_n 0, 1) := by decide +kernel
theorem dX3_append_23 : decode cX3_append 23 = .ok (.getfield 35, 3) := by decide +kernel
theorem dX3_append_26 : decode cX3_append 26 = .ok (.iload 5, 2) := by decide +kernel
theorem dX3_append_28 : decode cX3_append 28 = .ok (.iastore, 1) := by decide +kernel
theorem dX3_append_29 : decode cX3_append 29 = .ok (.aload_n 0, 1) := by decide +kernel
theorem dX3_append_30 : decode cX3_append 30 = .ok (.getfield 15, 3) := by decide +kernel
theorem dX3_append_33 : decode cX3_append 33 = .ok (.aload_n 0, 1) := by decide +kernel
theorem dX3_append_34 : decode cX3_append 34 = .ok (.getfield 35, 3) := by decide +kernel
theorem dX3_append_37 : decode cX3_append 37 = .ok (.iload_n 1, 1) := by decide +kernel
theorem dX3_append_38 : decode cX3_append 38 = .ok (.castore, 1) := by decide +kernel
theorem dX3_append_39 : decode cX3_append 39 = .ok (.aload_n 0, 1) := by decide +kernel
theorem dX3_append_40 : decode cX3_append 40 = .ok (.getfield 19, 3) := by decide +kernel
theorem dX3_append_43 : decode cX3_append 43 = .ok (.aload_n 0, 1) := by decide +kernel
theorem dX3_append_44 : decode cX3_append 44 = .ok (.getfield 35, 3) := by decide +kernel
theorem dX3_append_47 : decode cX3_append 47 = .ok (.iload_n 2, 1) := by decide +kernel
theorem dX3_append_48 : decode cX3_append 48 = .ok (.iastore, 1) := by decide +kernel
theorem dX3_append_49 : decode cX3_append 49 = .ok (.aload_n 0, 1) := by decide +kernel
theorem dX3_append_50 : decode cX3_append 50 = .ok (.getfield 22, 3) := by decide +kernel
theorem dX3_append_53 : decode cX3_append 53 = .ok (.aload_n 0, 1) := by decide +kernel
theorem dX3_append_54 : decode cX3_append 54 = .ok (.getfield 35, 3) := by decide +kernel
theorem dX3_append_57 : decode cX3_append 57 = .ok (.iload_n 3, 1) := by decide +kernel
theorem dX3_append_58 : decode cX3_append 58 = .ok (.iastore, 1) := by decide +kernel
theorem dX3_append_59 : decode cX3_append 59 = .ok (.aload_n 0, 1) := by decide +kernel
theorem dX3_append_60 : decode cX3_append 60 = .ok (.getfield 25, 3) := by decide +kernel
theorem dX3_append_63 : decode cX3_append 63 = .ok (.aload_n 0, 1) := by decide +kernel
theorem dX3_append_64 : decode cX3_append 64 = .ok (.getfield 35, 3) := by decide +kernel
theorem dX3_append_67 : decode cX3_append 67 = .ok (.iload 4, 2) := by decide +kernel
theorem dX3_append_69 : decode cX3_append 69 = .ok (.iastore, 1) := by decide +kernel
theorem dX3_append_70 : decode cX3_append 70 = .ok (.aload_n 0, 1) := by decide +kernel
theorem dX3_append_71 : decode cX3_append 71 = .ok (.getfield 28, 3) := by decide +kernel
theorem dX3_append_74 : decode cX3_append 74 = .ok (.aload_n 0, 1) := by decide +kernel
theorem dX3_append_75 : decode cX3_append 75 = .ok (.getfield 35, 3) := by decide +kernel
theorem dX3_append_78 : decode cX3_append 78 = .ok (.iconst 1, 1) := by decide +kernel
theorem dX3_append_79 : decode cX3_append 79 = .ok (.bastore, 1) := by decide +kernel
theorem dX3_append_80 : decode cX3_append 80 = .ok (.aload_n 0, 1) := by decide +kernel
theorem dX3_append_81 : decode cX3_append 81 = .ok (.getfield 32, 3) := by decide +kernel
theorem dX3_append_84 : decode cX3_append 84 = .ok (.aload_n 0, 1) := by decide +kernel
theorem dX3_append_85 : decode cX3_append 85 = .ok (.getfield 35, 3) := by decide +kernel
theorem dX3_append_88 : decode cX3_append 88 = .ok (.iconst 0, 1) := by decide +kernel
theorem dX3_append_89 : decode cX3_append 89 = .ok (.bastore, 1) := by decide +kernel
theorem dX3_append_90 : decode cX3_append 90 = .ok (.aload_n 0, 1) := by decide +kernel
theorem dX3_append_91 : decode cX3_append 91 = .ok (.dup, 1) := by decide +kernel
theorem dX3_append_92 : decode cX3_append 92 = .ok (.getfield 35, 3) := by decide +kernel
theorem dX3_append_95 : decode cX3_append 95 = .ok (.iconst 1, 1) := by decide +kernel
theorem dX3_append_96 : decode cX3_append 96 = .ok (.iadd, 1) := by decide +kernel
theorem dX3_append_97 : decode cX3_append 97 = .ok (.putfield 35, 3) := by decide +kernel
theorem dX3_append_100 : decode cX3_append 100 = .ok (.aload_n 0, 1) := by decide +kernel
theorem dX3_append_101 : decode cX3_append 101 = .ok (.dup, 1) := by decide +kernel
theorem dX3_append_102 : decode cX3_append 102 = .ok (.getfield 39, 3) := by decide +kernel
theorem dX3_append_105 : decode cX3_append 105 = .ok (.iconst 1, 1) := by decide +kernel
theorem dX3_append_106 : decode cX3_append 106 = .ok (.iadd, 1) := by decide +kernel
theorem dX3_append_107 : decode cX3_append 107 = .ok (.putfield 39, 3) := by decide +kernel
theorem dX3_append_110 : decode cX3_append 110 = .ok (.iload 5, 2) := by decide +kernel
theorem dX3_append_112 : decode cX3_append 112 = .ok (.ireturn, 1) := by decide +kernel
theorem dX3_remove_0 : decode cX3_remove 0 = .ok (.iload_n 1, 1) := by decide +kernel
theorem dX3_remove_1 : decode cX3_remove 1 = .ok (.istore_n 2, 1) := by decide +kernel
theorem dX3_remove_2 : decode cX3_remove 2 = .ok (.iload_n 2, 1) := by decide +kernel
theorem dX3_remove_3 : decode cX3_remove 3 = .ok (.iconst 1, 1) := by decide +kernel
theorem dX3_remove_4 : decode cX3_remove 4 = .ok (.iadd, 1) := by decide +kernel
theorem dX3_remove_5 : decode cX3_remove 5 = .ok (.aload_n 0, 1) := by decide +kernel
theorem dX3_remove_6 : decode cX3_remove 6 = .ok (.getfield 35, 3) := by decide +kernel
theorem dX3_remove_9 : decode cX3_remove 9 = .ok (.if_icmp .ge 18, 3) := by decide +kernel
theorem dX3_remove_12 : decode cX3_remove 12 = .ok (.aload_n 0, 1) := by decide +kernel
theorem dX3_remove_13 : decode cX3_remove 13 = .ok (.aload_n 0, 1) := by decide +kernel
theorem dX3_remove_14 : decode cX3_remove 14 = .ok (.iload_n 2, 1) := by decide +kernel
theorem dX3_remove_15 : decode cX3_remove 15 = .ok (.iconst 1, 1) := by decide +kernel
theorem dX3_remove_16 : decode cX3_remove 16 = .ok (.iadd, 1) := by decide +kernel
theorem dX3_remove_17 : decode cX3_remove 17 = .ok (.iload_n 2, 1) := by decide +kernel
theorem dX3_remove_18 : decode cX3_remove 18 = .ok (.invokevirtual 49, 3) := by decide +kernel
theorem dX3_remove_21 : decode cX3_remove 21 = .ok (.iinc 2 1, 3) := by decide +kernel
theorem dX3_remove_24 : decode cX3_remove 24 = .ok (.goto (-22), 3) := by decide +kernel
theorem dX3_remove_27 : decode cX3_remove 27 = .ok (.aload_n 0, 1) := by decide +kernel
theorem dX3_remove_28 : decode cX3_remove 28 = .ok (.dup, 1) := by decide +kernel
theorem dX3_remove_29 : decode cX3_remove 29 = .ok (.getfield 35, 3) := by decide +kernel
theorem dX3_remove_32 : decode cX3_remove 32 = .ok (.iconst 1, 1) := by decide +kernel
theorem dX3_remove_33 : decode cX3_remove 33 = .ok (.isub, 1) := by decide +kernel
theorem dX3_remove_34 : decode cX3_remove 34 = .ok (.putfield 35, 3) := by decide +kernel
theorem dX3_remove_37 : decode cX3_remove 37 = .ok (.return_, 1) := by decide +kernel
theorem dX3_takeSlot_0 : decode cX3_takeSlot 0 = .ok (.aload_n 0, 1) := by decide +kernel
theorem dX3_takeSlot_1 : decode cX3_takeSlot 1 = .ok (.getfield 9, 3) := by decide +kernel
theorem dX3_takeSlot_4 : decode cX3_takeSlot 4 = .ok (.iload_n 3, 1) := by decide +kernel
theorem dX3_takeSlot_5 : decode cX3_takeSlot 5 = .ok (.aload_n 1, 1) := by decide +kernel
theorem dX3_takeSlot_6 : decode cX3_takeSlot 6 = .ok (.getfield 9, 3) := by decide +kernel
theorem dX3_takeSlot_9 : decode cX3_takeSlot 9 = .ok (.iload_n 2, 1) := by decide +kernel
theorem dX3_takeSlot_10 : decode cX3_takeSlot 10 = .ok (.iaload, 1) := by decide +kernel
theorem dX3_takeSlot_11 : decode cX3_takeSlot 11 = .ok (.iastore, 1) := by decide +kernel
theorem dX3_takeSlot_12 : decode cX3_takeSlot 12 = .ok (.aload_n 0, 1) := by decide +kernel
theorem dX3_takeSlot_13 : decode cX3_takeSlot 13 = .ok (.getfield 15, 3) := by decide +kernel
theorem dX3_takeSlot_16 : decode cX3_takeSlot 16 = .ok (.iload_n 3, 1) := by decide +kernel
theorem dX3_takeSlot_17 : decode cX3_takeSlot 17 = .ok (.aload_n 1, 1) := by decide +kernel
theorem dX3_takeSlot_18 : decode cX3_takeSlot 18 = .ok (.getfield 15, 3) := by decide +kernel
theorem dX3_takeSlot_21 : decode cX3_takeSlot 21 = .ok (.iload_n 2, 1) := by decide +kernel
theorem dX3_takeSlot_22 : decode cX3_takeSlot 22 = .ok (.caload, 1) := by decide +kernel
theorem dX3_takeSlot_23 : decode cX3_takeSlot 23 = .ok (.castore, 1) := by decide +kernel
theorem dX3_takeSlot_24 : decode cX3_takeSlot 24 = .ok (.aload_n 0, 1) := by decide +kernel
theorem dX3_takeSlot_25 : decode cX3_takeSlot 25 = .ok (.getfield 19, 3) := by decide +kernel
theorem dX3_takeSlot_28 : decode cX3_takeSlot 28 = .ok (.iload_n 3, 1) := by decide +kernel
theorem dX3_takeSlot_29 : decode cX3_takeSlot 29 = .ok (.aload_n 1, 1) := by decide +kernel
theorem dX3_takeSlot_30 : decode cX3_takeSlot 30 = .ok (.getfield 19, 3) := by decide +kernel
theorem dX3_takeSlot_33 : decode cX3_takeSlot 33 = .ok (.iload_n 2, 1) := by decide +kernel
theorem dX3_takeSlot_34 : decode cX3_takeSlot 34 = .ok (.iaload, 1) := by decide +kernel
theorem dX3_takeSlot_35 : decode cX3_takeSlot 35 = .ok (.iastore, 1) := by decide +kernel
theorem dX3_takeSlot_36 : decode cX3_takeSlot 36 = .ok (.aload_n 0, 1) := by decide +kernel
theorem dX3_takeSlot_37 : decode cX3_takeSlot 37 = .ok (.getfield 22, 3) := by decide +kernel
theorem dX3_takeSlot_40 : decode cX3_takeSlot 40 = .ok (.iload_n 3, 1) := by decide +kernel
theorem dX3_takeSlot_41 : decode cX3_takeSlot 41 = .ok (.aload_n 1, 1) := by decide +kernel
theorem dX3_takeSlot_42 : decode cX3_takeSlot 42 = .ok (.getfield 22, 3) := by decide +kernel
theorem dX3_takeSlot_45 : decode cX3_takeSlot 45 = .ok (.iload_n 2, 1) := by decide +kernel
theorem dX3_takeSlot_46 : decode cX3_takeSlot 46 = .ok (.iaload, 1) := by decide +kernel
theorem dX3_takeSlot_47 : decode cX3_takeSlot 47 = .ok (.iastore, 1) := by decide +kernel
theorem dX3_takeSlot_48 : decode cX3_takeSlot 48 = .ok (.aload_n 0, 1) := by decide +kernel
theorem dX3_takeSlot_49 : decode cX3_takeSlot 49 = .ok (.getfield 25, 3) := by decide +kernel
theorem dX3_takeSlot_52 : decode cX3_takeSlot 52 = .ok (.iload_n 3, 1) := by decide +kernel
theorem dX3_takeSlot_53 : decode cX3_takeSlot 53 = .ok (.aload_n 1, 1) := by decide +kernel
theorem dX3_takeSlot_54 : decode cX3_takeSlot 54 = .ok (.getfield 25, 3) := by decide +kernel
theorem dX3_takeSlot_57 : decode cX3_takeSlot 57 = .ok (.iload_n 2, 1) := by decide +kernel
theorem dX3_takeSlot_58 : decode cX3_takeSlot 58 = .ok (.iaload, 1) := by decide +kernel
theorem dX3_takeSlot_59 : decode cX3_takeSlot 59 = .ok (.iastore, 1) := by decide +kernel
theorem dX3_takeSlot_60 : decode cX3_takeSlot 60 = .ok (.aload_n 0, 1) := by decide +kernel
theorem dX3_takeSlot_61 : decode cX3_takeSlot 61 = .ok (.getfield 28, 3) := by decide +kernel
theorem dX3_takeSlot_64 : decode cX3_takeSlot 64 = .ok (.iload_n 3, 1) := by decide +kernel
theorem dX3_takeSlot_65 : decode cX3_takeSlot 65 = .ok (.aload_n 1, 1) := by decide +kernel
theorem dX3_takeSlot_66 : decode cX3_takeSlot 66 = .ok (.getfield 28, 3) := by decide +kernel
theorem dX3_takeSlot_69 : decode cX3_takeSlot 69 = .ok (.iload_n 2, 1) := by decide +kernel
theorem dX3_takeSlot_70 : decode cX3_takeSlot 70 = .ok (.baload, 1) := by decide +kernel
theorem dX3_takeSlot_71 : decode cX3_takeSlot 71 = .ok (.bastore, 1) := by decide +kernel
theorem dX3_takeSlot_72 : decode cX3_takeSlot 72 = .ok (.aload_n 0, 1) := by decide +kernel
theorem dX3_takeSlot_73 : decode cX3_takeSlot 73 = .ok (.getfield 32, 3) := by decide +kernel
theorem dX3_takeSlot_76 : decode cX3_takeSlot 76 = .ok (.iload_n 3, 1) := by decide +kernel
theorem dX3_takeSlot_77 : decode cX3_takeSlot 77 = .ok (.aload_n 1, 1) := by decide +kernel
theorem dX3_takeSlot_78 : decode cX3_takeSlot 78 = .ok (.getfield 32, 3) := by decide +kernel
theorem dX3_takeSlot_81 : decode cX3_takeSlot 81 = .ok (.iload_n 2, 1) := by decide +kernel
theorem dX3_takeSlot_82 : decode cX3_takeSlot 82 = .ok (.baload, 1) := by decide +kernel
theorem dX3_takeSlot_83 : decode cX3_takeSlot 83 = .ok (.bastore, 1) := by decide +kernel
theorem dX3_takeSlot_84 : decode cX3_takeSlot 84 = .ok (.return_, 1) := by decide +kernel
theorem dX3_copyFrom_0 : decode cX3_copyFrom 0 = .ok (.iconst 0, 1) := by decide +kernel
theorem dX3_copyFrom_1 : decode cX3_copyFrom 1 = .ok (.istore_n 2, 1) := by decide +kernel
theorem dX3_copyFrom_2 : decode cX3_copyFrom 2 = .ok (.iload_n 2, 1) := by decide +kernel
theorem dX3_copyFrom_3 : decode cX3_copyFrom 3 = .ok (.aload_n 1, 1) := by decide +kernel
theorem dX3_copyFrom_4 : decode cX3_copyFrom 4 = .ok (.getfield 35, 3) := by decide +kernel
theorem dX3_copyFrom_7 : decode cX3_copyFrom 7 = .ok (.if_icmp .ge 16, 3) := by decide +kernel
theorem dX3_copyFrom_10 : decode cX3_copyFrom 10 = .ok (.aload_n 0, 1) := by decide +kernel
theorem dX3_copyFrom_11 : decode cX3_copyFrom 11 = .ok (.aload_n 1, 1) := by decide +kernel
theorem dX3_copyFrom_12 : decode cX3_copyFrom 12 = .ok (.iload_n 2, 1) := by decide +kernel
theorem dX3_copyFrom_13 : decode cX3_copyFrom 13 = .ok (.iload_n 2, 1) := by decide +kernel
theorem dX3_copyFrom_14 : decode cX3_copyFrom 14 = .ok (.invokevirtual 49, 3) := by decide +kernel
theorem dX3_copyFrom_17 : decode cX3_copyFrom 17 = .ok (.iinc 2 1, 3) := by decide +kernel
theorem dX3_copyFrom_20 : decode cX3_copyFrom 20 = .ok (.goto (-18), 3) := by decide +kernel
theorem dX3_copyFrom_23 : decode cX3_copyFrom 23 = .ok (.aload_n 0, 1) := by decide +kernel
theorem dX3_copyFrom_24 : decode cX3_copyFrom 24 = .ok (.aload_n 1, 1) := by decide +kernel
theorem dX3_copyFrom_25 : decode cX3_copyFrom 25 = .ok (.getfield 35, 3) := by decide +kernel
theorem dX3_copyFrom_28 : decode cX3_copyFrom 28 = .ok (.putfield 35, 3) := by decide +kernel
theorem dX3_copyFrom_31 : decode cX3_copyFrom 31 = .ok (.aload_n 0, 1) := by decide +kernel
theorem dX3_copyFrom_32 : decode cX3_copyFrom 32 = .ok (.aload_n 1, 1) := by decide +kernel
theorem dX3_copyFrom_33 : decode cX3_copyFrom 33 = .ok (.getfield 39, 3) := by decide +kernel
theorem dX3_copyFrom_36 : decode cX3_copyFrom 36 = .ok (.putfield 39, 3) := by decide +kernel
theorem dX3_copyFrom_39 : decode cX3_copyFrom 39 = .ok (.return_, 1) := by decide +kernel
theorem dX3_baysOfDamp_0 : decode cX3_baysOfDamp 0 = .ok (.iconst 0, 1) := by decide +kernel
theorem dX3_baysOfDamp_1 : decode cX3_baysOfDamp 1 = .ok (.istore_n 1, 1) := by decide +kernel
theorem dX3_baysOfDamp_2 : decode cX3_baysOfDamp 2 = .ok (.iconst 0, 1) := by decide +kernel
theorem dX3_baysOfDamp_3 : decode cX3_baysOfDamp 3 = .ok (.istore_n 2, 1) := by decide +kernel
theorem dX3_baysOfDamp_4 : decode cX3_baysOfDamp 4 = .ok (.iload_n 2, 1) := by decide +kernel
theorem dX3_baysOfDamp_5 : decode cX3_baysOfDamp 5 = .ok (.aload_n 0, 1) := by decide +kernel
theorem dX3_baysOfDamp_6 : decode cX3_baysOfDamp 6 = .ok (.getfield 35, 3) := by decide +kernel
theorem dX3_baysOfDamp_9 : decode cX3_baysOfDamp 9 = .ok (.if_icmp .ge 29, 3) := by decide +kernel
theorem dX3_baysOfDamp_12 : decode cX3_baysOfDamp 12 = .ok (.aload_n 0, 1) := by decide +kernel
theorem dX3_baysOfDamp_13 : decode cX3_baysOfDamp 13 = .ok (.getfield 32, 3) := by decide +kernel
theorem dX3_baysOfDamp_16 : decode cX3_baysOfDamp 16 = .ok (.iload_n 2, 1) := by decide +kernel
theorem dX3_baysOfDamp_17 : decode cX3_baysOfDamp 17 = .ok (.baload, 1) := by decide +kernel
theorem dX3_baysOfDamp_18 : decode cX3_baysOfDamp 18 = .ok (.ifCond .eq 14, 3) := by decide +kernel
theorem dX3_baysOfDamp_21 : decode cX3_baysOfDamp 21 = .ok (.iload_n 1, 1) := by decide +kernel
theorem dX3_baysOfDamp_22 : decode cX3_baysOfDamp 22 = .ok (.iconst 1, 1) := by decide +kernel
theorem dX3_baysOfDamp_23 : decode cX3_baysOfDamp 23 = .ok (.aload_n 0, 1) := by decide +kernel
theorem dX3_baysOfDamp_24 : decode cX3_baysOfDamp 24 = .ok (.getfield 25, 3) := by decide +kernel
theorem dX3_baysOfDamp_27 : decode cX3_baysOfDamp 27 = .ok (.iload_n 2, 1) := by decide +kernel
theorem dX3_baysOfDamp_28 : decode cX3_baysOfDamp 28 = .ok (.iaload, 1) := by decide +kernel
theorem dX3_baysOfDamp_29 : decode cX3_baysOfDamp 29 = .ok (.ishl, 1) := by decide +kernel
theorem dX3_baysOfDamp_30 : decode cX3_baysOfDamp 30 = .ok (.ior, 1) := by decide +kernel
theorem dX3_baysOfDamp_31 : decode cX3_baysOfDamp 31 = .ok (.istore_n 1, 1) := by decide +kernel
theorem dX3_baysOfDamp_32 : decode cX3_baysOfDamp 32 = .ok (.iinc 2 1, 3) := by decide +kernel
theorem dX3_baysOfDamp_35 : decode cX3_baysOfDamp 35 = .ok (.goto (-31), 3) := by decide +kernel
theorem dX3_baysOfDamp_38 : decode cX3_baysOfDamp 38 = .ok (.iload_n 1, 1) := by decide +kernel
theorem dX3_baysOfDamp_39 : decode cX3_baysOfDamp 39 = .ok (.ireturn, 1) := by decide +kernel
theorem dX3_baysOfOpen_0 : decode cX3_baysOfOpen 0 = .ok (.iconst 0, 1) := by decide +kernel
theorem dX3_baysOfOpen_1 : decode cX3_baysOfOpen 1 = .ok (.istore_n 1, 1) := by decide +kernel
theorem dX3_baysOfOpen_2 : decode cX3_baysOfOpen 2 = .ok (.iconst 0, 1) := by decide +kernel
theorem dX3_baysOfOpen_3 : decode cX3_baysOfOpen 3 = .ok (.istore_n 2, 1) := by decide +kernel
theorem dX3_baysOfOpen_4 : decode cX3_baysOfOpen 4 = .ok (.iload_n 2, 1) := by decide +kernel
theorem dX3_baysOfOpen_5 : decode cX3_baysOfOpen 5 = .ok (.aload_n 0, 1) := by decide +kernel
theorem dX3_baysOfOpen_6 : decode cX3_baysOfOpen 6 = .ok (.getfield 35, 3) := by decide +kernel
theorem dX3_baysOfOpen_9 : decode cX3_baysOfOpen 9 = .ok (.if_icmp .ge 29, 3) := by decide +kernel
theorem dX3_baysOfOpen_12 : decode cX3_baysOfOpen 12 = .ok (.aload_n 0, 1) := by decide +kernel
theorem dX3_baysOfOpen_13 : decode cX3_baysOfOpen 13 = .ok (.getfield 28, 3) := by decide +kernel
theorem dX3_baysOfOpen_16 : decode cX3_baysOfOpen 16 = .ok (.iload_n 2, 1) := by decide +kernel
theorem dX3_baysOfOpen_17 : decode cX3_baysOfOpen 17 = .ok (.baload, 1) := by decide +kernel
theorem dX3_baysOfOpen_18 : decode cX3_baysOfOpen 18 = .ok (.ifCond .ne 14, 3) := by decide +kernel
theorem dX3_baysOfOpen_21 : decode cX3_baysOfOpen 21 = .ok (.iload_n 1, 1) := by decide +kernel
theorem dX3_baysOfOpen_22 : decode cX3_baysOfOpen 22 = .ok (.iconst 1, 1) := by decide +kernel
theorem dX3_baysOfOpen_23 : decode cX3_baysOfOpen 23 = .ok (.aload_n 0, 1) := by decide +kernel
theorem dX3_baysOfOpen_24 : decode cX3_baysOfOpen 24 = .ok (.getfield 25, 3) := by decide +kernel
theorem dX3_baysOfOpen_27 : decode cX3_baysOfOpen 27 = .ok (.iload_n 2, 1) := by decide +kernel
theorem dX3_baysOfOpen_28 : decode cX3_baysOfOpen 28 = .ok (.iaload, 1) := by decide +kernel
theorem dX3_baysOfOpen_29 : decode cX3_baysOfOpen 29 = .ok (.ishl, 1) := by decide +kernel
theorem dX3_baysOfOpen_30 : decode cX3_baysOfOpen 30 = .ok (.ior, 1) := by decide +kernel
theorem dX3_baysOfOpen_31 : decode cX3_baysOfOpen 31 = .ok (.istore_n 1, 1) := by decide +kernel
theorem dX3_baysOfOpen_32 : decode cX3_baysOfOpen 32 = .ok (.iinc 2 1, 3) := by decide +kernel
theorem dX3_baysOfOpen_35 : decode cX3_baysOfOpen 35 = .ok (.goto (-31), 3) := by decide +kernel
theorem dX3_baysOfOpen_38 : decode cX3_baysOfOpen 38 = .ok (.iload_n 1, 1) := by decide +kernel
theorem dX3_baysOfOpen_39 : decode cX3_baysOfOpen 39 = .ok (.ireturn, 1) := by decide +kernel
theorem dX3_spreadFrom_0 : decode cX3_spreadFrom 0 = .ok (.iconst 0, 1) := by decide +kernel
theorem dX3_spreadFrom_1 : decode cX3_spreadFrom 1 = .ok (.istore_n 2, 1) := by decide +kernel
theorem dX3_spreadFrom_2 : decode cX3_spreadFrom 2 = .ok (.iload_n 2, 1) := by decide +kernel
theorem dX3_spreadFrom_3 : decode cX3_spreadFrom 3 = .ok (.aload_n 0, 1) := by decide +kernel
theorem dX3_spreadFrom_4 : decode cX3_spreadFrom 4 = .ok (.getfield 35, 3) := by decide +kernel
theorem dX3_spreadFrom_7 : decode cX3_spreadFrom 7 = .ok (.if_icmp .ge 64, 3) := by decide +kernel
theorem dX3_spreadFrom_10 : decode cX3_spreadFrom 10 = .ok (.aload_n 0, 1) := by decide +kernel
theorem dX3_spreadFrom_11 : decode cX3_spreadFrom 11 = .ok (.getfield 25, 3) := by decide +kernel
theorem dX3_spreadFrom_14 : decode cX3_spreadFrom 14 = .ok (.iload_n 2, 1) := by decide +kernel
theorem dX3_spreadFrom_15 : decode cX3_spreadFrom 15 = .ok (.iaload, 1) := by decide +kernel
theorem dX3_spreadFrom_16 : decode cX3_spreadFrom 16 = .ok (.istore_n 3, 1) := by decide +kernel
theorem dX3_spreadFrom_17 : decode cX3_spreadFrom 17 = .ok (.iload_n 1, 1) := by decide +kernel
theorem dX3_spreadFrom_18 : decode cX3_spreadFrom 18 = .ok (.iload_n 3, 1) := by decide +kernel
theorem dX3_spreadFrom_19 : decode cX3_spreadFrom 19 = .ok (.iconst 1, 1) := by decide +kernel
theorem dX3_spreadFrom_20 : decode cX3_spreadFrom 20 = .ok (.isub, 1) := by decide +kernel
theorem dX3_spreadFrom_21 : decode cX3_spreadFrom 21 = .ok (.invokestatic 53, 3) := by decide +kernel
theorem dX3_spreadFrom_24 : decode cX3_spreadFrom 24 = .ok (.ifCond .ne 13, 3) := by decide +kernel
theorem dX3_spreadFrom_27 : decode cX3_spreadFrom 27 = .ok (.iload_n 1, 1) := by decide +kernel
theorem dX3_spreadFrom_28 : decode cX3_spreadFrom 28 = .ok (.iload_n 3, 1) := by decide +kernel
theorem dX3_spreadFrom_29 : decode cX3_spreadFrom 29 = .ok (.iconst 1, 1) := by decide +kernel
theorem dX3_spreadFrom_30 : decode cX3_spreadFrom 30 = .ok (.iadd, 1) := by decide +kernel
theorem dX3_spreadFrom_31 : decode cX3_spreadFrom 31 = .ok (.invokestatic 53, 3) := by decide +kernel
theorem dX3_spreadFrom_34 : decode cX3_spreadFrom 34 = .ok (.ifCond .eq 7, 3) := by decide +kernel
theorem dX3_spreadFrom_37 : decode cX3_spreadFrom 37 = .ok (.iconst 1, 1) := by decide +kernel
theorem dX3_spreadFrom_38 : decode cX3_spreadFrom 38 = .ok (.goto 4, 3) := by decide +kernel
theorem dX3_spreadFrom_41 : decode cX3_spreadFrom 41 = .ok (.iconst 0, 1) := by decide +kernel
theorem dX3_spreadFrom_42 : decode cX3_spreadFrom 42 = .ok (.istore 4, 2) := by decide +kernel
theorem dX3_spreadFrom_44 : decode cX3_spreadFrom 44 = .ok (.iload 4, 2) := by decide +kernel
theorem dX3_spreadFrom_46 : decode cX3_spreadFrom 46 = .ok (.ifCond .eq 19, 3) := by decide +kernel
theorem dX3_spreadFrom_49 : decode cX3_spreadFrom 49 = .ok (.aload_n 0, 1) := by decide +kernel
theorem dX3_spreadFrom_50 : decode cX3_spreadFrom 50 = .ok (.getfield 28, 3) := by decide +kernel
theorem dX3_spreadFrom_53 : decode cX3_spreadFrom 53 = .ok (.iload_n 2, 1) := by decide +kernel
theorem dX3_spreadFrom_54 : decode cX3_spreadFrom 54 = .ok (.baload, 1) := by decide +kernel
theorem dX3_spreadFrom_55 : decode cX3_spreadFrom 55 = .ok (.ifCond .ne 10, 3) := by decide +kernel
theorem dX3_spreadFrom_58 : decode cX3_spreadFrom 58 = .ok (.aload_n 0, 1) := by decide +kernel
theorem dX3_spreadFrom_59 : decode cX3_spreadFrom 59 = .ok (.getfield 32, 3) := by decide +kernel
theorem dX3_spreadFrom_62 : decode cX3_spreadFrom 62 = .ok (.iload_n 2, 1) := by decide +kernel
theorem dX3_spreadFrom_63 : decode cX3_spreadFrom 63 = .ok (.iconst 1, 1) := by decide +kernel
theorem dX3_spreadFrom_64 : decode cX3_spreadFrom 64 = .ok (.bastore, 1) := by decide +kernel
theorem dX3_spreadFrom_65 : decode cX3_spreadFrom 65 = .ok (.iinc 2 1, 3) := by decide +kernel
theorem dX3_spreadFrom_68 : decode cX3_spreadFrom 68 = .ok (.goto (-66), 3) := by decide +kernel
theorem dX3_spreadFrom_71 : decode cX3_spreadFrom 71 = .ok (.return_, 1) := by decide +kernel
theorem dX3_reachByQueue_0 : decode cX3_reachByQueue 0 = .ok (.aload_n 0, 1) := by decide +kernel
theorem dX3_reachByQueue_1 : decode cX3_reachByQueue 1 = .ok (.invokevirtual 57, 3) := by decide +kernel
theorem dX3_reachByQueue_4 : decode cX3_reachByQueue 4 = .ok (.istore_n 2, 1) := by decide +kernel
theorem dX3_reachByQueue_5 : decode cX3_reachByQueue 5 = .ok (.aload_n 0, 1) := by decide +kernel
theorem dX3_reachByQueue_6 : decode cX3_reachByQueue 6 = .ok (.invokevirtual 61, 3) := by decide +kernel
theorem dX3_reachByQueue_9 : decode cX3_reachByQueue 9 = .ok (.istore_n 3, 1) := by decide +kernel
theorem dX3_reachByQueue_10 : decode cX3_reachByQueue 10 = .ok (.iconst 0, 1) := by decide +kernel
theorem dX3_reachByQueue_11 : decode cX3_reachByQueue 11 = .ok (.istore 4, 2) := by decide +kernel
theorem dX3_reachByQueue_13 : decode cX3_reachByQueue 13 = .ok (.iconst 0, 1) := by decide +kernel
theorem dX3_reachByQueue_14 : decode cX3_reachByQueue 14 = .ok (.istore 5, 2) := by decide +kernel
theorem dX3_reachByQueue_16 : decode cX3_reachByQueue 16 = .ok (.iload 5, 2) := by decide +kernel
theorem dX3_reachByQueue_18 : decode cX3_reachByQueue 18 = .ok (.bipush 24, 2) := by decide +kernel
theorem dX3_reachByQueue_20 : decode cX3_reachByQueue 20 = .ok (.if_icmp .ge 34, 3) := by decide +kernel
theorem dX3_reachByQueue_23 : decode cX3_reachByQueue 23 = .ok (.iload 4, 2) := by decide +kernel
theorem dX3_reachByQueue_25 : decode cX3_reachByQueue 25 = .ok (.aload_n 1, 1) := by decide +kernel
theorem dX3_reachByQueue_26 : decode cX3_reachByQueue 26 = .ok (.arraylength, 1) := by decide +kernel
theorem dX3_reachByQueue_27 : decode cX3_reachByQueue 27 = .ok (.if_icmp .ge 27, 3) := by decide +kernel
theorem dX3_reachByQueue_30 : decode cX3_reachByQueue 30 = .ok (.iload_n 3, 1) := by decide +kernel
theorem dX3_reachByQueue_31 : decode cX3_reachByQueue 31 = .ok (.iload 5, 2) := by decide +kernel
theorem dX3_reachByQueue_33 : decode cX3_reachByQueue 33 = .ok (.invokestatic 53, 3) := by decide +kernel
theorem dX3_reachByQueue_36 : decode cX3_reachByQueue 36 = .ok (.ifCond .eq 12, 3) := by decide +kernel
theorem dX3_reachByQueue_39 : decode cX3_reachByQueue 39 = .ok (.aload_n 1, 1) := by decide +kernel
theorem dX3_reachByQueue_40 : decode cX3_reachByQueue 40 = .ok (.iload 4, 2) := by decide +kernel
theorem dX3_reachByQueue_42 : decode cX3_reachByQueue 42 = .ok (.iload 5, 2) := by decide +kernel
theorem dX3_reachByQueue_44 : decode cX3_reachByQueue 44 = .ok (.iastore, 1) := by decide +kernel
theorem dX3_reachByQueue_45 : decode cX3_reachByQueue 45 = .ok (.iinc 4 1, 3) := by decide +kernel
theorem dX3_reachByQueue_48 : decode cX3_reachByQueue 48 = .ok (.iinc 5 1, 3) := by decide +kernel
theorem dX3_reachByQueue_51 : decode cX3_reachByQueue 51 = .ok (.goto (-35), 3) := by decide +kernel
theorem dX3_reachByQueue_54 : decode cX3_reachByQueue 54 = .ok (.iconst 0, 1) := by decide +kernel
theorem dX3_reachByQueue_55 : decode cX3_reachByQueue 55 = .ok (.istore 5, 2) := by decide +kernel
theorem dX3_reachByQueue_57 : decode cX3_reachByQueue 57 = .ok (.iload 5, 2) := by decide +kernel
theorem dX3_reachByQueue_59 : decode cX3_reachByQueue 59 = .ok (.iload 4, 2) := by decide +kernel
theorem dX3_reachByQueue_61 : decode cX3_reachByQueue 61 = .ok (.if_icmp .ge 82, 3) := by decide +kernel
theorem dX3_reachByQueue_64 : decode cX3_reachByQueue 64 = .ok (.iload 5, 2) := by decide +kernel
theorem dX3_reachByQueue_66 : decode cX3_reachByQueue 66 = .ok (.aload_n 1, 1) := by decide +kernel
theorem dX3_reachByQueue_67 : decode cX3_reachByQueue 67 = .ok (.arraylength, 1) := by decide +kernel
theorem dX3_reachByQueue_68 : decode cX3_reachByQueue 68 = .ok (.if_icmp .ge 75, 3) := by decide +kernel
theorem dX3_reachByQueue_71 : decode cX3_reachByQueue 71 = .ok (.aload_n 1, 1) := by decide +kernel
theorem dX3_reachByQueue_72 : decode cX3_reachByQueue 72 = .ok (.iload 5, 2) := by decide +kernel
theorem dX3_reachByQueue_74 : decode cX3_reachByQueue 74 = .ok (.iaload, 1) := by decide +kernel
theorem dX3_reachByQueue_75 : decode cX3_reachByQueue 75 = .ok (.iconst 1, 1) := by decide +kernel
theorem dX3_reachByQueue_76 : decode cX3_reachByQueue 76 = .ok (.isub, 1) := by decide +kernel
theorem dX3_reachByQueue_77 : decode cX3_reachByQueue 77 = .ok (.istore 6, 2) := by decide +kernel
theorem dX3_reachByQueue_79 : decode cX3_reachByQueue 79 = .ok (.iload 6, 2) := by decide +kernel
theorem dX3_reachByQueue_81 : decode cX3_reachByQueue 81 = .ok (.aload_n 1, 1) := by decide +kernel
theorem dX3_reachByQueue_82 : decode cX3_reachByQueue 82 = .ok (.iload 5, 2) := by decide +kernel
theorem dX3_reachByQueue_84 : decode cX3_reachByQueue 84 = .ok (.iaload, 1) := by decide +kernel
theorem dX3_reachByQueue_85 : decode cX3_reachByQueue 85 = .ok (.iconst 1, 1) := by decide +kernel
theorem dX3_reachByQueue_86 : decode cX3_reachByQueue 86 = .ok (.iadd, 1) := by decide +kernel
theorem dX3_reachByQueue_87 : decode cX3_reachByQueue 87 = .ok (.if_icmp .gt 50, 3) := by decide +kernel
theorem dX3_reachByQueue_90 : decode cX3_reachByQueue 90 = .ok (.iload_n 2, 1) := by decide +kernel
theorem dX3_reachByQueue_91 : decode cX3_reachByQueue 91 = .ok (.iload 6, 2) := by decide +kernel
theorem dX3_reachByQueue_93 : decode cX3_reachByQueue 93 = .ok (.invokestatic 53, 3) := by decide +kernel
theorem dX3_reachByQueue_96 : decode cX3_reachByQueue 96 = .ok (.ifCond .eq 35, 3) := by decide +kernel
theorem dX3_reachByQueue_99 : decode cX3_reachByQueue 99 = .ok (.iload_n 3, 1) := by decide +kernel
theorem dX3_reachByQueue_100 : decode cX3_reachByQueue 100 = .ok (.iload 6, 2) := by decide +kernel
theorem dX3_reachByQueue_102 : decode cX3_reachByQueue 102 = .ok (.invokestatic 53, 3) := by decide +kernel
theorem dX3_reachByQueue_105 : decode cX3_reachByQueue 105 = .ok (.ifCond .ne 26, 3) := by decide +kernel
theorem dX3_reachByQueue_108 : decode cX3_reachByQueue 108 = .ok (.iload 4, 2) := by decide +kernel
theorem dX3_reachByQueue_110 : decode cX3_reachByQueue 110 = .ok (.aload_n 1, 1) := by decide +kernel
theorem dX3_reachByQueue_111 : decode cX3_reachByQueue 111 = .ok (.arraylength, 1) := by decide +kernel
theorem dX3_reachByQueue_112 : decode cX3_reachByQueue 112 = .ok (.if_icmp .ge 19, 3) := by decide +kernel
theorem dX3_reachByQueue_115 : decode cX3_reachByQueue 115 = .ok (.iload_n 3, 1) := by decide +kernel
theorem dX3_reachByQueue_116 : decode cX3_reachByQueue 116 = .ok (.iconst 1, 1) := by decide +kernel
theorem dX3_reachByQueue_117 : decode cX3_reachByQueue 117 = .ok (.iload 6, 2) := by decide +kernel
theorem dX3_reachByQueue_119 : decode cX3_reachByQueue 119 = .ok (.ishl, 1) := by decide +kernel
theorem dX3_reachByQueue_120 : decode cX3_reachByQueue 120 = .ok (.ior, 1) := by decide +kernel
theorem dX3_reachByQueue_121 : decode cX3_reachByQueue 121 = .ok (.istore_n 3, 1) := by decide +kernel
theorem dX3_reachByQueue_122 : decode cX3_reachByQueue 122 = .ok (.aload_n 1, 1) := by decide +kernel
theorem dX3_reachByQueue_123 : decode cX3_reachByQueue 123 = .ok (.iload 4, 2) := by decide +kernel
theorem dX3_reachByQueue_125 : decode cX3_reachByQueue 125 = .ok (.iload 6, 2) := by decide +kernel
theorem dX3_reachByQueue_127 : decode cX3_reachByQueue 127 = .ok (.iastore, 1) := by decide +kernel
theorem dX3_reachByQueue_128 : decode cX3_reachByQueue 128 = .ok (.iinc 4 1, 3) := by decide +kernel
theorem dX3_reachByQueue_131 : decode cX3_reachByQueue 131 = .ok (.iinc 6 2, 3) := by decide +kernel
theorem dX3_reachByQueue_134 : decode cX3_reachByQueue 134 = .ok (.goto (-55), 3) := by decide +kernel
theorem dX3_reachByQueue_137 : decode cX3_reachByQueue 137 = .ok (.iinc 5 1, 3) := by decide +kernel
theorem dX3_reachByQueue_140 : decode cX3_reachByQueue 140 = .ok (.goto (-83), 3) := by decide +kernel
theorem dX3_reachByQueue_143 : decode cX3_reachByQueue 143 = .ok (.iload 4, 2) := by decide +kernel
theorem dX3_reachByQueue_145 : decode cX3_reachByQueue 145 = .ok (.ireturn, 1) := by decide +kernel
theorem dX3_reachByStretches_0 : decode cX3_reachByStretches 0 = .ok (.iconst 0, 1) := by decide +kernel
theorem dX3_reachByStretches_1 : decode cX3_reachByStretches 1 = .ok (.istore_n 1, 1) := by decide +kernel
theorem dX3_reachByStretches_2 : decode cX3_reachByStretches 2 = .ok (.iconst 0, 1) := by decide +kernel
theorem dX3_reachByStretches_3 : decode cX3_reachByStretches 3 = .ok (.istore_n 2, 1) := by decide +kernel
theorem dX3_reachByStretches_4 : decode cX3_reachByStretches 4 = .ok (.iconst 0, 1) := by decide +kernel
theorem dX3_reachByStretches_5 : decode cX3_reachByStretches 5 = .ok (.istore_n 3, 1) := by decide +kernel
theorem dX3_reachByStretches_6 : decode cX3_reachByStretches 6 = .ok (.iconst 0, 1) := by decide +kernel
theorem dX3_reachByStretches_7 : decode cX3_reachByStretches 7 = .ok (.istore 4, 2) := by decide +kernel
theorem dX3_reachByStretches_9 : decode cX3_reachByStretches 9 = .ok (.iload 4, 2) := by decide +kernel
theorem dX3_reachByStretches_11 : decode cX3_reachByStretches 11 = .ok (.bipush 24, 2) := by decide +kernel
theorem dX3_reachByStretches_13 : decode cX3_reachByStretches 13 = .ok (.if_icmp .gt 74, 3) := by decide +kernel
theorem dX3_reachByStretches_16 : decode cX3_reachByStretches 16 = .ok (.aload_n 0, 1) := by decide +kernel
theorem dX3_reachByStretches_17 : decode cX3_reachByStretches 17 = .ok (.iload 4, 2) := by decide +kernel
theorem dX3_reachByStretches_19 : decode cX3_reachByStretches 19 = .ok (.invokevirtual 64, 3) := by decide +kernel
theorem dX3_reachByStretches_22 : decode cX3_reachByStretches 22 = .ok (.istore 5, 2) := by decide +kernel
theorem dX3_reachByStretches_24 : decode cX3_reachByStretches 24 = .ok (.iload 5, 2) := by decide +kernel
theorem dX3_reachByStretches_26 : decode cX3_reachByStretches 26 = .ok (.ifCond .lt 13, 3) := by decide +kernel
theorem dX3_reachByStretches_29 : decode cX3_reachByStretches 29 = .ok (.aload_n 0, 1) := by decide +kernel
theorem dX3_reachByStretches_30 : decode cX3_reachByStretches 30 = .ok (.getfield 28, 3) := by decide +kernel
theorem dX3_reachByStretches_33 : decode cX3_reachByStretches 33 = .ok (.iload 5, 2) := by decide +kernel
theorem dX3_reachByStretches_35 : decode cX3_reachByStretches 35 = .ok (.baload, 1) := by decide +kernel
theorem dX3_reachByStretches_36 : decode cX3_reachByStretches 36 = .ok (.ifCond .eq 22, 3) := by decide +kernel
theorem dX3_reachByStretches_39 : decode cX3_reachByStretches 39 = .ok (.iload_n 1, 1) := by decide +kernel
theorem dX3_reachByStretches_40 : decode cX3_reachByStretches 40 = .ok (.iload_n 3, 1) := by decide +kernel
theorem dX3_reachByStretches_41 : decode cX3_reachByStretches 41 = .ok (.ifCond .eq 7, 3) := by decide +kernel
theorem dX3_reachByStretches_44 : decode cX3_reachByStretches 44 = .ok (.iload_n 2, 1) := by decide +kernel
theorem dX3_reachByStretches_45 : decode cX3_reachByStretches 45 = .ok (.goto 4, 3) := by decide +kernel
theorem dX3_reachByStretches_48 : decode cX3_reachByStretches 48 = .ok (.iconst 0, 1) := by decide +kernel
theorem dX3_reachByStretches_49 : decode cX3_reachByStretches 49 = .ok (.iadd, 1) := by decide +kernel
theorem dX3_reachByStretches_50 : decode cX3_reachByStretches 50 = .ok (.istore_n 1, 1) := by decide +kernel
theorem dX3_reachByStretches_51 : decode cX3_reachByStretches 51 = .ok (.iconst 0, 1) := by decide +kernel
theorem dX3_reachByStretches_52 : decode cX3_reachByStretches 52 = .ok (.istore_n 2, 1) := by decide +kernel
theorem dX3_reachByStretches_53 : decode cX3_reachByStretches 53 = .ok (.iconst 0, 1) := by decide +kernel
theorem dX3_reachByStretches_54 : decode cX3_reachByStretches 54 = .ok (.istore_n 3, 1) := by decide +kernel
theorem dX3_reachByStretches_55 : decode cX3_reachByStretches 55 = .ok (.goto 26, 3) := by decide +kernel
theorem dX3_reachByStretches_58 : decode cX3_reachByStretches 58 = .ok (.iinc 2 1, 3) := by decide +kernel
theorem dX3_reachByStretches_61 : decode cX3_reachByStretches 61 = .ok (.iload_n 3, 1) := by decide +kernel
theorem dX3_reachByStretches_62 : decode cX3_reachByStretches 62 = .ok (.ifCond .ne 13, 3) := by decide +kernel
theorem dX3_reachByStretches_65 : decode cX3_reachByStretches 65 = .ok (.aload_n 0, 1) := by decide +kernel
theorem dX3_reachByStretches_66 : decode cX3_reachByStretches 66 = .ok (.getfield 32, 3) := by decide +kernel
theorem dX3_reachByStretches_69 : decode cX3_reachByStretches 69 = .ok (.iload 5, 2) := by decide +kernel
theorem dX3_reachByStretches_71 : decode cX3_reachByStretches 71 = .ok (.baload, 1) := by decide +kernel
theorem dX3_reachByStretches_72 : decode cX3_reachByStretches 72 = .ok (.ifCond .eq 7, 3) := by decide +kernel
theorem dX3_reachByStretches_75 : decode cX3_reachByStretches 75 = .ok (.iconst 1, 1) := by decide +kernel
theorem dX3_reachByStretches_76 : decode cX3_reachByStretches 76 = .ok (.goto 4, 3) := by decide +kernel
theorem dX3_reachByStretches_79 : decode cX3_reachByStretches 79 = .ok (.iconst 0, 1) := by decide +kernel
theorem dX3_reachByStretches_80 : decode cX3_reachByStretches 80 = .ok (.istore_n 3, 1) := by decide +kernel
theorem dX3_reachByStretches_81 : decode cX3_reachByStretches 81 = .ok (.iinc 4 1, 3) := by decide +kernel
theorem dX3_reachByStretches_84 : decode cX3_reachByStretches 84 = .ok (.goto (-75), 3) := by decide +kernel
theorem dX3_reachByStretches_87 : decode cX3_reachByStretches 87 = .ok (.iload_n 1, 1) := by decide +kernel
theorem dX3_reachByStretches_88 : decode cX3_reachByStretches 88 = .ok (.ireturn, 1) := by decide +kernel
theorem dX4_init_0 : decode cX4_init 0 = .ok (.aload_n 0, 1) := by decide +kernel
theorem dX4_init_1 : decode cX4_init 1 = .ok (.invokespecial 3, 3) := by decide +kernel
theorem dX4_init_4 : decode cX4_init 4 = .ok (.aload_n 0, 1) := by decide +kernel
theorem dX4_init_5 : decode cX4_init 5 = .ok (.new 9, 3) := by decide +kernel
theorem dX4_init_8 : decode cX4_init 8 = .ok (.dup, 1) := by decide +kernel
theorem dX4_init_9 : decode cX4_init 9 = .ok (.invokespecial 11, 3) := by decide +kernel
theorem dX4_init_12 : decode cX4_init 12 = .ok (.putfield 12, 3) := by decide +kernel
theorem dX4_init_15 : decode cX4_init 15 = .ok (.aload_n 0, 1) := by decide +kernel
theorem dX4_init_16 : decode cX4_init 16 = .ok (.new 18, 3) := by decide +kernel
theorem dX4_init_19 : decode cX4_init 19 = .ok (.dup, 1) := by decide +kernel
theorem dX4_init_20 : decode cX4_init 20 = .ok (.invokespecial 20, 3) := by decide +kernel
theorem dX4_init_23 : decode cX4_init 23 = .ok (.putfield 21, 3) := by decide +kernel
theorem dX4_init_26 : decode cX4_init 26 = .ok (.aload_n 0, 1) := by decide +kernel
theorem dX4_init_27 : decode cX4_init 27 = .ok (.new 25, 3) := by decide +kernel
theorem dX4_init_30 : decode cX4_init 30 = .ok (.dup, 1) := by decide +kernel
theorem dX4_init_31 : decode cX4_init 31 = .ok (.invokespecial 27, 3) := by decide +kernel
theorem dX4_init_34 : decode cX4_init 34 = .ok (.putfield 28, 3) := by decide +kernel
theorem dX4_init_37 : decode cX4_init 37 = .ok (.aload_n 0, 1) := by decide +kernel
theorem dX4_init_38 : decode cX4_init 38 = .ok (.iconst 0, 1) := by decide +kernel
theorem dX4_init_39 : decode cX4_init 39 = .ok (.putfield 32, 3) := by decide +kernel
theorem dX4_init_42 : decode cX4_init 42 = .ok (.aload_n 0, 1) := by decide +kernel
theorem dX4_init_43 : decode cX4_init 43 = .ok (.iconst 0, 1) := by decide +kernel
theorem dX4_init_44 : decode cX4_init 44 = .ok (.putfield 36, 3) := by decide +kernel
theorem dX4_init_47 : decode cX4_init 47 = .ok (.aload_n 0, 1) := by decide +kernel
theorem dX4_init_48 : decode cX4_init 48 = .ok (.iconst 0, 1) := by decide +kernel
theorem dX4_init_49 : decode cX4_init 49 = .ok (.putfield 39, 3) := by decide +kernel
theorem dX4_init_52 : decode cX4_init 52 = .ok (.aload_n 0, 1) := by decide +kernel
theorem dX4_init_53 : decode cX4_init 53 = .ok (.iconst 0, 1) := by decide +kernel
theorem dX4_init_54 : decode cX4_init 54 = .ok (.putfield 42, 3) := by decide +kernel
theorem dX4_init_57 : decode cX4_init 57 = .ok (.return_, 1) := by decide +kernel
theorem dX4_copyFrom_0 : decode cX4_copyFrom 0 = .ok (.aload_n 0, 1) := by decide +kernel
theorem dX4_copyFrom_1 : decode cX4_copyFrom 1 = .ok (.getfield 12, 3) := by decide +kernel
theorem dX4_copyFrom_4 : decode cX4_copyFrom 4 = .ok (.aload_n 1, 1) := by decide +kernel
theorem dX4_copyFrom_5 : decode cX4_copyFrom 5 = .ok (.getfield 12, 3) := by decide +kernel
theorem dX4_copyFrom_8 : decode cX4_copyFrom 8 = .ok (.invokevirtual 45, 3) := by decide +kernel
theorem dX4_copyFrom_11 : decode cX4_copyFrom 11 = .ok (.aload_n 0, 1) := by decide +kernel
theorem dX4_copyFrom_12 : decode cX4_copyFrom 12 = .ok (.getfield 21, 3) := by decide +kernel
theorem dX4_copyFrom_15 : decode cX4_copyFrom 15 = .ok (.aload_n 1, 1) := by decide +kernel
theorem dX4_copyFrom_16 : decode cX4_copyFrom 16 = .ok (.getfield 21, 3) := by decide +kernel
theorem dX4_copyFrom_19 : decode cX4_copyFrom 19 = .ok (.invokevirtual 49, 3) := by decide +kernel
theorem dX4_copyFrom_22 : decode cX4_copyFrom 22 = .ok (.aload_n 0, 1) := by decide +kernel
theorem dX4_copyFrom_23 : decode cX4_copyFrom 23 = .ok (.getfield 28, 3) := by decide +kernel
theorem dX4_copyFrom_26 : decode cX4_copyFrom 26 = .ok (.aload_n 1, 1) := by decide +kernel
theorem dX4_copyFrom_27 : decode cX4_copyFrom 27 = .ok (.getfield 28, 3) := by decide +kernel
theorem dX4_copyFrom_30 : decode cX4_copyFrom 30 = .ok (.invokevirtual 52, 3) := by decide +kernel
theorem dX4_copyFrom_33 : decode cX4_copyFrom 33 = .ok (.aload_n 0, 1) := by decide +kernel
theorem dX4_copyFrom_34 : decode cX4_copyFrom 34 = .ok (.aload_n 1, 1) := by decide +kernel
theorem dX4_copyFrom_35 : decode cX4_copyFrom 35 = .ok (.getfield 32, 3) := by decide +kernel
theorem dX4_copyFrom_38 : decode cX4_copyFrom 38 = .ok (.putfield 32, 3) := by decide +kernel
theorem dX4_copyFrom_41 : decode cX4_copyFrom 41 = .ok (.aload_n 0, 1) := by decide +kernel
theorem dX4_copyFrom_42 : decode cX4_copyFrom 42 = .ok (.aload_n 1, 1) := by decide +kernel
theorem dX4_copyFrom_43 : decode cX4_copyFrom 43 = .ok (.getfield 36, 3) := by decide +kernel
theorem dX4_copyFrom_46 : decode cX4_copyFrom 46 = .ok (.putfield 36, 3) := by decide +kernel
theorem dX4_copyFrom_49 : decode cX4_copyFrom 49 = .ok (.aload_n 0, 1) := by decide +kernel
theorem dX4_copyFrom_50 : decode cX4_copyFrom 50 = .ok (.aload_n 1, 1) := by decide +kernel
theorem dX4_copyFrom_51 : decode cX4_copyFrom 51 = .ok (.getfield 39, 3) := by decide +kernel
theorem dX4_copyFrom_54 : decode cX4_copyFrom 54 = .ok (.putfield 39, 3) := by decide +kernel
theorem dX4_copyFrom_57 : decode cX4_copyFrom 57 = .ok (.aload_n 0, 1) := by decide +kernel
theorem dX4_copyFrom_58 : decode cX4_copyFrom 58 = .ok (.aload_n 1, 1) := by decide +kernel
theorem dX4_copyFrom_59 : decode cX4_copyFrom 59 = .ok (.getfield 42, 3) := by decide +kernel
theorem dX4_copyFrom_62 : decode cX4_copyFrom 62 = .ok (.putfield 42, 3) := by decide +kernel
theorem dX4_copyFrom_65 : decode cX4_copyFrom 65 = .ok (.return_, 1) := by decide +kernel
theorem dX4_takeIn_0 : decode cX4_takeIn 0 = .ok (.iload 4, 2) := by decide +kernel
theorem dX4_takeIn_2 : decode cX4_takeIn 2 = .ok (.invokestatic 55, 3) := by decide +kernel
theorem dX4_takeIn_5 : decode cX4_takeIn 5 = .ok (.ifCond .ne 6, 3) := by decide +kernel
theorem dX4_takeIn_8 : decode cX4_takeIn 8 = .ok (.bipush (-2), 2) := by decide +kernel
theorem dX4_takeIn_10 : decode cX4_takeIn 10 = .ok (.ireturn, 1) := by decide +kernel
theorem dX4_takeIn_11 : decode cX4_takeIn 11 = .ok (.iload_n 2, 1) := by decide +kernel
theorem dX4_takeIn_12 : decode cX4_takeIn 12 = .ok (.iconst 1, 1) := by decide +kernel
theorem dX4_takeIn_13 : decode cX4_takeIn 13 = .ok (.if_icmp .lt 13, 3) := by decide +kernel
theorem dX4_takeIn_16 : decode cX4_takeIn 16 = .ok (.iload_n 2, 1) := by decide +kernel
theorem dX4_takeIn_17 : decode cX4_takeIn 17 = .ok (.bipush 99, 2) := by decide +kernel
theorem dX4_takeIn_19 : decode cX4_takeIn 19 = .ok (.if_icmp .gt 7, 3) := by decide +kernel
theorem dX4_takeIn_22 : decode cX4_takeIn 22 = .ok (.iconst 1, 1) := by decide +kernel
theorem dX4_takeIn_23 : decode cX4_takeIn 23 = .ok (.goto 4, 3) := by decide +kernel
theorem dX4_takeIn_26 : decode cX4_takeIn 26 = .ok (.iconst 0, 1) := by decide +kernel
theorem dX4_takeIn_27 : decode cX4_takeIn 27 = .ok (.istore 5, 2) := by decide +kernel
theorem dX4_takeIn_29 : decode cX4_takeIn 29 = .ok (.iload_n 3, 1) := by decide +kernel
theorem dX4_takeIn_30 : decode cX4_takeIn 30 = .ok (.iconst 1, 1) := by decide +kernel
theorem dX4_takeIn_31 : decode cX4_takeIn 31 = .ok (.if_icmp .lt 13, 3) := by decide +kernel
theorem dX4_takeIn_34 : decode cX4_takeIn 34 = .ok (.iload_n 3, 1) := by decide +kernel
theorem dX4_takeIn_35 : decode cX4_takeIn 35 = .ok (.bipush 99, 2) := by decide +kernel
theorem dX4_takeIn_37 : decode cX4_takeIn 37 = .ok (.if_icmp .gt 7, 3) := by decide +kernel
theorem dX4_takeIn_40 : decode cX4_takeIn 40 = .ok (.iconst 1, 1) := by decide +kernel
theorem dX4_takeIn_41 : decode cX4_takeIn 41 = .ok (.goto 4, 3) := by decide +kernel
theorem dX4_takeIn_44 : decode cX4_takeIn 44 = .ok (.iconst 0, 1) := by decide +kernel
theorem dX4_takeIn_45 : decode cX4_takeIn 45 = .ok (.istore 6, 2) := by decide +kernel
theorem dX4_takeIn_47 : decode cX4_takeIn 47 = .ok (.iload_n 1, 1) := by decide +kernel
theorem dX4_takeIn_48 : decode cX4_takeIn 48 = .ok (.invokestatic 59, 3) := by decide +kernel
theorem dX4_takeIn_51 : decode cX4_takeIn 51 = .ok (.ifCond .eq 13, 3) := by decide +kernel
theorem dX4_takeIn_54 : decode cX4_takeIn 54 = .ok (.iload 5, 2) := by decide +kernel
theorem dX4_takeIn_56 : decode cX4_takeIn 56 = .ok (.ifCond .eq 8, 3) := by decide +kernel
theorem dX4_takeIn_59 : decode cX4_takeIn 59 = .ok (.iload 6, 2) := by decide +kernel
theorem dX4_takeIn_61 : decode cX4_takeIn 61 = .ok (.ifCond .ne 6, 3) := by decide +kernel
theorem dX4_takeIn_64 : decode cX4_takeIn 64 = .ok (.bipush (-3), 2) := by decide +kernel
theorem dX4_takeIn_66 : decode cX4_takeIn 66 = .ok (.ireturn, 1) := by decide +kernel
theorem dX4_takeIn_67 : decode cX4_takeIn 67 = .ok (.aload_n 0, 1) := by decide +kernel
theorem dX4_takeIn_68 : decode cX4_takeIn 68 = .ok (.getfield 12, 3) := by decide +kernel
theorem dX4_takeIn_71 : decode cX4_takeIn 71 = .ok (.getfield 63, 3) := by decide +kernel
theorem dX4_takeIn_74 : decode cX4_takeIn 74 = .ok (.bipush 16, 2) := by decide +kernel
theorem dX4_takeIn_76 : decode cX4_takeIn 76 = .ok (.if_icmp .lt 6, 3) := by decide +kernel
theorem dX4_takeIn_79 : decode cX4_takeIn 79 = .ok (.bipush (-4), 2) := by decide +kernel
theorem dX4_takeIn_81 : decode cX4_takeIn 81 = .ok (.ireturn, 1) := by decide +kernel
theorem dX4_takeIn_82 : decode cX4_takeIn 82 = .ok (.aload_n 0, 1) := by decide +kernel
theorem dX4_takeIn_83 : decode cX4_takeIn 83 = .ok (.getfield 12, 3) := by decide +kernel
theorem dX4_takeIn_86 : decode cX4_takeIn 86 = .ok (.iload 4, 2) := by decide +kernel
theorem dX4_takeIn_88 : decode cX4_takeIn 88 = .ok (.invokevirtual 66, 3) := by decide +kernel
theorem dX4_takeIn_91 : decode cX4_takeIn 91 = .ok (.ifCond .lt 6, 3) := by decide +kernel
theorem dX4_takeIn_94 : decode cX4_takeIn 94 = .ok (.bipush (-5), 2) := by decide +kernel
theorem dX4_takeIn_96 : decode cX4_takeIn 96 = .ok (.ireturn, 1) := by decide +kernel
theorem dX4_takeIn_97 : decode cX4_takeIn 97 = .ok (.aload_n 0, 1) := by decide +kernel
theorem dX4_takeIn_98 : decode cX4_takeIn 98 = .ok (.getfield 12, 3) := by decide +kernel
theorem dX4_takeIn_101 : decode cX4_takeIn 101 = .ok (.iload_n 1, 1) := by decide +kernel
theorem dX4_takeIn_102 : decode cX4_takeIn 102 = .ok (.iload_n 2, 1) := by decide +kernel
theorem dX4_takeIn_103 : decode cX4_takeIn 103 = .ok (.iload_n 3, 1) := by decide +kernel
theorem dX4_takeIn_104 : decode cX4_takeIn 104 = .ok (.iload 4, 2) := by decide +kernel
theorem dX4_takeIn_106 : decode cX4_takeIn 106 = .ok (.invokevirtual 70, 3) := by decide +kernel
theorem dX4_takeIn_109 : decode cX4_takeIn 109 = .ok (.ireturn, 1) := by decide +kernel
theorem dX4_sealLot_0 : decode cX4_sealLot 0 = .ok (.aload_n 0, 1) := by decide +kernel
theorem dX4_sealLot_1 : decode cX4_sealLot 1 = .ok (.getfield 12, 3) := by decide +kernel
theorem dX4_sealLot_4 : decode cX4_sealLot 4 = .ok (.iload_n 1, 1) := by decide +kernel
theorem dX4_sealLot_5 : decode cX4_sealLot 5 = .ok (.invokevirtual 74, 3) := by decide +kernel
theorem dX4_sealLot_8 : decode cX4_sealLot 8 = .ok (.istore_n 2, 1) := by decide +kernel
theorem dX4_sealLot_9 : decode cX4_sealLot 9 = .ok (.iload_n 2, 1) := by decide +kernel
theorem dX4_sealLot_10 : decode cX4_sealLot 10 = .ok (.ifCond .ge 5, 3) := by decide +kernel
theorem dX4_sealLot_13 : decode cX4_sealLot 13 = .ok (.iconst (-1), 1) := by decide +kernel
theorem dX4_sealLot_14 : decode cX4_sealLot 14 = .ok (.ireturn, 1) := by decide +kernel
theorem dX4_sealLot_15 : decode cX4_sealLot 15 = .ok (.aload_n 0, 1) := by decide +kernel
theorem dX4_sealLot_16 : decode cX4_sealLot 16 = .ok (.getfield 12, 3) := by decide +kernel
theorem dX4_sealLot_19 : decode cX4_sealLot 19 = .ok (.getfield 77, 3) := by decide +kernel
theorem dX4_sealLot_22 : decode cX4_sealLot 22 = .ok (.iload_n 2, 1) := by decide +kernel
theorem dX4_sealLot_23 : decode cX4_sealLot 23 = .ok (.baload, 1) := by decide +kernel
theorem dX4_sealLot_24 : decode cX4_sealLot 24 = .ok (.ifCond .eq 6, 3) := by decide +kernel
theorem dX4_sealLot_27 : decode cX4_sealLot 27 = .ok (.bipush (-4), 2) := by decide +kernel
theorem dX4_sealLot_29 : decode cX4_sealLot 29 = .ok (.ireturn, 1) := by decide +kernel
theorem dX4_sealLot_30 : decode cX4_sealLot 30 = .ok (.aload_n 0, 1) := by decide +kernel
theorem dX4_sealLot_31 : decode cX4_sealLot 31 = .ok (.getfield 12, 3) := by decide +kernel
theorem dX4_sealLot_34 : decode cX4_sealLot 34 = .ok (.getfield 81, 3) := by decide +kernel
theorem dX4_sealLot_37 : decode cX4_sealLot 37 = .ok (.iload_n 2, 1) := by decide +kernel
theorem dX4_sealLot_38 : decode cX4_sealLot 38 = .ok (.baload, 1) := by decide +kernel
theorem dX4_sealLot_39 : decode cX4_sealLot 39 = .ok (.ifCond .eq 6, 3) := by decide +kernel
theorem dX4_sealLot_42 : decode cX4_sealLot 42 = .ok (.bipush (-5), 2) := by decide +kernel
theorem dX4_sealLot_44 : decode cX4_sealLot 44 = .ok (.ireturn, 1) := by decide +kernel
theorem dX4_sealLot_45 : decode cX4_sealLot 45 = .ok (.aload_n 0, 1) := by decide +kernel
theorem dX4_sealLot_46 : decode cX4_sealLot 46 = .ok (.getfield 12, 3) := by decide +kernel
theorem dX4_sealLot_49 : decode cX4_sealLot 49 = .ok (.getfield 77, 3) := by decide +kernel
theorem dX4_sealLot_52 : decode cX4_sealLot 52 = .ok (.iload_n 2, 1) := by decide +kernel
theorem dX4_sealLot_53 : decode cX4_sealLot 53 = .ok (.iconst 1, 1) := by decide +kernel
theorem dX4_sealLot_54 : decode cX4_sealLot 54 = .ok (.bastore, 1) := by decide +kernel
theorem dX4_sealLot_55 : decode cX4_sealLot 55 = .ok (.aload_n 0, 1) := by decide +kernel
theorem dX4_sealLot_56 : decode cX4_sealLot 56 = .ok (.getfield 12, 3) := by decide +kernel
theorem dX4_sealLot_59 : decode cX4_sealLot 59 = .ok (.invokevirtual 84, 3) := by decide +kernel
theorem dX4_sealLot_62 : decode cX4_sealLot 62 = .ok (.ireturn, 1) := by decide +kernel
theorem dX4_openLot_0 : decode cX4_openLot 0 = .ok (.aload_n 0, 1) := by decide +kernel
theorem dX4_openLot_1 : decode cX4_openLot 1 = .ok (.getfield 12, 3) := by decide +kernel
theorem dX4_openLot_4 : decode cX4_openLot 4 = .ok (.iload_n 1, 1) := by decide +kernel
theorem dX4_openLot_5 : decode cX4_openLot 5 = .ok (.invokevirtual 74, 3) := by decide +kernel
theorem dX4_openLot_8 : decode cX4_openLot 8 = .ok (.istore_n 2, 1) := by decide +kernel
theorem dX4_openLot_9 : decode cX4_openLot 9 = .ok (.iload_n 2, 1) := by decide +kernel
theorem dX4_openLot_10 : decode cX4_openLot 10 = .ok (.ifCond .ge 5, 3) := by decide +kernel
theorem dX4_openLot_13 : decode cX4_openLot 13 = .ok (.iconst (-1), 1) := by decide +kernel
theorem dX4_openLot_14 : decode cX4_openLot 14 = .ok (.ireturn, 1) := by decide +kernel
theorem dX4_openLot_15 : decode cX4_openLot 15 = .ok (.aload_n 0, 1) := by decide +kernel
theorem dX4_openLot_16 : decode cX4_openLot 16 = .ok (.getfield 12, 3) := by decide +kernel
theorem dX4_openLot_19 : decode cX4_openLot 19 = .ok (.getfield 77, 3) := by decide +kernel
theorem dX4_openLot_22 : decode cX4_openLot 22 = .ok (.iload_n 2, 1) := by decide +kernel
theorem dX4_openLot_23 : decode cX4_openLot 23 = .ok (.baload, 1) := by decide +kernel
theorem dX4_openLot_24 : decode cX4_openLot 24 = .ok (.ifCond .ne 6, 3) := by decide +kernel
theorem dX4_openLot_27 : decode cX4_openLot 27 = .ok (.bipush (-4), 2) := by decide +kernel
theorem dX4_openLot_29 : decode cX4_openLot 29 = .ok (.ireturn, 1) := by decide +kernel
theorem dX4_openLot_30 : decode cX4_openLot 30 = .ok (.aload_n 0, 1) := by decide +kernel
theorem dX4_openLot_31 : decode cX4_openLot 31 = .ok (.getfield 12, 3) := by decide +kernel
theorem dX4_openLot_34 : decode cX4_openLot 34 = .ok (.getfield 77, 3) := by decide +kernel
theorem dX4_openLot_37 : decode cX4_openLot 37 = .ok (.iload_n 2, 1) := by decide +kernel
theorem dX4_openLot_38 : decode cX4_openLot 38 = .ok (.iconst 0, 1) := by decide +kernel
theorem dX4_openLot_39 : decode cX4_openLot 39 = .ok (.bastore, 1) := by decide +kernel
theorem dX4_openLot_40 : decode cX4_openLot 40 = .ok (.aload_n 0, 1) := by decide +kernel
theorem dX4_openLot_41 : decode cX4_openLot 41 = .ok (.getfield 12, 3) := by decide +kernel
theorem dX4_openLot_44 : decode cX4_openLot 44 = .ok (.invokevirtual 84, 3) := by decide +kernel
theorem dX4_openLot_47 : decode cX4_openLot 47 = .ok (.ireturn, 1) := by decide +kernel
theorem dX4_wetLot_0 : decode cX4_wetLot 0 = .ok (.aload_n 0, 1) := by decide +kernel
theorem dX4_wetLot_1 : decode cX4_wetLot 1 = .ok (.getfield 12, 3) := by decide +kernel
theorem dX4_wetLot_4 : decode cX4_wetLot 4 = .ok (.iload_n 1, 1) := by decide +kernel
theorem dX4_wetLot_5 : decode cX4_wetLot 5 = .ok (.invokevirtual 74, 3) := by decide +kernel
theorem dX4_wetLot_8 : decode cX4_wetLot 8 = .ok (.istore_n 2, 1) := by decide +kernel
theorem dX4_wetLot_9 : decode cX4_wetLot 9 = .ok (.iload_n 2, 1) := by decide +kernel
theorem dX4_wetLot_10 : decode cX4_wetLot 10 = .ok (.ifCond .ge 5, 3) := by decide +kernel
theorem dX4_wetLot_13 : decode cX4_wetLot 13 = .ok (.iconst (-1), 1) := by decide +kernel
theorem dX4_wetLot_14 : decode cX4_wetLot 14 = .ok (.ireturn, 1) := by decide +kernel
theorem dX4_wetLot_15 : decode cX4_wetLot 15 = .ok (.aload_n 0, 1) := by decide +kernel
theorem dX4_wetLot_16 : decode cX4_wetLot 16 = .ok (.getfield 12, 3) := by decide +kernel
theorem dX4_wetLot_19 : decode cX4_wetLot 19 = .ok (.getfield 77, 3) := by decide +kernel
theorem dX4_wetLot_22 : decode cX4_wetLot 22 = .ok (.iload_n 2, 1) := by decide +kernel
theorem dX4_wetLot_23 : decode cX4_wetLot 23 = .ok (.baload, 1) := by decide +kernel
theorem dX4_wetLot_24 : decode cX4_wetLot 24 = .ok (.ifCond .ne 15, 3) := by decide +kernel
theorem dX4_wetLot_27 : decode cX4_wetLot 27 = .ok (.aload_n 0, 1) := by decide +kernel
theorem dX4_wetLot_28 : decode cX4_wetLot 28 = .ok (.getfield 12, 3) := by decide +kernel
theorem dX4_wetLot_31 : decode cX4_wetLot 31 = .ok (.getfield 81, 3) := by decide +kernel
theorem dX4_wetLot_34 : decode cX4_wetLot 34 = .ok (.iload_n 2, 1) := by decide +kernel
theorem dX4_wetLot_35 : decode cX4_wetLot 35 = .ok (.baload, 1) := by decide +kernel
theorem dX4_wetLot_36 : decode cX4_wetLot 36 = .ok (.ifCond .eq 6, 3) := by decide +kernel
theorem dX4_wetLot_39 : decode cX4_wetLot 39 = .ok (.bipush (-4), 2) := by decide +kernel
theorem dX4_wetLot_41 : decode cX4_wetLot 41 = .ok (.ireturn, 1) := by decide +kernel
theorem dX4_wetLot_42 : decode cX4_wetLot 42 = .ok (.aload_n 0, 1) := by decide +kernel
theorem dX4_wetLot_43 : decode cX4_wetLot 43 = .ok (.getfield 12, 3) := by decide +kernel
theorem dX4_wetLot_46 : decode cX4_wetLot 46 = .ok (.getfield 81, 3) := by decide +kernel
theorem dX4_wetLot_49 : decode cX4_wetLot 49 = .ok (.iload_n 2, 1) := by decide +kernel
theorem dX4_wetLot_50 : decode cX4_wetLot 50 = .ok (.iconst 1, 1) := by decide +kernel
theorem dX4_wetLot_51 : decode cX4_wetLot 51 = .ok (.bastore, 1) := by decide +kernel
theorem dX4_wetLot_52 : decode cX4_wetLot 52 = .ok (.aload_n 0, 1) := by decide +kernel
theorem dX4_wetLot_53 : decode cX4_wetLot 53 = .ok (.getfield 12, 3) := by decide +kernel
theorem dX4_wetLot_56 : decode cX4_wetLot 56 = .ok (.invokevirtual 88, 3) := by decide +kernel
theorem dX4_wetLot_59 : decode cX4_wetLot 59 = .ok (.ireturn, 1) := by decide +kernel
theorem dX4_moveLot_0 : decode cX4_moveLot 0 = .ok (.aload_n 0, 1) := by decide +kernel
theorem dX4_moveLot_1 : decode cX4_moveLot 1 = .ok (.getfield 12, 3) := by decide +kernel
theorem dX4_moveLot_4 : decode cX4_moveLot 4 = .ok (.iload_n 1, 1) := by decide +kernel
theorem dX4_moveLot_5 : decode cX4_moveLot 5 = .ok (.invokevirtual 74, 3) := by decide +kernel
theorem dX4_moveLot_8 : decode cX4_moveLot 8 = .ok (.istore_n 3, 1) := by decide +kernel
theorem dX4_moveLot_9 : decode cX4_moveLot 9 = .ok (.iload_n 3, 1) := by decide +kernel
theorem dX4_moveLot_10 : decode cX4_moveLot 10 = .ok (.ifCond .ge 5, 3) := by decide +kernel
theorem dX4_moveLot_13 : decode cX4_moveLot 13 = .ok (.iconst (-1), 1) := by decide +kernel
theorem dX4_moveLot_14 : decode cX4_moveLot 14 = .ok (.ireturn, 1) := by decide +kernel
theorem dX4_moveLot_15 : decode cX4_moveLot 15 = .ok (.iload_n 2, 1) := by decide +kernel
theorem dX4_moveLot_16 : decode cX4_moveLot 16 = .ok (.invokestatic 55, 3) := by decide +kernel
theorem dX4_moveLot_19 : decode cX4_moveLot 19 = .ok (.ifCond .ne 6, 3) := by decide +kernel
theorem dX4_moveLot_22 : decode cX4_moveLot 22 = .ok (.bipush (-2), 2) := by decide +kernel
theorem dX4_moveLot_24 : decode cX4_moveLot 24 = .ok (.ireturn, 1) := by decide +kernel
theorem dX4_moveLot_25 : decode cX4_moveLot 25 = .ok (.aload_n 0, 1) := by decide +kernel
theorem dX4_moveLot_26 : decode cX4_moveLot 26 = .ok (.getfield 12, 3) := by decide +kernel
theorem dX4_moveLot_29 : decode cX4_moveLot 29 = .ok (.iload_n 2, 1) := by decide +kernel
theorem dX4_moveLot_30 : decode cX4_moveLot 30 = .ok (.invokevirtual 66, 3) := by decide +kernel
theorem dX4_moveLot_33 : decode cX4_moveLot 33 = .ok (.ifCond .lt 6, 3) := by decide +kernel
theorem dX4_moveLot_36 : decode cX4_moveLot 36 = .ok (.bipush (-5), 2) := by decide +kernel
theorem dX4_moveLot_38 : decode cX4_moveLot 38 = .ok (.ireturn, 1) := by decide +kernel
theorem dX4_moveLot_39 : decode cX4_moveLot 39 = .ok (.aload_n 0, 1) := by decide +kernel
theorem dX4_moveLot_40 : decode cX4_moveLot 40 = .ok (.getfield 12, 3) := by decide +kernel
theorem dX4_moveLot_43 : decode cX4_moveLot 43 = .ok (.getfield 91, 3) := by decide +kernel
theorem dX4_moveLot_46 : decode cX4_moveLot 46 = .ok (.iload_n 3, 1) := by decide +kernel
theorem dX4_moveLot_47 : decode cX4_moveLot 47 = .ok (.iaload, 1) := by decide +kernel
theorem dX4_moveLot_48 : decode cX4_moveLot 48 = .ok (.istore 4, 2) := by decide +kernel
theorem dX4_moveLot_50 : decode cX4_moveLot 50 = .ok (.aload_n 0, 1) := by decide +kernel
theorem dX4_moveLot_51 : decode cX4_moveLot 51 = .ok (.getfield 12, 3) := by decide +kernel
theorem dX4_moveLot_54 : decode cX4_moveLot 54 = .ok (.getfield 91, 3) := by decide +kernel
theorem dX4_moveLot_57 : decode cX4_moveLot 57 = .ok (.iload_n 3, 1) := by decide +kernel
theorem dX4_moveLot_58 : decode cX4_moveLot 58 = .ok (.iload_n 2, 1) := by decide +kernel
theorem dX4_moveLot_59 : decode cX4_moveLot 59 = .ok (.iastore, 1) := by decide +kernel
theorem dX4_moveLot_60 : decode cX4_moveLot 60 = .ok (.iload 4, 2) := by decide +kernel
theorem dX4_moveLot_62 : decode cX4_moveLot 62 = .ok (.ireturn, 1) := by decide +kernel
theorem dX4_queueLot_0 : decode cX4_queueLot 0 = .ok (.aload_n 0, 1) := by decide +kernel
theorem dX4_queueLot_1 : decode cX4_queueLot 1 = .ok (.getfield 12, 3) := by decide +kernel
theorem dX4_queueLot_4 : decode cX4_queueLot 4 = .ok (.iload_n 1, 1) := by decide +kernel
theorem dX4_queueLot_5 : decode cX4_queueLot 5 = .ok (.invokevirtual 74, 3) := by decide +kernel
theorem dX4_queueLot_8 : decode cX4_queueLot 8 = .ok (.ifCond .ge 5, 3) := by decide +kernel
theorem dX4_queueLot_11 : decode cX4_queueLot 11 = .ok (.iconst (-1), 1) := by decide +kernel
theorem dX4_queueLot_12 : decode cX4_queueLot 12 = .ok (.ireturn, 1) := by decide +kernel
theorem dX4_queueLot_13 : decode cX4_queueLot 13 = .ok (.aload_n 0, 1) := by decide +kernel
theorem dX4_queueLot_14 : decode cX4_queueLot 14 = .ok (.getfield 28, 3) := by decide +kernel
theorem dX4_queueLot_17 : decode cX4_queueLot 17 = .ok (.iload_n 1, 1) := by decide +kernel
theorem dX4_queueLot_18 : decode cX4_queueLot 18 = .ok (.invokevirtual 95, 3) := by decide +kernel
theorem dX4_queueLot_21 : decode cX4_queueLot 21 = .ok (.ireturn, 1) := by decide +kernel
theorem dX4_auditFirst_0 : decode cX4_auditFirst 0 = .ok (.aload_n 0, 1) := by decide +kernel
theorem dX4_auditFirst_1 : decode cX4_auditFirst 1 = .ok (.getfield 28, 3) := by decide +kernel
theorem dX4_auditFirst_4 : decode cX4_auditFirst 4 = .ok (.getfield 97, 3) := by decide +kernel
theorem dX4_auditFirst_7 : decode cX4_auditFirst 7 = .ok (.ifCond .gt 5, 3) := by decide +kernel
theorem dX4_auditFirst_10 : decode cX4_auditFirst 10 = .ok (.iconst (-1), 1) := by decide +kernel
theorem dX4_auditFirst_11 : decode cX4_auditFirst 11 = .ok (.ireturn, 1) := by decide +kernel
theorem dX4_auditFirst_12 : decode cX4_auditFirst 12 = .ok (.aload_n 0, 1) := by decide +kernel
theorem dX4_auditFirst_13 : decode cX4_auditFirst 13 = .ok (.getfield 28, 3) := by decide +kernel
theorem dX4_auditFirst_16 : decode cX4_auditFirst 16 = .ok (.getfield 100, 3) := by decide +kernel
theorem dX4_auditFirst_19 : decode cX4_auditFirst 19 = .ok (.iconst 0, 1) := by decide +kernel
theorem dX4_auditFirst_20 : decode cX4_auditFirst 20 = .ok (.iaload, 1) := by decide +kernel
theorem dX4_auditFirst_21 : decode cX4_auditFirst 21 = .ok (.istore_n 1, 1) := by decide +kernel
theorem dX4_auditFirst_22 : decode cX4_auditFirst 22 = .ok (.aload_n 0, 1) := by decide +kernel
theorem dX4_auditFirst_23 : decode cX4_auditFirst 23 = .ok (.getfield 28, 3) := by decide +kernel
theorem dX4_auditFirst_26 : decode cX4_auditFirst 26 = .ok (.iload_n 1, 1) := by decide +kernel
theorem dX4_auditFirst_27 : decode cX4_auditFirst 27 = .ok (.invokevirtual 103, 3) := by decide +kernel
theorem dX4_auditFirst_30 : decode cX4_auditFirst 30 = .ok (.aload_n 0, 1) := by decide +kernel
theorem dX4_auditFirst_31 : decode cX4_auditFirst 31 = .ok (.getfield 12, 3) := by decide +kernel
theorem dX4_auditFirst_34 : decode cX4_auditFirst 34 = .ok (.iload_n 1, 1) := by decide +kernel
theorem dX4_auditFirst_35 : decode cX4_auditFirst 35 = .ok (.invokevirtual 74, 3) := by decide +kernel
theorem dX4_auditFirst_38 : decode cX4_auditFirst 38 = .ok (.istore_n 2, 1) := by decide +kernel
theorem dX4_auditFirst_39 : decode cX4_auditFirst 39 = .ok (.iload_n 2, 1) := by decide +kernel
theorem dX4_auditFirst_40 : decode cX4_auditFirst 40 = .ok (.ifCond .lt 13, 3) := by decide +kernel
theorem dX4_auditFirst_43 : decode cX4_auditFirst 43 = .ok (.aload_n 0, 1) := by decide +kernel
theorem dX4_auditFirst_44 : decode cX4_auditFirst 44 = .ok (.getfield 12, 3) := by decide +kernel
theorem dX4_auditFirst_47 : decode cX4_auditFirst 47 = .ok (.getfield 77, 3) := by decide +kernel
theorem dX4_auditFirst_50 : decode cX4_auditFirst 50 = .ok (.iload_n 2, 1) := by decide +kernel
theorem dX4_auditFirst_51 : decode cX4_auditFirst 51 = .ok (.iconst 0, 1) := by decide +kernel
theorem dX4_auditFirst_52 : decode cX4_auditFirst 52 = .ok (.bastore, 1) := by decide +kernel
theorem dX4_auditFirst_53 : decode cX4_auditFirst 53 = .ok (.iload_n 1, 1) := by decide +kernel
theorem dX4_auditFirst_54 : decode cX4_auditFirst 54 = .ok (.ireturn, 1) := by decide +kernel
theorem dX4_takeCoins_0 : decode cX4_takeCoins 0 = .ok (.iload_n 1, 1) := by decide +kernel
theorem dX4_takeCoins_1 : decode cX4_takeCoins 1 = .ok (.iconst 1, 1) := by decide +kernel
theorem dX4_takeCoins_2 : decode cX4_takeCoins 2 = .ok (.if_icmp .lt 10, 3) := by decide +kernel
theorem dX4_takeCoins_5 : decode cX4_takeCoins 5 = .ok (.iload_n 1, 1) := by decide +kernel
theorem dX4_takeCoins_6 : decode cX4_takeCoins 6 = .ok (.sipush 999, 3) := by decide +kernel
theorem dX4_takeCoins_9 : decode cX4_takeCoins 9 = .ok (.if_icmp .le 6, 3) := by decide +kernel
theorem dX4_takeCoins_12 : decode cX4_takeCoins 12 = .ok (.bipush (-3), 2) := by decide +kernel
theorem dX4_takeCoins_14 : decode cX4_takeCoins 14 = .ok (.ireturn, 1) := by decide +kernel
theorem dX4_takeCoins_15 : decode cX4_takeCoins 15 = .ok (.aload_n 0, 1) := by decide +kernel
theorem dX4_takeCoins_16 : decode cX4_takeCoins 16 = .ok (.getfield 32, 3) := by decide +kernel
theorem dX4_takeCoins_19 : decode cX4_takeCoins 19 = .ok (.iload_n 1, 1) := by decide +kernel
theorem dX4_takeCoins_20 : decode cX4_takeCoins 20 = .ok (.iadd, 1) := by decide +kernel
theorem dX4_takeCoins_21 : decode cX4_takeCoins 21 = .ok (.sipush 9999, 3) := by decide +kernel
theorem dX4_takeCoins_24 : decode cX4_takeCoins 24 = .ok (.if_icmp .le 6, 3) := by decide +kernel
theorem dX4_takeCoins_27 : decode cX4_takeCoins 27 = .ok (.bipush (-4), 2) := by decide +kernel
theorem dX4_takeCoins_29 : decode cX4_takeCoins 29 = .ok (.ireturn, 1) := by decide +kernel
theorem dX4_takeCoins_30 : decode cX4_takeCoins 30 = .ok (.aload_n 0, 1) := by decide +kernel
theorem dX4_takeCoins_31 : decode cX4_takeCoins 31 = .ok (.dup, 1) := by decide +kernel
theorem dX4_takeCoins_32 : decode cX4_takeCoins 32 = .ok (.getfield 32, 3) := by decide +kernel
theorem dX4_takeCoins_35 : decode cX4_takeCoins 35 = .ok (.iload_n 1, 1) := by decide +kernel
theorem dX4_takeCoins_36 : decode cX4_takeCoins 36 = .ok (.iadd, 1) := by decide +kernel
theorem dX4_takeCoins_37 : decode cX4_takeCoins 37 = .ok (.putfield 32, 3) := by decide +kernel
theorem dX4_takeCoins_40 : decode cX4_takeCoins 40 = .ok (.aload_n 0, 1) := by decide +kernel
theorem dX4_takeCoins_41 : decode cX4_takeCoins 41 = .ok (.getfield 32, 3) := by decide +kernel
theorem dX4_takeCoins_44 : decode cX4_takeCoins 44 = .ok (.ireturn, 1) := by decide +kernel
theorem dX4_releaseLot_0 : decode cX4_releaseLot 0 = .ok (.aload_n 0, 1) := by decide +kernel
theorem dX4_releaseLot_1 : decode cX4_releaseLot 1 = .ok (.getfield 12, 3) := by decide +kernel
theorem dX4_releaseLot_4 : decode cX4_releaseLot 4 = .ok (.iload_n 1, 1) := by decide +kernel
theorem dX4_releaseLot_5 : decode cX4_releaseLot 5 = .ok (.invokevirtual 74, 3) := by decide +kernel
theorem dX4_releaseLot_8 : decode cX4_releaseLot 8 = .ok (.istore_n 2, 1) := by decide +kernel
theorem dX4_releaseLot_9 : decode cX4_releaseLot 9 = .ok (.iload_n 2, 1) := by decide +kernel
theorem dX4_releaseLot_10 : decode cX4_releaseLot 10 = .ok (.ifCond .ge 5, 3) := by decide +kernel
theorem dX4_releaseLot_13 : decode cX4_releaseLot 13 = .ok (.iconst (-1), 1) := by decide +kernel
theorem dX4_releaseLot_14 : decode cX4_releaseLot 14 = .ok (.ireturn, 1) := by decide +kernel
theorem dX4_releaseLot_15 : decode cX4_releaseLot 15 = .ok (.aload_n 0, 1) := by decide +kernel
theorem dX4_releaseLot_16 : decode cX4_releaseLot 16 = .ok (.iload_n 2, 1) := by decide +kernel
theorem dX4_releaseLot_17 : decode cX4_releaseLot 17 = .ok (.invokevirtual 107, 3) := by decide +kernel
theorem dX4_releaseLot_20 : decode cX4_releaseLot 20 = .ok (.istore_n 3, 1) := by decide +kernel
theorem dX4_releaseLot_21 : decode cX4_releaseLot 21 = .ok (.aload_n 0, 1) := by decide +kernel
theorem dX4_releaseLot_22 : decode cX4_releaseLot 22 = .ok (.getfield 32, 3) := by decide +kernel
theorem dX4_releaseLot_25 : decode cX4_releaseLot 25 = .ok (.iload_n 3, 1) := by decide +kernel
theorem dX4_releaseLot_26 : decode cX4_releaseLot 26 = .ok (.if_icmp .ge 6, 3) := by decide +kernel
theorem dX4_releaseLot_29 : decode cX4_releaseLot 29 = .ok (.bipush (-5), 2) := by decide +kernel
theorem dX4_releaseLot_31 : decode cX4_releaseLot 31 = .ok (.ireturn, 1) := by decide +kernel
theorem dX4_releaseLot_32 : decode cX4_releaseLot 32 = .ok (.aload_n 0, 1) := by decide +kernel
theorem dX4_releaseLot_33 : decode cX4_releaseLot 33 = .ok (.dup, 1) := by decide +kernel
theorem dX4_releaseLot_34 : decode cX4_releaseLot 34 = .ok (.getfield 32, 3) := by decide +kernel
theorem dX4_releaseLot_37 : decode cX4_releaseLot 37 = .ok (.iload_n 3, 1) := by decide +kernel
theorem dX4_releaseLot_38 : decode cX4_releaseLot 38 = .ok (.isub, 1) := by decide +kernel
theorem dX4_releaseLot_39 : decode cX4_releaseLot 39 = .ok (.putfield 32, 3) := by decide +kernel
theorem dX4_releaseLot_42 : decode cX4_releaseLot 42 = .ok (.aload_n 0, 1) := by decide +kernel
theorem dX4_releaseLot_43 : decode cX4_releaseLot 43 = .ok (.dup, 1) := by decide +kernel
theorem dX4_releaseLot_44 : decode cX4_releaseLot 44 = .ok (.getfield 36, 3) := by decide +kernel
theorem dX4_releaseLot_47 : decode cX4_releaseLot 47 = .ok (.iload_n 3, 1) := by decide +kernel
theorem dX4_releaseLot_48 : decode cX4_releaseLot 48 = .ok (.iadd, 1) := by decide +kernel
theorem dX4_releaseLot_49 : decode cX4_releaseLot 49 = .ok (.putfield 36, 3) := by decide +kernel
theorem dX4_releaseLot_52 : decode cX4_releaseLot 52 = .ok (.aload_n 0, 1) := by decide +kernel
theorem dX4_releaseLot_53 : decode cX4_releaseLot 53 = .ok (.iload_n 2, 1) := by decide +kernel
theorem dX4_releaseLot_54 : decode cX4_releaseLot 54 = .ok (.invokevirtual 110, 3) := by decide +kernel
theorem dX4_releaseLot_57 : decode cX4_releaseLot 57 = .ok (.iload_n 3, 1) := by decide +kernel
theorem dX4_releaseLot_58 : decode cX4_releaseLot 58 = .ok (.ireturn, 1) := by decide +kernel
theorem dX4_letLeave_0 : decode cX4_letLeave 0 = .ok (.aload_n 0, 1) := by decide +kernel
theorem dX4_letLeave_1 : decode cX4_letLeave 1 = .ok (.getfield 28, 3) := by decide +kernel
theorem dX4_letLeave_4 : decode cX4_letLeave 4 = .ok (.aload_n 0, 1) := by decide +kernel
theorem dX4_letLeave_5 : decode cX4_letLeave 5 = .ok (.getfield 12, 3) := by decide +kernel
theorem dX4_letLeave_8 : decode cX4_letLeave 8 = .ok (.getfield 113, 3) := by decide +kernel
theorem dX4_letLeave_11 : decode cX4_letLeave 11 = .ok (.iload_n 1, 1) := by decide +kernel
theorem dX4_letLeave_12 : decode cX4_letLeave 12 = .ok (.iaload, 1) := by decide +kernel
theorem dX4_letLeave_13 : decode cX4_letLeave 13 = .ok (.invokevirtual 103, 3) := by decide +kernel
theorem dX4_letLeave_16 : decode cX4_letLeave 16 = .ok (.aload_n 0, 1) := by decide +kernel
theorem dX4_letLeave_17 : decode cX4_letLeave 17 = .ok (.getfield 12, 3) := by decide +kernel
theorem dX4_letLeave_20 : decode cX4_letLeave 20 = .ok (.iload_n 1, 1) := by decide +kernel
theorem dX4_letLeave_21 : decode cX4_letLeave 21 = .ok (.invokevirtual 114, 3) := by decide +kernel
theorem dX4_letLeave_24 : decode cX4_letLeave 24 = .ok (.return_, 1) := by decide +kernel
theorem dX4_letPass_0 : decode cX4_letPass 0 = .ok (.iload_n 1, 1) := by decide +kernel
theorem dX4_letPass_1 : decode cX4_letPass 1 = .ok (.iconst 1, 1) := by decide +kernel
theorem dX4_letPass_2 : decode cX4_letPass 2 = .ok (.if_icmp .lt 9, 3) := by decide +kernel
theorem dX4_letPass_5 : decode cX4_letPass 5 = .ok (.iload_n 1, 1) := by decide +kernel
theorem dX4_letPass_6 : decode cX4_letPass 6 = .ok (.bipush 30, 2) := by decide +kernel
theorem dX4_letPass_8 : decode cX4_letPass 8 = .ok (.if_icmp .le 6, 3) := by decide +kernel
theorem dX4_letPass_11 : decode cX4_letPass 11 = .ok (.bipush (-3), 2) := by decide +kernel
theorem dX4_letPass_13 : decode cX4_letPass 13 = .ok (.ireturn, 1) := by decide +kernel
theorem dX4_letPass_14 : decode cX4_letPass 14 = .ok (.aload_n 0, 1) := by decide +kernel
theorem dX4_letPass_15 : decode cX4_letPass 15 = .ok (.getfield 42, 3) := by decide +kernel
theorem dX4_letPass_18 : decode cX4_letPass 18 = .ok (.istore_n 2, 1) := by decide +kernel
theorem dX4_letPass_19 : decode cX4_letPass 19 = .ok (.iconst 0, 1) := by decide +kernel
theorem dX4_letPass_20 : decode cX4_letPass 20 = .ok (.istore_n 3, 1) := by decide +kernel
theorem dX4_letPass_21 : decode cX4_letPass 21 = .ok (.iload_n 3, 1) := by decide +kernel
theorem dX4_letPass_22 : decode cX4_letPass 22 = .ok (.iload_n 1, 1) := by decide +kernel
theorem dX4_letPass_23 : decode cX4_letPass 23 = .ok (.if_icmp .ge 13, 3) := by decide +kernel
theorem dX4_letPass_26 : decode cX4_letPass 26 = .ok (.aload_n 0, 1) := by decide +kernel
theorem dX4_letPass_27 : decode cX4_letPass 27 = .ok (.invokevirtual 115, 3) := by decide +kernel
theorem dX4_letPass_30 : decode cX4_letPass 30 = .ok (.iinc 3 1, 3) := by decide +kernel
theorem dX4_letPass_33 : decode cX4_letPass 33 = .ok (.goto (-12), 3) := by decide +kernel
theorem dX4_letPass_36 : decode cX4_letPass 36 = .ok (.aload_n 0, 1) := by decide +kernel
theorem dX4_letPass_37 : decode cX4_letPass 37 = .ok (.getfield 42, 3) := by decide +kernel
theorem dX4_letPass_40 : decode cX4_letPass 40 = .ok (.iload_n 2, 1) := by decide +kernel
theorem dX4_letPass_41 : decode cX4_letPass 41 = .ok (.isub, 1) := by decide +kernel
theorem dX4_letPass_42 : decode cX4_letPass 42 = .ok (.ireturn, 1) := by decide +kernel
theorem dX4_letOneDayPass_0 : decode cX4_letOneDayPass 0 = .ok (.aload_n 0, 1) := by decide +kernel
theorem dX4_letOneDayPass_1 : decode cX4_letOneDayPass 1 = .ok (.getfield 12, 3) := by decide +kernel
theorem dX4_letOneDayPass_4 : decode cX4_letOneDayPass 4 = .ok (.invokevirtual 118, 3) := by decide +kernel
theorem dX4_letOneDayPass_7 : decode cX4_letOneDayPass 7 = .ok (.istore_n 1, 1) := by decide +kernel
theorem dX4_letOneDayPass_8 : decode cX4_letOneDayPass 8 = .ok (.aload_n 0, 1) := by decide +kernel
theorem dX4_letOneDayPass_9 : decode cX4_letOneDayPass 9 = .ok (.getfield 12, 3) := by decide +kernel
theorem dX4_letOneDayPass_12 : decode cX4_letOneDayPass 12 = .ok (.iload_n 1, 1) := by decide +kernel
theorem dX4_letOneDayPass_13 : decode cX4_letOneDayPass 13 = .ok (.invokevirtual 121, 3) := by decide +kernel
theorem dX4_letOneDayPass_16 : decode cX4_letOneDayPass 16 = .ok (.aload_n 0, 1) := by decide +kernel
theorem dX4_letOneDayPass_17 : decode cX4_letOneDayPass 17 = .ok (.getfield 12, 3) := by decide +kernel
theorem dX4_letOneDayPass_20 : decode cX4_letOneDayPass 20 = .ok (.getfield 63, 3) := by decide +kernel
theorem dX4_letOneDayPass_23 : decode cX4_letOneDayPass 23 = .ok (.iconst 1, 1) := by decide +kernel
theorem dX4_letOneDayPass_24 : decode cX4_letOneDayPass 24 = .ok (.isub, 1) := by decide +kernel
theorem dX4_letOneDayPass_25 : decode cX4_letOneDayPass 25 = .ok (.istore_n 2, 1) := by decide +kernel
theorem dX4_letOneDayPass_26 : decode cX4_letOneDayPass 26 = .ok (.iload_n 2, 1) := by decide +kernel
theorem dX4_letOneDayPass_27 : decode cX4_letOneDayPass 27 = .ok (.ifCond .lt 65, 3) := by decide +kernel
theorem dX4_letOneDayPass_30 : decode cX4_letOneDayPass 30 = .ok (.iload_n 1, 1) := by decide +kernel
theorem dX4_letOneDayPass_31 : decode cX4_letOneDayPass 31 = .ok (.aload_n 0, 1) := by decide +kernel
theorem dX4_letOneDayPass_32 : decode cX4_letOneDayPass 32 = .ok (.getfield 12, 3) := by decide +kernel
theorem dX4_letOneDayPass_35 : decode cX4_letOneDayPass 35 = .ok (.getfield 91, 3) := by decide +kernel
theorem dX4_letOneDayPass_38 : decode cX4_letOneDayPass 38 = .ok (.iload_n 2, 1) := by decide +kernel
theorem dX4_letOneDayPass_39 : decode cX4_letOneDayPass 39 = .ok (.iaload, 1) := by decide +kernel
theorem dX4_letOneDayPass_40 : decode cX4_letOneDayPass 40 = .ok (.invokestatic 124, 3) := by decide +kernel
theorem dX4_letOneDayPass_43 : decode cX4_letOneDayPass 43 = .ok (.ifCond .eq 43, 3) := by decide +kernel
theorem dX4_letOneDayPass_46 : decode cX4_letOneDayPass 46 = .ok (.aload_n 0, 1) := by decide +kernel
theorem dX4_letOneDayPass_47 : decode cX4_letOneDayPass 47 = .ok (.getfield 12, 3) := by decide +kernel
theorem dX4_letOneDayPass_50 : decode cX4_letOneDayPass 50 = .ok (.getfield 128, 3) := by decide +kernel
theorem dX4_letOneDayPass_53 : decode cX4_letOneDayPass 53 = .ok (.iload_n 2, 1) := by decide +kernel
theorem dX4_letOneDayPass_54 : decode cX4_letOneDayPass 54 = .ok (.dup2, 1) := by decide +kernel
theorem dX4_letOneDayPass_55 : decode cX4_letOneDayPass 55 = .ok (.iaload, 1) := by decide +kernel
theorem dX4_letOneDayPass_56 : decode cX4_letOneDayPass 56 = .ok (.iconst 1, 1) := by decide +kernel
theorem dX4_letOneDayPass_57 : decode cX4_letOneDayPass 57 = .ok (.isub, 1) := by decide +kernel
theorem dX4_letOneDayPass_58 : decode cX4_letOneDayPass 58 = .ok (.iastore, 1) := by decide +kernel
theorem dX4_letOneDayPass_59 : decode cX4_letOneDayPass 59 = .ok (.aload_n 0, 1) := by decide +kernel
theorem dX4_letOneDayPass_60 : decode cX4_letOneDayPass 60 = .ok (.getfield 12, 3) := by decide +kernel
theorem dX4_letOneDayPass_63 : decode cX4_letOneDayPass 63 = .ok (.getfield 128, 3) := by decide +kernel
theorem dX4_letOneDayPass_66 : decode cX4_letOneDayPass 66 = .ok (.iload_n 2, 1) := by decide +kernel
theorem dX4_letOneDayPass_67 : decode cX4_letOneDayPass 67 = .ok (.iaload, 1) := by decide +kernel
theorem dX4_letOneDayPass_68 : decode cX4_letOneDayPass 68 = .ok (.ifCond .gt 18, 3) := by decide +kernel
theorem dX4_letOneDayPass_71 : decode cX4_letOneDayPass 71 = .ok (.aload_n 0, 1) := by decide +kernel
theorem dX4_letOneDayPass_72 : decode cX4_letOneDayPass 72 = .ok (.iload_n 2, 1) := by decide +kernel
theorem dX4_letOneDayPass_73 : decode cX4_letOneDayPass 73 = .ok (.invokevirtual 110, 3) := by decide +kernel
theorem dX4_letOneDayPass_76 : decode cX4_letOneDayPass 76 = .ok (.aload_n 0, 1) := by decide +kernel
theorem dX4_letOneDayPass_77 : decode cX4_letOneDayPass 77 = .ok (.dup, 1) := by decide +kernel
theorem dX4_letOneDayPass_78 : decode cX4_letOneDayPass 78 = .ok (.getfield 42, 3) := by decide +kernel
theorem dX4_letOneDayPass_81 : decode cX4_letOneDayPass 81 = .ok (.iconst 1, 1) := by decide +kernel
theorem dX4_letOneDayPass_82 : decode cX4_letOneDayPass 82 = .ok (.iadd, 1) := by decide +kernel
theorem dX4_letOneDayPass_83 : decode cX4_letOneDayPass 83 = .ok (.putfield 42, 3) := by decide +kernel
theorem dX4_letOneDayPass_86 : decode cX4_letOneDayPass 86 = .ok (.iinc 2 (-1), 3) := by decide +kernel
theorem dX4_letOneDayPass_89 : decode cX4_letOneDayPass 89 = .ok (.goto (-63), 3) := by decide +kernel
theorem dX4_letOneDayPass_92 : decode cX4_letOneDayPass 92 = .ok (.aload_n 0, 1) := by decide +kernel
theorem dX4_letOneDayPass_93 : decode cX4_letOneDayPass 93 = .ok (.dup, 1) := by decide +kernel
theorem dX4_letOneDayPass_94 : decode cX4_letOneDayPass 94 = .ok (.getfield 39, 3) := by decide +kernel
theorem dX4_letOneDayPass_97 : decode cX4_letOneDayPass 97 = .ok (.iconst 1, 1) := by decide +kernel
theorem dX4_letOneDayPass_98 : decode cX4_letOneDayPass 98 = .ok (.iadd, 1) := by decide +kernel
theorem dX4_letOneDayPass_99 : decode cX4_letOneDayPass 99 = .ok (.putfield 39, 3) := by decide +kernel
theorem dX4_letOneDayPass_102 : decode cX4_letOneDayPass 102 = .ok (.return_, 1) := by decide +kernel
theorem dX4_dutyOf_0 : decode cX4_dutyOf 0 = .ok (.aload_n 0, 1) := by decide +kernel
theorem dX4_dutyOf_1 : decode cX4_dutyOf 1 = .ok (.getfield 12, 3) := by decide +kernel
theorem dX4_dutyOf_4 : decode cX4_dutyOf 4 = .ok (.getfield 77, 3) := by decide +kernel
theorem dX4_dutyOf_7 : decode cX4_dutyOf 7 = .ok (.iload_n 1, 1) := by decide +kernel
theorem dX4_dutyOf_8 : decode cX4_dutyOf 8 = .ok (.baload, 1) := by decide +kernel
theorem dX4_dutyOf_9 : decode cX4_dutyOf 9 = .ok (.ifCond .eq 7, 3) := by decide +kernel
theorem dX4_dutyOf_12 : decode cX4_dutyOf 12 = .ok (.iconst 0, 1) := by decide +kernel
theorem dX4_dutyOf_13 : decode cX4_dutyOf 13 = .ok (.goto 18, 3) := by decide +kernel
theorem dX4_dutyOf_16 : decode cX4_dutyOf 16 = .ok (.aload_n 0, 1) := by decide +kernel
theorem dX4_dutyOf_17 : decode cX4_dutyOf 17 = .ok (.getfield 21, 3) := by decide +kernel
theorem dX4_dutyOf_20 : decode cX4_dutyOf 20 = .ok (.aload_n 0, 1) := by decide +kernel
theorem dX4_dutyOf_21 : decode cX4_dutyOf 21 = .ok (.getfield 12, 3) := by decide +kernel
theorem dX4_dutyOf_24 : decode cX4_dutyOf 24 = .ok (.iload_n 1, 1) := by decide +kernel
theorem dX4_dutyOf_25 : decode cX4_dutyOf 25 = .ok (.invokevirtual 131, 3) := by decide +kernel
theorem dX4_dutyOf_28 : decode cX4_dutyOf 28 = .ok (.invokevirtual 134, 3) := by decide +kernel
theorem dX4_dutyOf_31 : decode cX4_dutyOf 31 = .ok (.ireturn, 1) := by decide +kernel
theorem dX4_dutyInOrderOfIds_0 : decode cX4_dutyInOrderOfIds 0 = .ok (.iconst 0, 1) := by decide +kernel
theorem dX4_dutyInOrderOfIds_1 : decode cX4_dutyInOrderOfIds 1 = .ok (.istore_n 1, 1) := by decide +kernel
theorem dX4_dutyInOrderOfIds_2 : decode cX4_dutyInOrderOfIds 2 = .ok (.iconst 0, 1) := by decide +kernel
theorem dX4_dutyInOrderOfIds_3 : decode cX4_dutyInOrderOfIds 3 = .ok (.istore_n 2, 1) := by decide +kernel
theorem dX4_dutyInOrderOfIds_4 : decode cX4_dutyInOrderOfIds 4 = .ok (.iload_n 2, 1) := by decide +kernel
theorem dX4_dutyInOrderOfIds_5 : decode cX4_dutyInOrderOfIds 5 = .ok (.aload_n 0, 1) := by decide +kernel
theorem dX4_dutyInOrderOfIds_6 : decode cX4_dutyInOrderOfIds 6 = .ok (.getfield 12, 3) := by decide +kernel
theorem dX4_dutyInOrderOfIds_9 : decode cX4_dutyInOrderOfIds 9 = .ok (.getfield 63, 3) := by decide +kernel
theorem dX4_dutyInOrderOfIds_12 : decode cX4_dutyInOrderOfIds 12 = .ok (.if_icmp .ge 17, 3) := by decide +kernel
theorem dX4_dutyInOrderOfIds_15 : decode cX4_dutyInOrderOfIds 15 = .ok (.iload_n 1, 1) := by decide +kernel
theorem dX4_dutyInOrderOfIds_16 : decode cX4_dutyInOrderOfIds 16 = .ok (.aload_n 0, 1) := by decide +kernel
theorem dX4_dutyInOrderOfIds_17 : decode cX4_dutyInOrderOfIds 17 = .ok (.iload_n 2, 1) := by decide +kernel
theorem dX4_dutyInOrderOfIds_18 : decode cX4_dutyInOrderOfIds 18 = .ok (.invokevirtual 107, 3) := by decide +kernel
theorem dX4_dutyInOrderOfIds_21 : decode cX4_dutyInOrderOfIds 21 = .ok (.iadd, 1) := by decide +kernel
theorem dX4_dutyInOrderOfIds_22 : decode cX4_dutyInOrderOfIds 22 = .ok (.istore_n 1, 1) := by decide +kernel
theorem dX4_dutyInOrderOfIds_23 : decode cX4_dutyInOrderOfIds 23 = .ok (.iinc 2 1, 3) := by decide +kernel
theorem dX4_dutyInOrderOfIds_26 : decode cX4_dutyInOrderOfIds 26 = .ok (.goto (-22), 3) := by decide +kernel
theorem dX4_dutyInOrderOfIds_29 : decode cX4_dutyInOrderOfIds 29 = .ok (.iload_n 1, 1) := by decide +kernel
theorem dX4_dutyInOrderOfIds_30 : decode cX4_dutyInOrderOfIds 30 = .ok (.ireturn, 1) := by decide +kernel
theorem dX4_dutyBayByBay_0 : decode cX4_dutyBayByBay 0 = .ok (.iconst 0, 1) := by decide +kernel
theorem dX4_dutyBayByBay_1 : decode cX4_dutyBayByBay 1 = .ok (.istore_n 1, 1) := by decide +kernel
theorem dX4_dutyBayByBay_2 : decode cX4_dutyBayByBay 2 = .ok (.iconst 0, 1) := by decide +kernel
theorem dX4_dutyBayByBay_3 : decode cX4_dutyBayByBay 3 = .ok (.istore_n 2, 1) := by decide +kernel
theorem dX4_dutyBayByBay_4 : decode cX4_dutyBayByBay 4 = .ok (.iload_n 2, 1) := by decide +kernel
theorem dX4_dutyBayByBay_5 : decode cX4_dutyBayByBay 5 = .ok (.bipush 24, 2) := by decide +kernel
theorem dX4_dutyBayByBay_7 : decode cX4_dutyBayByBay 7 = .ok (.if_icmp .ge 30, 3) := by decide +kernel
theorem dX4_dutyBayByBay_10 : decode cX4_dutyBayByBay 10 = .ok (.aload_n 0, 1) := by decide +kernel
theorem dX4_dutyBayByBay_11 : decode cX4_dutyBayByBay 11 = .ok (.getfield 12, 3) := by decide +kernel
theorem dX4_dutyBayByBay_14 : decode cX4_dutyBayByBay 14 = .ok (.iload_n 2, 1) := by decide +kernel
theorem dX4_dutyBayByBay_15 : decode cX4_dutyBayByBay 15 = .ok (.invokevirtual 66, 3) := by decide +kernel
theorem dX4_dutyBayByBay_18 : decode cX4_dutyBayByBay 18 = .ok (.istore_n 3, 1) := by decide +kernel
theorem dX4_dutyBayByBay_19 : decode cX4_dutyBayByBay 19 = .ok (.iload_n 3, 1) := by decide +kernel
theorem dX4_dutyBayByBay_20 : decode cX4_dutyBayByBay 20 = .ok (.ifCond .lt 11, 3) := by decide +kernel
theorem dX4_dutyBayByBay_23 : decode cX4_dutyBayByBay 23 = .ok (.iload_n 1, 1) := by decide +kernel
theorem dX4_dutyBayByBay_24 : decode cX4_dutyBayByBay 24 = .ok (.aload_n 0, 1) := by decide +kernel
theorem dX4_dutyBayByBay_25 : decode cX4_dutyBayByBay 25 = .ok (.iload_n 3, 1) := by decide +kernel
theorem dX4_dutyBayByBay_26 : decode cX4_dutyBayByBay 26 = .ok (.invokevirtual 107, 3) := by decide +kernel
theorem dX4_dutyBayByBay_29 : decode cX4_dutyBayByBay 29 = .ok (.iadd, 1) := by decide +kernel
theorem dX4_dutyBayByBay_30 : decode cX4_dutyBayByBay 30 = .ok (.istore_n 1, 1) := by decide +kernel
theorem dX4_dutyBayByBay_31 : decode cX4_dutyBayByBay 31 = .ok (.iinc 2 1, 3) := by decide +kernel
theorem dX4_dutyBayByBay_34 : decode cX4_dutyBayByBay 34 = .ok (.goto (-30), 3) := by decide +kernel
theorem dX4_dutyBayByBay_37 : decode cX4_dutyBayByBay 37 = .ok (.iload_n 1, 1) := by decide +kernel
theorem dX4_dutyBayByBay_38 : decode cX4_dutyBayByBay 38 = .ok (.ireturn, 1) := by decide +kernel
theorem dX4_dutiesAgree_0 : decode cX4_dutiesAgree 0 = .ok (.iconst 0, 1) := by decide +kernel
theorem dX4_dutiesAgree_1 : decode cX4_dutiesAgree 1 = .ok (.istore_n 1, 1) := by decide +kernel
theorem dX4_dutiesAgree_2 : decode cX4_dutiesAgree 2 = .ok (.iload_n 1, 1) := by decide +kernel
theorem dX4_dutiesAgree_3 : decode cX4_dutiesAgree 3 = .ok (.aload_n 0, 1) := by decide +kernel
theorem dX4_dutiesAgree_4 : decode cX4_dutiesAgree 4 = .ok (.getfield 12, 3) := by decide +kernel
theorem dX4_dutiesAgree_7 : decode cX4_dutiesAgree 7 = .ok (.getfield 63, 3) := by decide +kernel
theorem dX4_dutiesAgree_10 : decode cX4_dutiesAgree 10 = .ok (.if_icmp .ge 39, 3) := by decide +kernel
theorem dX4_dutiesAgree_13 : decode cX4_dutiesAgree 13 = .ok (.aload_n 0, 1) := by decide +kernel
theorem dX4_dutiesAgree_14 : decode cX4_dutiesAgree 14 = .ok (.getfield 12, 3) := by decide +kernel
theorem dX4_dutiesAgree_17 : decode cX4_dutiesAgree 17 = .ok (.iload_n 1, 1) := by decide +kernel
theorem dX4_dutiesAgree_18 : decode cX4_dutiesAgree 18 = .ok (.invokevirtual 131, 3) := by decide +kernel
theorem dX4_dutiesAgree_21 : decode cX4_dutiesAgree 21 = .ok (.istore_n 2, 1) := by decide +kernel
theorem dX4_dutiesAgree_22 : decode cX4_dutiesAgree 22 = .ok (.aload_n 0, 1) := by decide +kernel
theorem dX4_dutiesAgree_23 : decode cX4_dutiesAgree 23 = .ok (.getfield 21, 3) := by decide +kernel
theorem dX4_dutiesAgree_26 : decode cX4_dutiesAgree 26 = .ok (.iload_n 2, 1) := by decide +kernel
theorem dX4_dutiesAgree_27 : decode cX4_dutiesAgree 27 = .ok (.invokevirtual 134, 3) := by decide +kernel
theorem dX4_dutiesAgree_30 : decode cX4_dutiesAgree 30 = .ok (.aload_n 0, 1) := by decide +kernel
theorem dX4_dutiesAgree_31 : decode cX4_dutiesAgree 31 = .ok (.getfield 21, 3) := by decide +kernel
theorem dX4_dutiesAgree_34 : decode cX4_dutiesAgree 34 = .ok (.iload_n 2, 1) := by decide +kernel
theorem dX4_dutiesAgree_35 : decode cX4_dutiesAgree 35 = .ok (.invokevirtual 137, 3) := by decide +kernel
theorem dX4_dutiesAgree_38 : decode cX4_dutiesAgree 38 = .ok (.if_icmp .eq 5, 3) := by decide +kernel
theorem dX4_dutiesAgree_41 : decode cX4_dutiesAgree 41 = .ok (.iconst 0, 1) := by decide +kernel
theorem dX4_dutiesAgree_42 : decode cX4_dutiesAgree 42 = .ok (.ireturn, 1) := by decide +kernel
theorem dX4_dutiesAgree_43 : decode cX4_dutiesAgree 43 = .ok (.iinc 1 1, 3) := by decide +kernel
theorem dX4_dutiesAgree_46 : decode cX4_dutiesAgree 46 = .ok (.goto (-44), 3) := by decide +kernel
theorem dX4_dutiesAgree_49 : decode cX4_dutiesAgree 49 = .ok (.iconst 1, 1) := by decide +kernel
theorem dX4_dutiesAgree_50 : decode cX4_dutiesAgree 50 = .ok (.ireturn, 1) := by decide +kernel
theorem dX4_countReleases_0 : decode cX4_countReleases 0 = .ok (.aload_n 0, 1) := by decide +kernel
theorem dX4_countReleases_1 : decode cX4_countReleases 1 = .ok (.aload_n 1, 1) := by decide +kernel
theorem dX4_countReleases_2 : decode cX4_countReleases 2 = .ok (.invokevirtual 140, 3) := by decide +kernel
theorem dX4_countReleases_5 : decode cX4_countReleases 5 = .ok (.aload_n 0, 1) := by decide +kernel
theorem dX4_countReleases_6 : decode cX4_countReleases 6 = .ok (.getfield 32, 3) := by decide +kernel
theorem dX4_countReleases_9 : decode cX4_countReleases 9 = .ok (.istore_n 2, 1) := by decide +kernel
theorem dX4_countReleases_10 : decode cX4_countReleases 10 = .ok (.iconst 0, 1) := by decide +kernel
theorem dX4_countReleases_11 : decode cX4_countReleases 11 = .ok (.istore_n 3, 1) := by decide +kernel
theorem dX4_countReleases_12 : decode cX4_countReleases 12 = .ok (.iload_n 3, 1) := by decide +kernel
theorem dX4_countReleases_13 : decode cX4_countReleases 13 = .ok (.aload_n 0, 1) := by decide +kernel
theorem dX4_countReleases_14 : decode cX4_countReleases 14 = .ok (.getfield 12, 3) := by decide +kernel
theorem dX4_countReleases_17 : decode cX4_countReleases 17 = .ok (.getfield 63, 3) := by decide +kernel
theorem dX4_countReleases_20 : decode cX4_countReleases 20 = .ok (.if_icmp .ge 27, 3) := by decide +kernel
theorem dX4_countReleases_23 : decode cX4_countReleases 23 = .ok (.iload_n 3, 1) := by decide +kernel
theorem dX4_countReleases_24 : decode cX4_countReleases 24 = .ok (.aload_n 1, 1) := by decide +kernel
theorem dX4_countReleases_25 : decode cX4_countReleases 25 = .ok (.arraylength, 1) := by decide +kernel
theorem dX4_countReleases_26 : decode cX4_countReleases 26 = .ok (.if_icmp .ge 21, 3) := by decide +kernel
theorem dX4_countReleases_29 : decode cX4_countReleases 29 = .ok (.iload_n 2, 1) := by decide +kernel
theorem dX4_countReleases_30 : decode cX4_countReleases 30 = .ok (.aload_n 1, 1) := by decide +kernel
theorem dX4_countReleases_31 : decode cX4_countReleases 31 = .ok (.iload_n 3, 1) := by decide +kernel
theorem dX4_countReleases_32 : decode cX4_countReleases 32 = .ok (.iaload, 1) := by decide +kernel
theorem dX4_countReleases_33 : decode cX4_countReleases 33 = .ok (.isub, 1) := by decide +kernel
theorem dX4_countReleases_34 : decode cX4_countReleases 34 = .ok (.istore_n 2, 1) := by decide +kernel
theorem dX4_countReleases_35 : decode cX4_countReleases 35 = .ok (.iload_n 2, 1) := by decide +kernel
theorem dX4_countReleases_36 : decode cX4_countReleases 36 = .ok (.ifCond .ge 5, 3) := by decide +kernel
theorem dX4_countReleases_39 : decode cX4_countReleases 39 = .ok (.iload_n 3, 1) := by decide +kernel
theorem dX4_countReleases_40 : decode cX4_countReleases 40 = .ok (.ireturn, 1) := by decide +kernel
theorem dX4_countReleases_41 : decode cX4_countReleases 41 = .ok (.iinc 3 1, 3) := by decide +kernel
theorem dX4_countReleases_44 : decode cX4_countReleases 44 = .ok (.goto (-32), 3) := by decide +kernel
theorem dX4_countReleases_47 : decode cX4_countReleases 47 = .ok (.aload_n 0, 1) := by decide +kernel
theorem dX4_countReleases_48 : decode cX4_countReleases 48 = .ok (.getfield 12, 3) := by decide +kernel
theorem dX4_countReleases_51 : decode cX4_countReleases 51 = .ok (.getfield 63, 3) := by decide +kernel
theorem dX4_countReleases_54 : decode cX4_countReleases 54 = .ok (.ireturn, 1) := by decide +kernel
theorem dX4_sortDutiesInto_0 : decode cX4_sortDutiesInto 0 = .ok (.iconst 0, 1) := by decide +kernel
theorem dX4_sortDutiesInto_1 : decode cX4_sortDutiesInto 1 = .ok (.istore_n 2, 1) := by decide +kernel
theorem dX4_sortDutiesInto_2 : decode cX4_sortDutiesInto 2 = .ok (.iload_n 2, 1) := by decide +kernel
theorem dX4_sortDutiesInto_3 : decode cX4_sortDutiesInto 3 = .ok (.aload_n 0, 1) := by decide +kernel
theorem dX4_sortDutiesInto_4 : decode cX4_sortDutiesInto 4 = .ok (.getfield 12, 3) := by decide +kernel
theorem dX4_sortDutiesInto_7 : decode cX4_sortDutiesInto 7 = .ok (.getfield 63, 3) := by decide +kernel
theorem dX4_sortDutiesInto_10 : decode cX4_sortDutiesInto 10 = .ok (.if_icmp .ge 60, 3) := by decide +kernel
theorem dX4_sortDutiesInto_13 : decode cX4_sortDutiesInto 13 = .ok (.iload_n 2, 1) := by decide +kernel
theorem dX4_sortDutiesInto_14 : decode cX4_sortDutiesInto 14 = .ok (.aload_n 1, 1) := by decide +kernel
theorem dX4_sortDutiesInto_15 : decode cX4_sortDutiesInto 15 = .ok (.arraylength, 1) := by decide +kernel
theorem dX4_sortDutiesInto_16 : decode cX4_sortDutiesInto 16 = .ok (.if_icmp .ge 54, 3) := by decide +kernel
theorem dX4_sortDutiesInto_19 : decode cX4_sortDutiesInto 19 = .ok (.aload_n 0, 1) := by decide +kernel
theorem dX4_sortDutiesInto_20 : decode cX4_sortDutiesInto 20 = .ok (.iload_n 2, 1) := by decide +kernel
theorem dX4_sortDutiesInto_21 : decode cX4_sortDutiesInto 21 = .ok (.invokevirtual 107, 3) := by decide +kernel
theorem dX4_sortDutiesInto_24 : decode cX4_sortDutiesInto 24 = .ok (.istore_n 3, 1) := by decide +kernel
theorem dX4_sortDutiesInto_25 : decode cX4_sortDutiesInto 25 = .ok (.iload_n 2, 1) := by decide +kernel
theorem dX4_sortDutiesInto_26 : decode cX4_sortDutiesInto 26 = .ok (.istore 4, 2) := by decide +kernel
theorem dX4_sortDutiesInto_28 : decode cX4_sortDutiesInto 28 = .ok (.iload 4, 2) := by decide +kernel
theorem dX4_sortDutiesInto_30 : decode cX4_sortDutiesInto 30 = .ok (.ifCond .le 29, 3) := by decide +kernel
theorem dX4_sortDutiesInto_33 : decode cX4_sortDutiesInto 33 = .ok (.aload_n 1, 1) := by decide +kernel
theorem dX4_sortDutiesInto_34 : decode cX4_sortDutiesInto 34 = .ok (.iload 4, 2) := by decide +kernel
theorem dX4_sortDutiesInto_36 : decode cX4_sortDutiesInto 36 = .ok (.iconst 1, 1) := by decide +kernel
theorem dX4_sortDutiesInto_37 : decode cX4_sortDutiesInto 37 = .ok (.isub, 1) := by decide +kernel
theorem dX4_sortDutiesInto_38 : decode cX4_sortDutiesInto 38 = .ok (.iaload, 1) := by decide +kernel
theorem dX4_sortDutiesInto_39 : decode cX4_sortDutiesInto 39 = .ok (.iload_n 3, 1) := by decide +kernel
theorem dX4_sortDutiesInto_40 : decode cX4_sortDutiesInto 40 = .ok (.if_icmp .le 19, 3) := by decide +kernel
theorem dX4_sortDutiesInto_43 : decode cX4_sortDutiesInto 43 = .ok (.aload_n 1, 1) := by decide +kernel
theorem dX4_sortDutiesInto_44 : decode cX4_sortDutiesInto 44 = .ok (.iload 4, 2) := by decide +kernel
theorem dX4_sortDutiesInto_46 : decode cX4_sortDutiesInto 46 = .ok (.aload_n 1, 1) := by decide +kernel
theorem dX4_sortDutiesInto_47 : decode cX4_sortDutiesInto 47 = .ok (.iload 4, 2) := by decide +kernel
theorem dX4_sortDutiesInto_49 : decode cX4_sortDutiesInto 49 = .ok (.iconst 1, 1) := by decide +kernel
theorem dX4_sortDutiesInto_50 : decode cX4_sortDutiesInto 50 = .ok (.isub, 1) := by decide +kernel
theorem dX4_sortDutiesInto_51 : decode cX4_sortDutiesInto 51 = .ok (.iaload, 1) := by decide +kernel
theorem dX4_sortDutiesInto_52 : decode cX4_sortDutiesInto 52 = .ok (.iastore, 1) := by decide +kernel
theorem dX4_sortDutiesInto_53 : decode cX4_sortDutiesInto 53 = .ok (.iinc 4 (-1), 3) := by decide +kernel
theorem dX4_sortDutiesInto_56 : decode cX4_sortDutiesInto 56 = .ok (.goto (-28), 3) := by decide +kernel
theorem dX4_sortDutiesInto_59 : decode cX4_sortDutiesInto 59 = .ok (.aload_n 1, 1) := by decide +kernel
theorem dX4_sortDutiesInto_60 : decode cX4_sortDutiesInto 60 = .ok (.iload 4, 2) := by decide +kernel
theorem dX4_sortDutiesInto_62 : decode cX4_sortDutiesInto 62 = .ok (.iload_n 3, 1) := by decide +kernel
theorem dX4_sortDutiesInto_63 : decode cX4_sortDutiesInto 63 = .ok (.iastore, 1) := by decide +kernel
theorem dX4_sortDutiesInto_64 : decode cX4_sortDutiesInto 64 = .ok (.iinc 2 1, 3) := by decide +kernel
theorem dX4_sortDutiesInto_67 : decode cX4_sortDutiesInto 67 = .ok (.goto (-65), 3) := by decide +kernel
theorem dX4_sortDutiesInto_70 : decode cX4_sortDutiesInto 70 = .ok (.return_, 1) := by decide +kernel
theorem dX4_perform_0 : decode cX4_perform 0 = .ok (.aload_n 1, 1) := by decide +kernel
theorem dX4_perform_1 : decode cX4_perform 1 = .ok (.getfield 144, 3) := by decide +kernel
theorem dX4_perform_4 : decode cX4_perform 4 = .ok (.iconst 0, 1) := by decide +kernel
theorem dX4_perform_5 : decode cX4_perform 5 = .ok (.iaload, 1) := by decide +kernel
theorem dX4_perform_6 : decode cX4_perform 6 = .ok (.istore_n 2, 1) := by decide +kernel
theorem dX4_perform_7 : decode cX4_perform 7 = .ok (.aload_n 1, 1) := by decide +kernel
theorem dX4_perform_8 : decode cX4_perform 8 = .ok (.getfield 144, 3) := by decide +kernel
theorem dX4_perform_11 : decode cX4_perform 11 = .ok (.iconst 1, 1) := by decide +kernel
theorem dX4_perform_12 : decode cX4_perform 12 = .ok (.iaload, 1) := by decide +kernel
theorem dX4_perform_13 : decode cX4_perform 13 = .ok (.istore_n 3, 1) := by decide +kernel
theorem dX4_perform_14 : decode cX4_perform 14 = .ok (.aload_n 1, 1) := by decide +kernel
theorem dX4_perform_15 : decode cX4_perform 15 = .ok (.getfield 144, 3) := by decide +kernel
theorem dX4_perform_18 : decode cX4_perform 18 = .ok (.iconst 2, 1) := by decide +kernel
theorem dX4_perform_19 : decode cX4_perform 19 = .ok (.iaload, 1) := by decide +kernel
theorem dX4_perform_20 : decode cX4_perform 20 = .ok (.istore 4, 2) := by decide +kernel
theorem dX4_perform_22 : decode cX4_perform 22 = .ok (.aload_n 1, 1) := by decide +kernel
theorem dX4_perform_23 : decode cX4_perform 23 = .ok (.getfield 149, 3) := by decide +kernel
theorem dX4_perform_26 : decode cX4_perform 26 = .ok (.tableswitch 125 0 9 #[54, 67, 73, 79, 85, 91, 97, 104, 109, 119], 54) := by decide +kernel
theorem dX4_perform_80 : decode cX4_perform 80 = .ok (.aload_n 0, 1) := by decide +kernel
theorem dX4_perform_81 : decode cX4_perform 81 = .ok (.aload_n 1, 1) := by decide +kernel
theorem dX4_perform_82 : decode cX4_perform 82 = .ok (.getfield 152, 3) := by decide +kernel
theorem dX4_perform_85 : decode cX4_perform 85 = .ok (.iload_n 2, 1) := by decide +kernel
theorem dX4_perform_86 : decode cX4_perform 86 = .ok (.iload_n 3, 1) := by decide +kernel
theorem dX4_perform_87 : decode cX4_perform 87 = .ok (.iload 4, 2) := by decide +kernel
theorem dX4_perform_89 : decode cX4_perform 89 = .ok (.invokevirtual 156, 3) := by decide +kernel
theorem dX4_perform_92 : decode cX4_perform 92 = .ok (.ireturn, 1) := by decide +kernel
theorem dX4_perform_93 : decode cX4_perform 93 = .ok (.aload_n 0, 1) := by decide +kernel
theorem dX4_perform_94 : decode cX4_perform 94 = .ok (.iload_n 2, 1) := by decide +kernel
theorem dX4_perform_95 : decode cX4_perform 95 = .ok (.invokevirtual 159, 3) := by decide +kernel
theorem dX4_perform_98 : decode cX4_perform 98 = .ok (.ireturn, 1) := by decide +kernel
theorem dX4_perform_99 : decode cX4_perform 99 = .ok (.aload_n 0, 1) := by decide +kernel
theorem dX4_perform_100 : decode cX4_perform 100 = .ok (.iload_n 2, 1) := by decide +kernel
theorem dX4_perform_101 : decode cX4_perform 101 = .ok (.invokevirtual 162, 3) := by decide +kernel
theorem dX4_perform_104 : decode cX4_perform 104 = .ok (.ireturn, 1) := by decide +kernel
theorem dX4_perform_105 : decode cX4_perform 105 = .ok (.aload_n 0, 1) := by decide +kernel
theorem dX4_perform_106 : decode cX4_perform 106 = .ok (.iload_n 2, 1) := by decide +kernel
theorem dX4_perform_107 : decode cX4_perform 107 = .ok (.invokevirtual 165, 3) := by decide +kernel
theorem dX4_perform_110 : decode cX4_perform 110 = .ok (.ireturn, 1) := by decide +kernel
theorem dX4_perform_111 : decode cX4_perform 111 = .ok (.aload_n 0, 1) := by decide +kernel
theorem dX4_perform_112 : decode cX4_perform 112 = .ok (.iload_n 2, 1) := by decide +kernel
theorem dX4_perform_113 : decode cX4_perform 113 = .ok (.invokevirtual 168, 3) := by decide +kernel
theorem dX4_perform_116 : decode cX4_perform 116 = .ok (.ireturn, 1) := by decide +kernel
theorem dX4_perform_117 : decode cX4_perform 117 = .ok (.aload_n 0, 1) := by decide +kernel
theorem dX4_perform_118 : decode cX4_perform 118 = .ok (.iload_n 2, 1) := by decide +kernel
theorem dX4_perform_119 : decode cX4_perform 119 = .ok (.invokevirtual 171, 3) := by decide +kernel
theorem dX4_perform_122 : decode cX4_perform 122 = .ok (.ireturn, 1) := by decide +kernel
theorem dX4_perform_123 : decode cX4_perform 123 = .ok (.aload_n 0, 1) := by decide +kernel
theorem dX4_perform_124 : decode cX4_perform 124 = .ok (.iload_n 2, 1) := by decide +kernel
theorem dX4_perform_125 : decode cX4_perform 125 = .ok (.iload_n 3, 1) := by decide +kernel
theorem dX4_perform_126 : decode cX4_perform 126 = .ok (.invokevirtual 174, 3) := by decide +kernel
theorem dX4_perform_129 : decode cX4_perform 129 = .ok (.ireturn, 1) := by decide +kernel
theorem dX4_perform_130 : decode cX4_perform 130 = .ok (.aload_n 0, 1) := by decide +kernel
theorem dX4_perform_131 : decode cX4_perform 131 = .ok (.invokevirtual 178, 3) := by decide +kernel
theorem dX4_perform_134 : decode cX4_perform 134 = .ok (.ireturn, 1) := by decide +kernel
theorem dX4_perform_135 : decode cX4_perform 135 = .ok (.aload_n 0, 1) := by decide +kernel
theorem dX4_perform_136 : decode cX4_perform 136 = .ok (.getfield 21, 3) := by decide +kernel
theorem dX4_perform_139 : decode cX4_perform 139 = .ok (.iload_n 2, 1) := by decide +kernel
theorem dX4_perform_140 : decode cX4_perform 140 = .ok (.iload_n 3, 1) := by decide +kernel
theorem dX4_perform_141 : decode cX4_perform 141 = .ok (.invokevirtual 181, 3) := by decide +kernel
theorem dX4_perform_144 : decode cX4_perform 144 = .ok (.ireturn, 1) := by decide +kernel
theorem dX4_perform_145 : decode cX4_perform 145 = .ok (.aload_n 0, 1) := by decide +kernel
theorem dX4_perform_146 : decode cX4_perform 146 = .ok (.iload_n 2, 1) := by decide +kernel
theorem dX4_perform_147 : decode cX4_perform 147 = .ok (.invokevirtual 184, 3) := by decide +kernel
theorem dX4_perform_150 : decode cX4_perform 150 = .ok (.ireturn, 1) := by decide +kernel
theorem dX4_perform_151 : decode cX4_perform 151 = .ok (.aload_n 0, 1) := by decide +kernel
theorem dX4_perform_152 : decode cX4_perform 152 = .ok (.invokevirtual 115, 3) := by decide +kernel
theorem dX4_perform_155 : decode cX4_perform 155 = .ok (.iconst 0, 1) := by decide +kernel
theorem dX4_perform_156 : decode cX4_perform 156 = .ok (.ireturn, 1) := by decide +kernel
theorem dX5_init_0 : decode cX5_init 0 = .ok (.aload_n 0, 1) := by decide +kernel
theorem dX5_init_1 : decode cX5_init 1 = .ok (.invokespecial 3, 3) := by decide +kernel
theorem dX5_init_4 : decode cX5_init 4 = .ok (.aload_n 0, 1) := by decide +kernel
theorem dX5_init_5 : decode cX5_init 5 = .ok (.bipush 6, 2) := by decide +kernel
theorem dX5_init_7 : decode cX5_init 7 = .ok (.newarray .int, 2) := by decide +kernel
theorem dX5_init_9 : decode cX5_init 9 = .ok (.putfield 9, 3) := by decide +kernel
theorem dX5_init_12 : decode cX5_init 12 = .ok (.aload_n 0, 1) := by decide +kernel
theorem dX5_init_13 : decode cX5_init 13 = .ok (.bipush 6, 2) := by decide +kernel
theorem dX5_init_15 : decode cX5_init 15 = .ok (.newarray .int, 2) := by decide +kernel
theorem dX5_init_17 : decode cX5_init 17 = .ok (.putfield 15, 3) := by decide +kernel
theorem dX5_init_20 : decode cX5_init 20 = .ok (.aload_n 0, 1) := by decide +kernel
theorem dX5_init_21 : decode cX5_init 21 = .ok (.iconst 0, 1) := by decide +kernel
theorem dX5_init_22 : decode cX5_init 22 = .ok (.putfield 18, 3) := by decide +kernel
theorem dX5_init_25 : decode cX5_init 25 = .ok (.return_, 1) := by decide +kernel
theorem dX5_indexOf_0 : decode cX5_indexOf 0 = .ok (.iconst 0, 1) := by decide +kernel
theorem dX5_indexOf_1 : decode cX5_indexOf 1 = .ok (.istore_n 2, 1) := by decide +kernel
theorem dX5_indexOf_2 : decode cX5_indexOf 2 = .ok (.iload_n 2, 1) := by decide +kernel
theorem dX5_indexOf_3 : decode cX5_indexOf 3 = .ok (.aload_n 0, 1) := by decide +kernel
theorem dX5_indexOf_4 : decode cX5_indexOf 4 = .ok (.getfield 18, 3) := by decide +kernel
theorem dX5_indexOf_7 : decode cX5_indexOf 7 = .ok (.if_icmp .ge 21, 3) := by decide +kernel
theorem dX5_indexOf_10 : decode cX5_indexOf 10 = .ok (.aload_n 0, 1) := by decide +kernel
theorem dX5_indexOf_11 : decode cX5_indexOf 11 = .ok (.getfield 9, 3) := by decide +kernel
theorem dX5_indexOf_14 : decode cX5_indexOf 14 = .ok (.iload_n 2, 1) := by decide +kernel
theorem dX5_indexOf_15 : decode cX5_indexOf 15 = .ok (.iaload, 1) := by decide +kernel
theorem dX5_indexOf_16 : decode cX5_indexOf 16 = .ok (.iload_n 1, 1) := by decide +kernel
theorem dX5_indexOf_17 : decode cX5_indexOf 17 = .ok (.if_icmp .ne 5, 3) := by decide +kernel
theorem dX5_indexOf_20 : decode cX5_indexOf 20 = .ok (.iload_n 2, 1) := by decide +kernel
theorem dX5_indexOf_21 : decode cX5_indexOf 21 = .ok (.ireturn, 1) := by decide +kernel
theorem dX5_indexOf_22 : decode cX5_indexOf 22 = .ok (.iinc 2 1, 3) := by decide +kernel
theorem dX5_indexOf_25 : decode cX5_indexOf 25 = .ok (.goto (-23), 3) := by decide +kernel
theorem dX5_indexOf_28 : decode cX5_indexOf 28 = .ok (.iconst (-1), 1) := by decide +kernel
theorem dX5_indexOf_29 : decode cX5_indexOf 29 = .ok (.ireturn, 1) := by decide +kernel
theorem dX5_insert_0 : decode cX5_insert 0 = .ok (.iload_n 1, 1) := by decide +kernel
theorem dX5_insert_1 : decode cX5_insert 1 = .ok (.ifCond .lt 20, 3) := by decide +kernel
theorem dX5_insert_4 : decode cX5_insert 4 = .ok (.iload_n 1, 1) := by decide +kernel
theorem dX5_insert_5 : decode cX5_insert 5 = .ok (.sipush 9999, 3) := by decide +kernel
theorem dX5_insert_8 : decode cX5_insert 8 = .ok (.if_icmp .gt 13, 3) := by decide +kernel
theorem dX5_insert_11 : decode cX5_insert 11 = .ok (.iload_n 2, 1) := by decide +kernel
theorem dX5_insert_12 : decode cX5_insert 12 = .ok (.ifCond .lt 9, 3) := by decide +kernel
theorem dX5_insert_15 : decode cX5_insert 15 = .ok (.iload_n 2, 1) := by decide +kernel
theorem dX5_insert_16 : decode cX5_insert 16 = .ok (.bipush 100, 2) := by decide +kernel
theorem dX5_insert_18 : decode cX5_insert 18 = .ok (.if_icmp .le 6, 3) := by decide +kernel
theorem dX5_insert_21 : decode cX5_insert 21 = .ok (.bipush (-3), 2) := by decide +kernel
theorem dX5_insert_23 : decode cX5_insert 23 = .ok (.ireturn, 1) := by decide +kernel
theorem dX5_insert_24 : decode cX5_insert 24 = .ok (.aload_n 0, 1) := by decide +kernel
theorem dX5_insert_25 : decode cX5_insert 25 = .ok (.iload_n 1, 1) := by decide +kernel
theorem dX5_insert_26 : decode cX5_insert 26 = .ok (.invokevirtual 22, 3) := by decide +kernel
theorem dX5_insert_29 : decode cX5_insert 29 = .ok (.ifCond .lt 6, 3) := by decide +kernel
theorem dX5_insert_32 : decode cX5_insert 32 = .ok (.bipush (-5), 2) := by decide +kernel
theorem dX5_insert_34 : decode cX5_insert 34 = .ok (.ireturn, 1) := by decide +kernel
theorem dX5_insert_35 : decode cX5_insert 35 = .ok (.aload_n 0, 1) := by decide +kernel
theorem dX5_insert_36 : decode cX5_insert 36 = .ok (.getfield 18, 3) := by decide +kernel
theorem dX5_insert_39 : decode cX5_insert 39 = .ok (.bipush 6, 2) := by decide +kernel
theorem dX5_insert_41 : decode cX5_insert 41 = .ok (.if_icmp .lt 6, 3) := by decide +kernel
theorem dX5_insert_44 : decode cX5_insert 44 = .ok (.bipush (-4), 2) := by decide +kernel
theorem dX5_insert_46 : decode cX5_insert 46 = .ok (.ireturn, 1) := by decide +kernel
theorem dX5_insert_47 : decode cX5_insert 47 = .ok (.aload_n 0, 1) := by decide +kernel
theorem dX5_insert_48 : decode cX5_insert 48 = .ok (.getfield 18, 3) := by decide +kernel
theorem dX5_insert_51 : decode cX5_insert 51 = .ok (.istore_n 3, 1) := by decide +kernel
theorem dX5_insert_52 : decode cX5_insert 52 = .ok (.iload_n 3, 1) := by decide +kernel
theorem dX5_insert_53 : decode cX5_insert 53 = .ok (.ifCond .le 49, 3) := by decide +kernel
theorem dX5_insert_56 : decode cX5_insert 56 = .ok (.aload_n 0, 1) := by decide +kernel
theorem dX5_insert_57 : decode cX5_insert 57 = .ok (.getfield 9, 3) := by decide +kernel
theorem dX5_insert_60 : decode cX5_insert 60 = .ok (.iload_n 3, 1) := by decide +kernel
theorem dX5_insert_61 : decode cX5_insert 61 = .ok (.iconst 1, 1) := by decide +kernel
theorem dX5_insert_62 : decode cX5_insert 62 = .ok (.isub, 1) := by decide +kernel
theorem dX5_insert_63 : decode cX5_insert 63 = .ok (.iaload, 1) := by decide +kernel
theorem dX5_insert_64 : decode cX5_insert 64 = .ok (.iload_n 1, 1) := by decide +kernel
theorem dX5_insert_65 : decode cX5_insert 65 = .ok (.if_icmp .le 37, 3) := by decide +kernel
theorem dX5_insert_68 : decode cX5_insert 68 = .ok (.aload_n 0, 1) := by decide +kernel
theorem dX5_insert_69 : decode cX5_insert 69 = .ok (.getfield 9, 3) := by decide +kernel
theorem dX5_insert_72 : decode cX5_insert 72 = .ok (.iload_n 3, 1) := by decide +kernel
theorem dX5_insert_73 : decode cX5_insert 73 = .ok (.aload_n 0, 1) := by decide +kernel
theorem dX5_insert_74 : decode cX5_insert 74 = .ok (.getfield 9, 3) := by decide +kernel
theorem dX5_insert_77 : decode cX5_insert 77 = .ok (.iload_n 3, 1) := by decide +kernel
theorem dX5_insert_78 : decode cX5_insert 78 = .ok (.iconst 1, 1) := by decide +kernel
theorem dX5_insert_79 : decode cX5_insert 79 = .ok (.isub, 1) := by decide +kernel
theorem dX5_insert_80 : decode cX5_insert 80 = .ok (.iaload, 1) := by decide +kernel
theorem dX5_insert_81 : decode cX5_insert 81 = .ok (.iastore, 1) := by decide +kernel
theorem dX5_insert_82 : decode cX5_insert 82 = .ok (.aload_n 0, 1) := by decide +kernel
theorem dX5_insert_83 : decode cX5_insert 83 = .ok (.getfield 15, 3) := by decide +kernel
theorem dX5_insert_86 : decode cX5_insert 86 = .ok (.iload_n 3, 1) := by decide +kernel
theorem dX5_insert_87 : decode cX5_insert 87 = .ok (.aload_n 0, 1) := by decide +kernel
theorem dX5_insert_88 : decode cX5_insert 88 = .ok (.getfield 15, 3) := by decide +kernel
theorem dX5_insert_91 : decode cX5_insert 91 = .ok (.iload_n 3, 1) := by decide +kernel
theorem dX5_insert_92 : decode cX5_insert 92 = .ok (.iconst 1, 1) := by decide +kernel
theorem dX5_insert_93 : decode cX5_insert 93 = .ok (.isub, 1) := by decide +kernel
theorem dX5_insert_94 : decode cX5_insert 94 = .ok (.iaload, 1) := by decide +kernel
theorem dX5_insert_95 : decode cX5_insert 95 = .ok (.iastore, 1) := by decide +kernel
theorem dX5_insert_96 : decode cX5_insert 96 = .ok (.iinc 3 (-1), 3) := by decide +kernel
theorem dX5_insert_99 : decode cX5_insert 99 = .ok (.goto (-47), 3) := by decide +kernel
theorem dX5_insert_102 : decode cX5_insert 102 = .ok (.aload_n 0, 1) := by decide +kernel
theorem dX5_insert_103 : decode cX5_insert 103 = .ok (.getfield 9, 3) := by decide +kernel
theorem dX5_insert_106 : decode cX5_insert 106 = .ok (.iload_n 3, 1) := by decide +kernel
theorem dX5_insert_107 : decode cX5_insert 107 = .ok (.iload_n 1, 1) := by decide +kernel
theorem dX5_insert_108 : decode cX5_insert 108 = .ok (.iastore, 1) := by decide +kernel
theorem dX5_insert_109 : decode cX5_insert 109 = .ok (.aload_n 0, 1) := by decide +kernel
theorem dX5_insert_110 : decode cX5_insert 110 = .ok (.getfield 15, 3) := by decide +kernel
theorem dX5_insert_113 : decode cX5_insert 113 = .ok (.iload_n 3, 1) := by decide +kernel
theorem dX5_insert_114 : decode cX5_insert 114 = .ok (.iload_n 2, 1) := by decide +kernel
theorem dX5_insert_115 : decode cX5_insert 115 = .ok (.iastore, 1) := by decide +kernel
theorem dX5_insert_116 : decode cX5_insert 116 = .ok (.aload_n 0, 1) := by decide +kernel
theorem dX5_insert_117 : decode cX5_insert 117 = .ok (.dup, 1) := by decide +kernel
theorem dX5_insert_118 : decode cX5_insert 118 = .ok (.getfield 18, 3) := by decide +kernel
theorem dX5_insert_121 : decode cX5_insert 121 = .ok (.iconst 1, 1) := by decide +kernel
theorem dX5_insert_122 : decode cX5_insert 122 = .ok (.iadd, 1) := by decide +kernel
theorem dX5_insert_123 : decode cX5_insert 123 = .ok (.putfield 18, 3) := by decide +kernel
theorem dX5_insert_126 : decode cX5_insert 126 = .ok (.aload_n 0, 1) := by decide +kernel
theorem dX5_insert_127 : decode cX5_insert 127 = .ok (.getfield 18, 3) := by decide +kernel
theorem dX5_insert_130 : decode cX5_insert 130 = .ok (.ireturn, 1) := by decide +kernel
theorem dX5_remove_0 : decode cX5_remove 0 = .ok (.aload_n 0, 1) := by decide +kernel
theorem dX5_remove_1 : decode cX5_remove 1 = .ok (.iload_n 1, 1) := by decide +kernel
theorem dX5_remove_2 : decode cX5_remove 2 = .ok (.invokevirtual 22, 3) := by decide +kernel
theorem dX5_remove_5 : decode cX5_remove 5 = .ok (.istore_n 2, 1) := by decide +kernel
theorem dX5_remove_6 : decode cX5_remove 6 = .ok (.iload_n 2, 1) := by decide +kernel
theorem dX5_remove_7 : decode cX5_remove 7 = .ok (.ifCond .ge 5, 3) := by decide +kernel
theorem dX5_remove_10 : decode cX5_remove 10 = .ok (.iconst (-1), 1) := by decide +kernel
theorem dX5_remove_11 : decode cX5_remove 11 = .ok (.ireturn, 1) := by decide +kernel
theorem dX5_remove_12 : decode cX5_remove 12 = .ok (.aload_n 0, 1) := by decide +kernel
theorem dX5_remove_13 : decode cX5_remove 13 = .ok (.getfield 15, 3) := by decide +kernel
theorem dX5_remove_16 : decode cX5_remove 16 = .ok (.iload_n 2, 1) := by decide +kernel
theorem dX5_remove_17 : decode cX5_remove 17 = .ok (.iaload, 1) := by decide +kernel
theorem dX5_remove_18 : decode cX5_remove 18 = .ok (.istore_n 3, 1) := by decide +kernel
theorem dX5_remove_19 : decode cX5_remove 19 = .ok (.iload_n 2, 1) := by decide +kernel
theorem dX5_remove_20 : decode cX5_remove 20 = .ok (.istore 4, 2) := by decide +kernel
theorem dX5_remove_22 : decode cX5_remove 22 = .ok (.iload 4, 2) := by decide +kernel
theorem dX5_remove_24 : decode cX5_remove 24 = .ok (.iconst 1, 1) := by decide +kernel
theorem dX5_remove_25 : decode cX5_remove 25 = .ok (.iadd, 1) := by decide +kernel
theorem dX5_remove_26 : decode cX5_remove 26 = .ok (.aload_n 0, 1) := by decide +kernel
theorem dX5_remove_27 : decode cX5_remove 27 = .ok (.getfield 18, 3) := by decide +kernel
theorem dX5_remove_30 : decode cX5_remove 30 = .ok (.if_icmp .ge 41, 3) := by decide +kernel
theorem dX5_remove_33 : decode cX5_remove 33 = .ok (.aload_n 0, 1) := by decide +kernel
theorem dX5_remove_34 : decode cX5_remove 34 = .ok (.getfield 9, 3) := by decide +kernel
theorem dX5_remove_37 : decode cX5_remove 37 = .ok (.iload 4, 2) := by decide +kernel
theorem dX5_remove_39 : decode cX5_remove 39 = .ok (.aload_n 0, 1) := by decide +kernel
theorem dX5_remove_40 : decode cX5_remove 40 = .ok (.getfield 9, 3) := by decide +kernel
theorem dX5_remove_43 : decode cX5_remove 43 = .ok (.iload 4, 2) := by decide +kernel
theorem dX5_remove_45 : decode cX5_remove 45 = .ok (.iconst 1, 1) := by decide +kernel
theorem dX5_remove_46 : decode cX5_remove 46 = .ok (.iadd, 1) := by decide +kernel
theorem dX5_remove_47 : decode cX5_remove 47 = .ok (.iaload, 1) := by decide +kernel
theorem dX5_remove_48 : decode cX5_remove 48 = .ok (.iastore, 1) := by decide +kernel
theorem dX5_remove_49 : decode cX5_remove 49 = .ok (.aload_n 0, 1) := by decide +kernel
theorem dX5_remove_50 : decode cX5_remove 50 = .ok (.getfield 15, 3) := by decide +kernel
theorem dX5_remove_53 : decode cX5_remove 53 = .ok (.iload 4, 2) := by decide +kernel
theorem dX5_remove_55 : decode cX5_remove 55 = .ok (.aload_n 0, 1) := by decide +kernel
theorem dX5_remove_56 : decode cX5_remove 56 = .ok (.getfield 15, 3) := by decide +kernel
theorem dX5_remove_59 : decode cX5_remove 59 = .ok (.iload 4, 2) := by decide +kernel
theorem dX5_remove_61 : decode cX5_remove 61 = .ok (.iconst 1, 1) := by decide +kernel
theorem dX5_remove_62 : decode cX5_remove 62 = .ok (.iadd, 1) := by decide +kernel
theorem dX5_remove_63 : decode cX5_remove 63 = .ok (.iaload, 1) := by decide +kernel
theorem dX5_remove_64 : decode cX5_remove 64 = .ok (.iastore, 1) := by decide +kernel
theorem dX5_remove_65 : decode cX5_remove 65 = .ok (.iinc 4 1, 3) := by decide +kernel
theorem dX5_remove_68 : decode cX5_remove 68 = .ok (.goto (-46), 3) := by decide +kernel
theorem dX5_remove_71 : decode cX5_remove 71 = .ok (.aload_n 0, 1) := by decide +kernel
theorem dX5_remove_72 : decode cX5_remove 72 = .ok (.dup, 1) := by decide +kernel
theorem dX5_remove_73 : decode cX5_remove 73 = .ok (.getfield 18, 3) := by decide +kernel
theorem dX5_remove_76 : decode cX5_remove 76 = .ok (.iconst 1, 1) := by decide +kernel
theorem dX5_remove_77 : decode cX5_remove 77 = .ok (.isub, 1) := by decide +kernel
theorem dX5_remove_78 : decode cX5_remove 78 = .ok (.putfield 18, 3) := by decide +kernel
theorem dX5_remove_81 : decode cX5_remove 81 = .ok (.iload_n 3, 1) := by decide +kernel
theorem dX5_remove_82 : decode cX5_remove 82 = .ok (.ireturn, 1) := by decide +kernel
theorem dX5_dutyByParts_0 : decode cX5_dutyByParts 0 = .ok (.iconst 0, 1) := by decide +kernel
theorem dX5_dutyByParts_1 : decode cX5_dutyByParts 1 = .ok (.istore_n 2, 1) := by decide +kernel
theorem dX5_dutyByParts_2 : decode cX5_dutyByParts 2 = .ok (.iconst 0, 1) := by decide +kernel
theorem dX5_dutyByParts_3 : decode cX5_dutyByParts 3 = .ok (.istore_n 3, 1) := by decide +kernel
theorem dX5_dutyByParts_4 : decode cX5_dutyByParts 4 = .ok (.iload_n 3, 1) := by decide +kernel
theorem dX5_dutyByParts_5 : decode cX5_dutyByParts 5 = .ok (.aload_n 0, 1) := by decide +kernel
theorem dX5_dutyByParts_6 : decode cX5_dutyByParts 6 = .ok (.getfield 18, 3) := by decide +kernel
theorem dX5_dutyByParts_9 : decode cX5_dutyByParts 9 = .ok (.if_icmp .ge 64, 3) := by decide +kernel
theorem dX5_dutyByParts_12 : decode cX5_dutyByParts 12 = .ok (.iload_n 3, 1) := by decide +kernel
theorem dX5_dutyByParts_13 : decode cX5_dutyByParts 13 = .ok (.iconst 1, 1) := by decide +kernel
theorem dX5_dutyByParts_14 : decode cX5_dutyByParts 14 = .ok (.iadd, 1) := by decide +kernel
theorem dX5_dutyByParts_15 : decode cX5_dutyByParts 15 = .ok (.aload_n 0, 1) := by decide +kernel
theorem dX5_dutyByParts_16 : decode cX5_dutyByParts 16 = .ok (.getfield 18, 3) := by decide +kernel
theorem dX5_dutyByParts_19 : decode cX5_dutyByParts 19 = .ok (.if_icmp .ge 18, 3) := by decide +kernel
theorem dX5_dutyByParts_22 : decode cX5_dutyByParts 22 = .ok (.iload_n 1, 1) := by decide +kernel
theorem dX5_dutyByParts_23 : decode cX5_dutyByParts 23 = .ok (.aload_n 0, 1) := by decide +kernel
theorem dX5_dutyByParts_24 : decode cX5_dutyByParts 24 = .ok (.getfield 9, 3) := by decide +kernel
theorem dX5_dutyByParts_27 : decode cX5_dutyByParts 27 = .ok (.iload_n 3, 1) := by decide +kernel
theorem dX5_dutyByParts_28 : decode cX5_dutyByParts 28 = .ok (.iconst 1, 1) := by decide +kernel
theorem dX5_dutyByParts_29 : decode cX5_dutyByParts 29 = .ok (.iadd, 1) := by decide +kernel
theorem dX5_dutyByParts_30 : decode cX5_dutyByParts 30 = .ok (.iaload, 1) := by decide +kernel
theorem dX5_dutyByParts_31 : decode cX5_dutyByParts 31 = .ok (.invokestatic 26, 3) := by decide +kernel
theorem dX5_dutyByParts_34 : decode cX5_dutyByParts 34 = .ok (.goto 4, 3) := by decide +kernel
theorem dX5_dutyByParts_37 : decode cX5_dutyByParts 37 = .ok (.iload_n 1, 1) := by decide +kernel
theorem dX5_dutyByParts_38 : decode cX5_dutyByParts 38 = .ok (.istore 4, 2) := by decide +kernel
theorem dX5_dutyByParts_40 : decode cX5_dutyByParts 40 = .ok (.iconst 0, 1) := by decide +kernel
theorem dX5_dutyByParts_41 : decode cX5_dutyByParts 41 = .ok (.iload 4, 2) := by decide +kernel
theorem dX5_dutyByParts_43 : decode cX5_dutyByParts 43 = .ok (.aload_n 0, 1) := by decide +kernel
theorem dX5_dutyByParts_44 : decode cX5_dutyByParts 44 = .ok (.getfield 9, 3) := by decide +kernel
theorem dX5_dutyByParts_47 : decode cX5_dutyByParts 47 = .ok (.iload_n 3, 1) := by decide +kernel
theorem dX5_dutyByParts_48 : decode cX5_dutyByParts 48 = .ok (.iaload, 1) := by decide +kernel
theorem dX5_dutyByParts_49 : decode cX5_dutyByParts 49 = .ok (.isub, 1) := by decide +kernel
theorem dX5_dutyByParts_50 : decode cX5_dutyByParts 50 = .ok (.invokestatic 32, 3) := by decide +kernel
theorem dX5_dutyByParts_53 : decode cX5_dutyByParts 53 = .ok (.istore 5, 2) := by decide +kernel
theorem dX5_dutyByParts_55 : decode cX5_dutyByParts 55 = .ok (.iload_n 2, 1) := by decide +kernel
theorem dX5_dutyByParts_56 : decode cX5_dutyByParts 56 = .ok (.iload 5, 2) := by decide +kernel
theorem dX5_dutyByParts_58 : decode cX5_dutyByParts 58 = .ok (.aload_n 0, 1) := by decide +kernel
theorem dX5_dutyByParts_59 : decode cX5_dutyByParts 59 = .ok (.getfield 15, 3) := by decide +kernel
theorem dX5_dutyByParts_62 : decode cX5_dutyByParts 62 = .ok (.iload_n 3, 1) := by decide +kernel
theorem dX5_dutyByParts_63 : decode cX5_dutyByParts 63 = .ok (.iaload, 1) := by decide +kernel
theorem dX5_dutyByParts_64 : decode cX5_dutyByParts 64 = .ok (.imul, 1) := by decide +kernel
theorem dX5_dutyByParts_65 : decode cX5_dutyByParts 65 = .ok (.iadd, 1) := by decide +kernel
theorem dX5_dutyByParts_66 : decode cX5_dutyByParts 66 = .ok (.istore_n 2, 1) := by decide +kernel
theorem dX5_dutyByParts_67 : decode cX5_dutyByParts 67 = .ok (.iinc 3 1, 3) := by decide +kernel
theorem dX5_dutyByParts_70 : decode cX5_dutyByParts 70 = .ok (.goto (-66), 3) := by decide +kernel
theorem dX5_dutyByParts_73 : decode cX5_dutyByParts 73 = .ok (.iload_n 2, 1) := by decide +kernel
theorem dX5_dutyByParts_74 : decode cX5_dutyByParts 74 = .ok (.bipush 100, 2) := by decide +kernel
theorem dX5_dutyByParts_76 : decode cX5_dutyByParts 76 = .ok (.idiv, 1) := by decide +kernel
theorem dX5_dutyByParts_77 : decode cX5_dutyByParts 77 = .ok (.ireturn, 1) := by decide +kernel
theorem dX5_dutyByCoins_0 : decode cX5_dutyByCoins 0 = .ok (.iconst 0, 1) := by decide +kernel
theorem dX5_dutyByCoins_1 : decode cX5_dutyByCoins 1 = .ok (.istore_n 2, 1) := by decide +kernel
theorem dX5_dutyByCoins_2 : decode cX5_dutyByCoins 2 = .ok (.iconst 0, 1) := by decide +kernel
theorem dX5_dutyByCoins_3 : decode cX5_dutyByCoins 3 = .ok (.istore_n 3, 1) := by decide +kernel
theorem dX5_dutyByCoins_4 : decode cX5_dutyByCoins 4 = .ok (.iconst 1, 1) := by decide +kernel
theorem dX5_dutyByCoins_5 : decode cX5_dutyByCoins 5 = .ok (.istore 4, 2) := by decide +kernel
theorem dX5_dutyByCoins_7 : decode cX5_dutyByCoins 7 = .ok (.iload 4, 2) := by decide +kernel
theorem dX5_dutyByCoins_9 : decode cX5_dutyByCoins 9 = .ok (.iload_n 1, 1) := by decide +kernel
theorem dX5_dutyByCoins_10 : decode cX5_dutyByCoins 10 = .ok (.if_icmp .gt 49, 3) := by decide +kernel
theorem dX5_dutyByCoins_13 : decode cX5_dutyByCoins 13 = .ok (.iload_n 3, 1) := by decide +kernel
theorem dX5_dutyByCoins_14 : decode cX5_dutyByCoins 14 = .ok (.aload_n 0, 1) := by decide +kernel
theorem dX5_dutyByCoins_15 : decode cX5_dutyByCoins 15 = .ok (.getfield 18, 3) := by decide +kernel
theorem dX5_dutyByCoins_18 : decode cX5_dutyByCoins 18 = .ok (.if_icmp .ge 20, 3) := by decide +kernel
theorem dX5_dutyByCoins_21 : decode cX5_dutyByCoins 21 = .ok (.aload_n 0, 1) := by decide +kernel
theorem dX5_dutyByCoins_22 : decode cX5_dutyByCoins 22 = .ok (.getfield 9, 3) := by decide +kernel
theorem dX5_dutyByCoins_25 : decode cX5_dutyByCoins 25 = .ok (.iload_n 3, 1) := by decide +kernel
theorem dX5_dutyByCoins_26 : decode cX5_dutyByCoins 26 = .ok (.iaload, 1) := by decide +kernel
theorem dX5_dutyByCoins_27 : decode cX5_dutyByCoins 27 = .ok (.iload 4, 2) := by decide +kernel
theorem dX5_dutyByCoins_29 : decode cX5_dutyByCoins 29 = .ok (.if_icmp .ge 9, 3) := by decide +kernel
theorem dX5_dutyByCoins_32 : decode cX5_dutyByCoins 32 = .ok (.iinc 3 1, 3) := by decide +kernel
theorem dX5_dutyByCoins_35 : decode cX5_dutyByCoins 35 = .ok (.goto (-22), 3) := by decide +kernel
theorem dX5_dutyByCoins_38 : decode cX5_dutyByCoins 38 = .ok (.iload_n 3, 1) := by decide +kernel
theorem dX5_dutyByCoins_39 : decode cX5_dutyByCoins 39 = .ok (.ifCond .le 14, 3) := by decide +kernel
theorem dX5_dutyByCoins_42 : decode cX5_dutyByCoins 42 = .ok (.iload_n 2, 1) := by decide +kernel
theorem dX5_dutyByCoins_43 : decode cX5_dutyByCoins 43 = .ok (.aload_n 0, 1) := by decide +kernel
theorem dX5_dutyByCoins_44 : decode cX5_dutyByCoins 44 = .ok (.getfield 15, 3) := by decide +kernel
theorem dX5_dutyByCoins_47 : decode cX5_dutyByCoins 47 = .ok (.iload_n 3, 1) := by decide +kernel
theorem dX5_dutyByCoins_48 : decode cX5_dutyByCoins 48 = .ok (.iconst 1, 1) := by decide +kernel
theorem dX5_dutyByCoins_49 : decode cX5_dutyByCoins 49 = .ok (.isub, 1) := by decide +kernel
theorem dX5_dutyByCoins_50 : decode cX5_dutyByCoins 50 = .ok (.iaload, 1) := by decide +kernel
theorem dX5_dutyByCoins_51 : decode cX5_dutyByCoins 51 = .ok (.iadd, 1) := by decide +kernel
theorem dX5_dutyByCoins_52 : decode cX5_dutyByCoins 52 = .ok (.istore_n 2, 1) := by decide +kernel
theorem dX5_dutyByCoins_53 : decode cX5_dutyByCoins 53 = .ok (.iinc 4 1, 3) := by decide +kernel
theorem dX5_dutyByCoins_56 : decode cX5_dutyByCoins 56 = .ok (.goto (-49), 3) := by decide +kernel
theorem dX5_dutyByCoins_59 : decode cX5_dutyByCoins 59 = .ok (.iload_n 2, 1) := by decide +kernel
theorem dX5_dutyByCoins_60 : decode cX5_dutyByCoins 60 = .ok (.bipush 100, 2) := by decide +kernel
theorem dX5_dutyByCoins_62 : decode cX5_dutyByCoins 62 = .ok (.idiv, 1) := by decide +kernel
theorem dX5_dutyByCoins_63 : decode cX5_dutyByCoins 63 = .ok (.ireturn, 1) := by decide +kernel
theorem dX5_copyFrom_0 : decode cX5_copyFrom 0 = .ok (.iconst 0, 1) := by decide +kernel
theorem dX5_copyFrom_1 : decode cX5_copyFrom 1 = .ok (.istore_n 2, 1) := by decide +kernel
theorem dX5_copyFrom_2 : decode cX5_copyFrom 2 = .ok (.iload_n 2, 1) := by decide +kernel
theorem dX5_copyFrom_3 : decode cX5_copyFrom 3 = .ok (.aload_n 1, 1) := by decide +kernel
theorem dX5_copyFrom_4 : decode cX5_copyFrom 4 = .ok (.getfield 18, 3) := by decide +kernel
theorem dX5_copyFrom_7 : decode cX5_copyFrom 7 = .ok (.if_icmp .ge 33, 3) := by decide +kernel
theorem dX5_copyFrom_10 : decode cX5_copyFrom 10 = .ok (.aload_n 0, 1) := by decide +kernel
theorem dX5_copyFrom_11 : decode cX5_copyFrom 11 = .ok (.getfield 9, 3) := by decide +kernel
theorem dX5_copyFrom_14 : decode cX5_copyFrom 14 = .ok (.iload_n 2, 1) := by decide +kernel
theorem dX5_copyFrom_15 : decode cX5_copyFrom 15 = .ok (.aload_n 1, 1) := by decide +kernel
theorem dX5_copyFrom_16 : decode cX5_copyFrom 16 = .ok (.getfield 9, 3) := by decide +kernel
theorem dX5_copyFrom_19 : decode cX5_copyFrom 19 = .ok (.iload_n 2, 1) := by decide +kernel
theorem dX5_copyFrom_20 : decode cX5_copyFrom 20 = .ok (.iaload, 1) := by decide +kernel
theorem dX5_copyFrom_21 : decode cX5_copyFrom 21 = .ok (.iastore, 1) := by decide +kernel
theorem dX5_copyFrom_22 : decode cX5_copyFrom 22 = .ok (.aload_n 0, 1) := by decide +kernel
theorem dX5_copyFrom_23 : decode cX5_copyFrom 23 = .ok (.getfield 15, 3) := by decide +kernel
theorem dX5_copyFrom_26 : decode cX5_copyFrom 26 = .ok (.iload_n 2, 1) := by decide +kernel
theorem dX5_copyFrom_27 : decode cX5_copyFrom 27 = .ok (.aload_n 1, 1) := by decide +kernel
theorem dX5_copyFrom_28 : decode cX5_copyFrom 28 = .ok (.getfield 15, 3) := by decide +kernel
theorem dX5_copyFrom_31 : decode cX5_copyFrom 31 = .ok (.iload_n 2, 1) := by decide +kernel
theorem dX5_copyFrom_32 : decode cX5_copyFrom 32 = .ok (.iaload, 1) := by decide +kernel
theorem dX5_copyFrom_33 : decode cX5_copyFrom 33 = .ok (.iastore, 1) := by decide +kernel
theorem dX5_copyFrom_34 : decode cX5_copyFrom 34 = .ok (.iinc 2 1, 3) := by decide +kernel
theorem dX5_copyFrom_37 : decode cX5_copyFrom 37 = .ok (.goto (-35), 3) := by decide +kernel
theorem dX5_copyFrom_40 : decode cX5_copyFrom 40 = .ok (.aload_n 0, 1) := by decide +kernel
theorem dX5_copyFrom_41 : decode cX5_copyFrom 41 = .ok (.aload_n 1, 1) := by decide +kernel
theorem dX5_copyFrom_42 : decode cX5_copyFrom 42 = .ok (.getfield 18, 3) := by decide +kernel
theorem dX5_copyFrom_45 : decode cX5_copyFrom 45 = .ok (.putfield 18, 3) := by decide +kernel
theorem dX5_copyFrom_48 : decode cX5_copyFrom 48 = .ok (.return_, 1) := by decide +kernel
