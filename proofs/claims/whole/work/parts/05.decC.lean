theorem dX7_init_0 : decode cX7_init 0 = .ok (.aload_n 0, 1) := by decide +kernel
theorem dX7_init_1 : decode cX7_init 1 = .ok (.invokespecial 1, 3) := by decide +kernel
theorem dX7_init_4 : decode cX7_init 4 = .ok (.aload_n 0, 1) := by decide +kernel
theorem dX7_init_5 : decode cX7_init 5 = .ok (.sipush 148, 3) := by decide +kernel
theorem dX7_init_8 : decode cX7_init 8 = .ok (.newarray .int, 2) := by decide +kernel
theorem dX7_init_10 : decode cX7_init 10 = .ok (.putfield 7, 3) := by decide +kernel
theorem dX7_init_13 : decode cX7_init 13 = .ok (.aload_n 0, 1) := by decide +kernel
theorem dX7_init_14 : decode cX7_init 14 = .ok (.sipush 148, 3) := by decide +kernel
theorem dX7_init_17 : decode cX7_init 17 = .ok (.newarray .int, 2) := by decide +kernel
theorem dX7_init_19 : decode cX7_init 19 = .ok (.putfield 13, 3) := by decide +kernel
theorem dX7_init_22 : decode cX7_init 22 = .ok (.aload_n 0, 1) := by decide +kernel
theorem dX7_init_23 : decode cX7_init 23 = .ok (.sipush 148, 3) := by decide +kernel
theorem dX7_init_26 : decode cX7_init 26 = .ok (.newarray .int, 2) := by decide +kernel
theorem dX7_init_28 : decode cX7_init 28 = .ok (.putfield 16, 3) := by decide +kernel
theorem dX7_init_31 : decode cX7_init 31 = .ok (.aload_n 0, 1) := by decide +kernel
theorem dX7_init_32 : decode cX7_init 32 = .ok (.sipush 1184, 3) := by decide +kernel
theorem dX7_init_35 : decode cX7_init 35 = .ok (.newarray .int, 2) := by decide +kernel
theorem dX7_init_37 : decode cX7_init 37 = .ok (.putfield 19, 3) := by decide +kernel
theorem dX7_init_40 : decode cX7_init 40 = .ok (.aload_n 0, 1) := by decide +kernel
theorem dX7_init_41 : decode cX7_init 41 = .ok (.sipush 148, 3) := by decide +kernel
theorem dX7_init_44 : decode cX7_init 44 = .ok (.newarray .int, 2) := by decide +kernel
theorem dX7_init_46 : decode cX7_init 46 = .ok (.putfield 22, 3) := by decide +kernel
theorem dX7_init_49 : decode cX7_init 49 = .ok (.aload_n 0, 1) := by decide +kernel
theorem dX7_init_50 : decode cX7_init 50 = .ok (.bipush 60, 2) := by decide +kernel
theorem dX7_init_52 : decode cX7_init 52 = .ok (.newarray .int, 2) := by decide +kernel
theorem dX7_init_54 : decode cX7_init 54 = .ok (.putfield 25, 3) := by decide +kernel
theorem dX7_init_57 : decode cX7_init 57 = .ok (.aload_n 0, 1) := by decide +kernel
theorem dX7_init_58 : decode cX7_init 58 = .ok (.sipush 300, 3) := by decide +kernel
theorem dX7_init_61 : decode cX7_init 61 = .ok (.newarray .int, 2) := by decide +kernel
theorem dX7_init_63 : decode cX7_init 63 = .ok (.putfield 28, 3) := by decide +kernel
theorem dX7_init_66 : decode cX7_init 66 = .ok (.aload_n 0, 1) := by decide +kernel
theorem dX7_init_67 : decode cX7_init 67 = .ok (.bipush 40, 2) := by decide +kernel
theorem dX7_init_69 : decode cX7_init 69 = .ok (.newarray .int, 2) := by decide +kernel
theorem dX7_init_71 : decode cX7_init 71 = .ok (.putfield 31, 3) := by decide +kernel
theorem dX7_init_74 : decode cX7_init 74 = .ok (.aload_n 0, 1) := by decide +kernel
theorem dX7_init_75 : decode cX7_init 75 = .ok (.bipush 24, 2) := by decide +kernel
theorem dX7_init_77 : decode cX7_init 77 = .ok (.newarray .int, 2) := by decide +kernel
theorem dX7_init_79 : decode cX7_init 79 = .ok (.putfield 34, 3) := by decide +kernel
theorem dX7_init_82 : decode cX7_init 82 = .ok (.aload_n 0, 1) := by decide +kernel
theorem dX7_init_83 : decode cX7_init 83 = .ok (.bipush 24, 2) := by decide +kernel
theorem dX7_init_85 : decode cX7_init 85 = .ok (.newarray .int, 2) := by decide +kernel
theorem dX7_init_87 : decode cX7_init 87 = .ok (.putfield 37, 3) := by decide +kernel
theorem dX7_init_90 : decode cX7_init 90 = .ok (.aload_n 0, 1) := by decide +kernel
theorem dX7_init_91 : decode cX7_init 91 = .ok (.iconst (-1), 1) := by decide +kernel
theorem dX7_init_92 : decode cX7_init 92 = .ok (.putfield 40, 3) := by decide +kernel
theorem dX7_init_95 : decode cX7_init 95 = .ok (.aload_n 0, 1) := by decide +kernel
theorem dX7_init_96 : decode cX7_init 96 = .ok (.iconst (-1), 1) := by decide +kernel
theorem dX7_init_97 : decode cX7_init 97 = .ok (.putfield 44, 3) := by decide +kernel
theorem dX7_init_100 : decode cX7_init 100 = .ok (.return_, 1) := by decide +kernel
theorem dX7_thrown_0 : decode cX7_thrown 0 = .ok (.aload_n 0, 1) := by decide +kernel
theorem dX7_thrown_1 : decode cX7_thrown 1 = .ok (.getfield 47, 3) := by decide +kernel
theorem dX7_thrown_4 : decode cX7_thrown 4 = .ok (.ireturn, 1) := by decide +kernel
theorem dX7_fails_0 : decode cX7_fails 0 = .ok (.aload_n 0, 1) := by decide +kernel
theorem dX7_fails_1 : decode cX7_fails 1 = .ok (.iload_n 1, 1) := by decide +kernel
theorem dX7_fails_2 : decode cX7_fails 2 = .ok (.putfield 47, 3) := by decide +kernel
theorem dX7_fails_5 : decode cX7_fails 5 = .ok (.iconst 0, 1) := by decide +kernel
theorem dX7_fails_6 : decode cX7_fails 6 = .ok (.ireturn, 1) := by decide +kernel
theorem dX7_in_0 : decode cX7_in 0 = .ok (.iload_n 0, 1) := by decide +kernel
theorem dX7_in_1 : decode cX7_in 1 = .ok (.iload_n 1, 1) := by decide +kernel
theorem dX7_in_2 : decode cX7_in 2 = .ok (.if_icmp .lt 12, 3) := by decide +kernel
theorem dX7_in_5 : decode cX7_in 5 = .ok (.iload_n 0, 1) := by decide +kernel
theorem dX7_in_6 : decode cX7_in 6 = .ok (.iload_n 2, 1) := by decide +kernel
theorem dX7_in_7 : decode cX7_in 7 = .ok (.if_icmp .gt 7, 3) := by decide +kernel
theorem dX7_in_10 : decode cX7_in 10 = .ok (.iconst 1, 1) := by decide +kernel
theorem dX7_in_11 : decode cX7_in 11 = .ok (.goto 4, 3) := by decide +kernel
theorem dX7_in_14 : decode cX7_in 14 = .ok (.iconst 0, 1) := by decide +kernel
theorem dX7_in_15 : decode cX7_in 15 = .ok (.ireturn, 1) := by decide +kernel
theorem dX7_remembers_0 : decode cX7_remembers 0 = .ok (.aload_n 0, 1) := by decide +kernel
theorem dX7_remembers_1 : decode cX7_remembers 1 = .ok (.iconst 0, 1) := by decide +kernel
theorem dX7_remembers_2 : decode cX7_remembers 2 = .ok (.putfield 47, 3) := by decide +kernel
theorem dX7_remembers_5 : decode cX7_remembers 5 = .ok (.iconst 0, 1) := by decide +kernel
theorem dX7_remembers_6 : decode cX7_remembers 6 = .ok (.istore_n 1, 1) := by decide +kernel
theorem dX7_remembers_7 : decode cX7_remembers 7 = .ok (.iload_n 1, 1) := by decide +kernel
theorem dX7_remembers_8 : decode cX7_remembers 8 = .ok (.sipush 148, 3) := by decide +kernel
theorem dX7_remembers_11 : decode cX7_remembers 11 = .ok (.if_icmp .ge 21, 3) := by decide +kernel
theorem dX7_remembers_14 : decode cX7_remembers 14 = .ok (.aload_n 0, 1) := by decide +kernel
theorem dX7_remembers_15 : decode cX7_remembers 15 = .ok (.getfield 13, 3) := by decide +kernel
theorem dX7_remembers_18 : decode cX7_remembers 18 = .ok (.iload_n 1, 1) := by decide +kernel
theorem dX7_remembers_19 : decode cX7_remembers 19 = .ok (.aload_n 0, 1) := by decide +kernel
theorem dX7_remembers_20 : decode cX7_remembers 20 = .ok (.getfield 7, 3) := by decide +kernel
theorem dX7_remembers_23 : decode cX7_remembers 23 = .ok (.iload_n 1, 1) := by decide +kernel
theorem dX7_remembers_24 : decode cX7_remembers 24 = .ok (.iaload, 1) := by decide +kernel
theorem dX7_remembers_25 : decode cX7_remembers 25 = .ok (.iastore, 1) := by decide +kernel
theorem dX7_remembers_26 : decode cX7_remembers 26 = .ok (.iinc 1 1, 3) := by decide +kernel
theorem dX7_remembers_29 : decode cX7_remembers 29 = .ok (.goto (-22), 3) := by decide +kernel
theorem dX7_remembers_32 : decode cX7_remembers 32 = .ok (.return_, 1) := by decide +kernel
theorem dX7_changed_0 : decode cX7_changed 0 = .ok (.aload_n 0, 1) := by decide +kernel
theorem dX7_changed_1 : decode cX7_changed 1 = .ok (.getfield 50, 3) := by decide +kernel
theorem dX7_changed_4 : decode cX7_changed 4 = .ok (.bipush 8, 2) := by decide +kernel
theorem dX7_changed_6 : decode cX7_changed 6 = .ok (.if_icmp .ne 37, 3) := by decide +kernel
theorem dX7_changed_9 : decode cX7_changed 9 = .ok (.iconst 0, 1) := by decide +kernel
theorem dX7_changed_10 : decode cX7_changed 10 = .ok (.istore_n 2, 1) := by decide +kernel
theorem dX7_changed_11 : decode cX7_changed 11 = .ok (.iload_n 2, 1) := by decide +kernel
theorem dX7_changed_12 : decode cX7_changed 12 = .ok (.sipush 1036, 3) := by decide +kernel
theorem dX7_changed_15 : decode cX7_changed 15 = .ok (.if_icmp .ge 25, 3) := by decide +kernel
theorem dX7_changed_18 : decode cX7_changed 18 = .ok (.aload_n 0, 1) := by decide +kernel
theorem dX7_changed_19 : decode cX7_changed 19 = .ok (.getfield 19, 3) := by decide +kernel
theorem dX7_changed_22 : decode cX7_changed 22 = .ok (.iload_n 2, 1) := by decide +kernel
theorem dX7_changed_23 : decode cX7_changed 23 = .ok (.aload_n 0, 1) := by decide +kernel
theorem dX7_changed_24 : decode cX7_changed 24 = .ok (.getfield 19, 3) := by decide +kernel
theorem dX7_changed_27 : decode cX7_changed 27 = .ok (.iload_n 2, 1) := by decide +kernel
theorem dX7_changed_28 : decode cX7_changed 28 = .ok (.sipush 148, 3) := by decide +kernel
theorem dX7_changed_31 : decode cX7_changed 31 = .ok (.iadd, 1) := by decide +kernel
theorem dX7_changed_32 : decode cX7_changed 32 = .ok (.iaload, 1) := by decide +kernel
theorem dX7_changed_33 : decode cX7_changed 33 = .ok (.iastore, 1) := by decide +kernel
theorem dX7_changed_34 : decode cX7_changed 34 = .ok (.iinc 2 1, 3) := by decide +kernel
theorem dX7_changed_37 : decode cX7_changed 37 = .ok (.goto (-26), 3) := by decide +kernel
theorem dX7_changed_40 : decode cX7_changed 40 = .ok (.goto 13, 3) := by decide +kernel
theorem dX7_changed_43 : decode cX7_changed 43 = .ok (.aload_n 0, 1) := by decide +kernel
theorem dX7_changed_44 : decode cX7_changed 44 = .ok (.dup, 1) := by decide +kernel
theorem dX7_changed_45 : decode cX7_changed 45 = .ok (.getfield 50, 3) := by decide +kernel
theorem dX7_changed_48 : decode cX7_changed 48 = .ok (.iconst 1, 1) := by decide +kernel
theorem dX7_changed_49 : decode cX7_changed 49 = .ok (.iadd, 1) := by decide +kernel
theorem dX7_changed_50 : decode cX7_changed 50 = .ok (.putfield 50, 3) := by decide +kernel
theorem dX7_changed_53 : decode cX7_changed 53 = .ok (.iconst 0, 1) := by decide +kernel
theorem dX7_changed_54 : decode cX7_changed 54 = .ok (.istore_n 2, 1) := by decide +kernel
theorem dX7_changed_55 : decode cX7_changed 55 = .ok (.iload_n 2, 1) := by decide +kernel
theorem dX7_changed_56 : decode cX7_changed 56 = .ok (.sipush 148, 3) := by decide +kernel
theorem dX7_changed_59 : decode cX7_changed 59 = .ok (.if_icmp .ge 32, 3) := by decide +kernel
theorem dX7_changed_62 : decode cX7_changed 62 = .ok (.aload_n 0, 1) := by decide +kernel
theorem dX7_changed_63 : decode cX7_changed 63 = .ok (.getfield 19, 3) := by decide +kernel
theorem dX7_changed_66 : decode cX7_changed 66 = .ok (.sipush 148, 3) := by decide +kernel
theorem dX7_changed_69 : decode cX7_changed 69 = .ok (.aload_n 0, 1) := by decide +kernel
theorem dX7_changed_70 : decode cX7_changed 70 = .ok (.getfield 50, 3) := by decide +kernel
theorem dX7_changed_73 : decode cX7_changed 73 = .ok (.iconst 1, 1) := by decide +kernel
theorem dX7_changed_74 : decode cX7_changed 74 = .ok (.isub, 1) := by decide +kernel
theorem dX7_changed_75 : decode cX7_changed 75 = .ok (.imul, 1) := by decide +kernel
theorem dX7_changed_76 : decode cX7_changed 76 = .ok (.iload_n 2, 1) := by decide +kernel
theorem dX7_changed_77 : decode cX7_changed 77 = .ok (.iadd, 1) := by decide +kernel
theorem dX7_changed_78 : decode cX7_changed 78 = .ok (.aload_n 0, 1) := by decide +kernel
theorem dX7_changed_79 : decode cX7_changed 79 = .ok (.getfield 13, 3) := by decide +kernel
theorem dX7_changed_82 : decode cX7_changed 82 = .ok (.iload_n 2, 1) := by decide +kernel
theorem dX7_changed_83 : decode cX7_changed 83 = .ok (.iaload, 1) := by decide +kernel
theorem dX7_changed_84 : decode cX7_changed 84 = .ok (.iastore, 1) := by decide +kernel
theorem dX7_changed_85 : decode cX7_changed 85 = .ok (.iinc 2 1, 3) := by decide +kernel
theorem dX7_changed_88 : decode cX7_changed 88 = .ok (.goto (-33), 3) := by decide +kernel
theorem dX7_changed_91 : decode cX7_changed 91 = .ok (.iload_n 1, 1) := by decide +kernel
theorem dX7_changed_92 : decode cX7_changed 92 = .ok (.ireturn, 1) := by decide +kernel
theorem dX7_done_0 : decode cX7_done 0 = .ok (.aload_n 0, 1) := by decide +kernel
theorem dX7_done_1 : decode cX7_done 1 = .ok (.iload_n 1, 1) := by decide +kernel
theorem dX7_done_2 : decode cX7_done 2 = .ok (.putfield 53, 3) := by decide +kernel
theorem dX7_done_5 : decode cX7_done 5 = .ok (.iconst 0, 1) := by decide +kernel
theorem dX7_done_6 : decode cX7_done 6 = .ok (.ireturn, 1) := by decide +kernel
theorem dX7_ends_0 : decode cX7_ends 0 = .ok (.iload_n 1, 1) := by decide +kernel
theorem dX7_ends_1 : decode cX7_ends 1 = .ok (.ifCond .ne 14, 3) := by decide +kernel
theorem dX7_ends_4 : decode cX7_ends 4 = .ok (.aload_n 0, 1) := by decide +kernel
theorem dX7_ends_5 : decode cX7_ends 5 = .ok (.aload_n 0, 1) := by decide +kernel
theorem dX7_ends_6 : decode cX7_ends 6 = .ok (.getfield 53, 3) := by decide +kernel
theorem dX7_ends_9 : decode cX7_ends 9 = .ok (.invokevirtual 56, 3) := by decide +kernel
theorem dX7_ends_12 : decode cX7_ends 12 = .ok (.goto 8, 3) := by decide +kernel
theorem dX7_ends_15 : decode cX7_ends 15 = .ok (.aload_n 0, 1) := by decide +kernel
theorem dX7_ends_16 : decode cX7_ends 16 = .ok (.iload_n 1, 1) := by decide +kernel
theorem dX7_ends_17 : decode cX7_ends 17 = .ok (.invokevirtual 60, 3) := by decide +kernel
theorem dX7_ends_20 : decode cX7_ends 20 = .ok (.ireturn, 1) := by decide +kernel
theorem dX7_of_0 : decode cX7_of 0 = .ok (.aload_n 0, 1) := by decide +kernel
theorem dX7_of_1 : decode cX7_of 1 = .ok (.getfield 7, 3) := by decide +kernel
theorem dX7_of_4 : decode cX7_of 4 = .ok (.bipush 8, 2) := by decide +kernel
theorem dX7_of_6 : decode cX7_of 6 = .ok (.bipush 7, 2) := by decide +kernel
theorem dX7_of_8 : decode cX7_of 8 = .ok (.iload_n 1, 1) := by decide +kernel
theorem dX7_of_9 : decode cX7_of 9 = .ok (.imul, 1) := by decide +kernel
theorem dX7_of_10 : decode cX7_of 10 = .ok (.iadd, 1) := by decide +kernel
theorem dX7_of_11 : decode cX7_of 11 = .ok (.iload_n 2, 1) := by decide +kernel
theorem dX7_of_12 : decode cX7_of 12 = .ok (.iadd, 1) := by decide +kernel
theorem dX7_of_13 : decode cX7_of 13 = .ok (.iaload, 1) := by decide +kernel
theorem dX7_of_14 : decode cX7_of 14 = .ok (.ireturn, 1) := by decide +kernel
theorem dX7_sets_0 : decode cX7_sets 0 = .ok (.aload_n 0, 1) := by decide +kernel
theorem dX7_sets_1 : decode cX7_sets 1 = .ok (.getfield 7, 3) := by decide +kernel
theorem dX7_sets_4 : decode cX7_sets 4 = .ok (.bipush 8, 2) := by decide +kernel
theorem dX7_sets_6 : decode cX7_sets 6 = .ok (.bipush 7, 2) := by decide +kernel
theorem dX7_sets_8 : decode cX7_sets 8 = .ok (.iload_n 1, 1) := by decide +kernel
theorem dX7_sets_9 : decode cX7_sets 9 = .ok (.imul, 1) := by decide +kernel
theorem dX7_sets_10 : decode cX7_sets 10 = .ok (.iadd, 1) := by decide +kernel
theorem dX7_sets_11 : decode cX7_sets 11 = .ok (.iload_n 2, 1) := by decide +kernel
theorem dX7_sets_12 : decode cX7_sets 12 = .ok (.iadd, 1) := by decide +kernel
theorem dX7_sets_13 : decode cX7_sets 13 = .ok (.iload_n 3, 1) := by decide +kernel
theorem dX7_sets_14 : decode cX7_sets 14 = .ok (.iastore, 1) := by decide +kernel
theorem dX7_sets_15 : decode cX7_sets 15 = .ok (.return_, 1) := by decide +kernel
theorem dX7_placeOf_0 : decode cX7_placeOf 0 = .ok (.iconst 0, 1) := by decide +kernel
theorem dX7_placeOf_1 : decode cX7_placeOf 1 = .ok (.istore_n 2, 1) := by decide +kernel
theorem dX7_placeOf_2 : decode cX7_placeOf 2 = .ok (.iload_n 2, 1) := by decide +kernel
theorem dX7_placeOf_3 : decode cX7_placeOf 3 = .ok (.aload_n 0, 1) := by decide +kernel
theorem dX7_placeOf_4 : decode cX7_placeOf 4 = .ok (.getfield 7, 3) := by decide +kernel
theorem dX7_placeOf_7 : decode cX7_placeOf 7 = .ok (.iconst 1, 1) := by decide +kernel
theorem dX7_placeOf_8 : decode cX7_placeOf 8 = .ok (.iaload, 1) := by decide +kernel
theorem dX7_placeOf_9 : decode cX7_placeOf 9 = .ok (.if_icmp .ge 21, 3) := by decide +kernel
theorem dX7_placeOf_12 : decode cX7_placeOf 12 = .ok (.aload_n 0, 1) := by decide +kernel
theorem dX7_placeOf_13 : decode cX7_placeOf 13 = .ok (.iload_n 2, 1) := by decide +kernel
theorem dX7_placeOf_14 : decode cX7_placeOf 14 = .ok (.iconst 0, 1) := by decide +kernel
theorem dX7_placeOf_15 : decode cX7_placeOf 15 = .ok (.invokevirtual 63, 3) := by decide +kernel
theorem dX7_placeOf_18 : decode cX7_placeOf 18 = .ok (.iload_n 1, 1) := by decide +kernel
theorem dX7_placeOf_19 : decode cX7_placeOf 19 = .ok (.if_icmp .ne 5, 3) := by decide +kernel
theorem dX7_placeOf_22 : decode cX7_placeOf 22 = .ok (.iload_n 2, 1) := by decide +kernel
theorem dX7_placeOf_23 : decode cX7_placeOf 23 = .ok (.ireturn, 1) := by decide +kernel
theorem dX7_placeOf_24 : decode cX7_placeOf 24 = .ok (.iinc 2 1, 3) := by decide +kernel
theorem dX7_placeOf_27 : decode cX7_placeOf 27 = .ok (.goto (-25), 3) := by decide +kernel
theorem dX7_placeOf_30 : decode cX7_placeOf 30 = .ok (.iconst (-1), 1) := by decide +kernel
theorem dX7_placeOf_31 : decode cX7_placeOf 31 = .ok (.ireturn, 1) := by decide +kernel
theorem dX7_isBay_0 : decode cX7_isBay 0 = .ok (.iload_n 0, 1) := by decide +kernel
theorem dX7_isBay_1 : decode cX7_isBay 1 = .ok (.iconst 0, 1) := by decide +kernel
theorem dX7_isBay_2 : decode cX7_isBay 2 = .ok (.bipush 23, 2) := by decide +kernel
theorem dX7_isBay_4 : decode cX7_isBay 4 = .ok (.invokestatic 67, 3) := by decide +kernel
theorem dX7_isBay_7 : decode cX7_isBay 7 = .ok (.ireturn, 1) := by decide +kernel
theorem dX7_isKind_0 : decode cX7_isKind 0 = .ok (.iload_n 0, 1) := by decide +kernel
theorem dX7_isKind_1 : decode cX7_isKind 1 = .ok (.bipush 97, 2) := by decide +kernel
theorem dX7_isKind_3 : decode cX7_isKind 3 = .ok (.bipush 101, 2) := by decide +kernel
theorem dX7_isKind_5 : decode cX7_isKind 5 = .ok (.invokestatic 67, 3) := by decide +kernel
theorem dX7_isKind_8 : decode cX7_isKind 8 = .ok (.ireturn, 1) := by decide +kernel
theorem dX7_inside_0 : decode cX7_inside 0 = .ok (.iconst 0, 1) := by decide +kernel
theorem dX7_inside_1 : decode cX7_inside 1 = .ok (.istore_n 2, 1) := by decide +kernel
theorem dX7_inside_2 : decode cX7_inside 2 = .ok (.iload_n 2, 1) := by decide +kernel
theorem dX7_inside_3 : decode cX7_inside 3 = .ok (.aload_n 0, 1) := by decide +kernel
theorem dX7_inside_4 : decode cX7_inside 4 = .ok (.getfield 7, 3) := by decide +kernel
theorem dX7_inside_7 : decode cX7_inside 7 = .ok (.iconst 1, 1) := by decide +kernel
theorem dX7_inside_8 : decode cX7_inside 8 = .ok (.iaload, 1) := by decide +kernel
theorem dX7_inside_9 : decode cX7_inside 9 = .ok (.if_icmp .ge 21, 3) := by decide +kernel
theorem dX7_inside_12 : decode cX7_inside 12 = .ok (.aload_n 0, 1) := by decide +kernel
theorem dX7_inside_13 : decode cX7_inside 13 = .ok (.iload_n 2, 1) := by decide +kernel
theorem dX7_inside_14 : decode cX7_inside 14 = .ok (.iconst 4, 1) := by decide +kernel
theorem dX7_inside_15 : decode cX7_inside 15 = .ok (.invokevirtual 63, 3) := by decide +kernel
theorem dX7_inside_18 : decode cX7_inside 18 = .ok (.iload_n 1, 1) := by decide +kernel
theorem dX7_inside_19 : decode cX7_inside 19 = .ok (.if_icmp .ne 5, 3) := by decide +kernel
theorem dX7_inside_22 : decode cX7_inside 22 = .ok (.iload_n 2, 1) := by decide +kernel
theorem dX7_inside_23 : decode cX7_inside 23 = .ok (.ireturn, 1) := by decide +kernel
theorem dX7_inside_24 : decode cX7_inside 24 = .ok (.iinc 2 1, 3) := by decide +kernel
theorem dX7_inside_27 : decode cX7_inside 27 = .ok (.goto (-25), 3) := by decide +kernel
theorem dX7_inside_30 : decode cX7_inside 30 = .ok (.iconst (-1), 1) := by decide +kernel
theorem dX7_inside_31 : decode cX7_inside 31 = .ok (.ireturn, 1) := by decide +kernel
theorem dX7_many_0 : decode cX7_many 0 = .ok (.iconst 0, 1) := by decide +kernel
theorem dX7_many_1 : decode cX7_many 1 = .ok (.istore_n 2, 1) := by decide +kernel
theorem dX7_many_2 : decode cX7_many 2 = .ok (.iconst 0, 1) := by decide +kernel
theorem dX7_many_3 : decode cX7_many 3 = .ok (.istore_n 3, 1) := by decide +kernel
theorem dX7_many_4 : decode cX7_many 4 = .ok (.iload_n 3, 1) := by decide +kernel
theorem dX7_many_5 : decode cX7_many 5 = .ok (.aload_n 0, 1) := by decide +kernel
theorem dX7_many_6 : decode cX7_many 6 = .ok (.getfield 7, 3) := by decide +kernel
theorem dX7_many_9 : decode cX7_many 9 = .ok (.iconst 1, 1) := by decide +kernel
theorem dX7_many_10 : decode cX7_many 10 = .ok (.iaload, 1) := by decide +kernel
theorem dX7_many_11 : decode cX7_many 11 = .ok (.if_icmp .ge 18, 3) := by decide +kernel
theorem dX7_many_14 : decode cX7_many 14 = .ok (.iload_n 2, 1) := by decide +kernel
theorem dX7_many_15 : decode cX7_many 15 = .ok (.aload_n 0, 1) := by decide +kernel
theorem dX7_many_16 : decode cX7_many 16 = .ok (.iload_n 3, 1) := by decide +kernel
theorem dX7_many_17 : decode cX7_many 17 = .ok (.iload_n 1, 1) := by decide +kernel
theorem dX7_many_18 : decode cX7_many 18 = .ok (.invokevirtual 63, 3) := by decide +kernel
theorem dX7_many_21 : decode cX7_many 21 = .ok (.iadd, 1) := by decide +kernel
theorem dX7_many_22 : decode cX7_many 22 = .ok (.istore_n 2, 1) := by decide +kernel
theorem dX7_many_23 : decode cX7_many 23 = .ok (.iinc 3 1, 3) := by decide +kernel
theorem dX7_many_26 : decode cX7_many 26 = .ok (.goto (-22), 3) := by decide +kernel
theorem dX7_many_29 : decode cX7_many 29 = .ok (.iload_n 2, 1) := by decide +kernel
theorem dX7_many_30 : decode cX7_many 30 = .ok (.ireturn, 1) := by decide +kernel
theorem dX7_worth_0 : decode cX7_worth 0 = .ok (.aload_n 0, 1) := by decide +kernel
theorem dX7_worth_1 : decode cX7_worth 1 = .ok (.iload_n 1, 1) := by decide +kernel
theorem dX7_worth_2 : decode cX7_worth 2 = .ok (.iconst 2, 1) := by decide +kernel
theorem dX7_worth_3 : decode cX7_worth 3 = .ok (.invokevirtual 63, 3) := by decide +kernel
theorem dX7_worth_6 : decode cX7_worth 6 = .ok (.aload_n 0, 1) := by decide +kernel
theorem dX7_worth_7 : decode cX7_worth 7 = .ok (.iload_n 1, 1) := by decide +kernel
theorem dX7_worth_8 : decode cX7_worth 8 = .ok (.iconst 3, 1) := by decide +kernel
theorem dX7_worth_9 : decode cX7_worth 9 = .ok (.invokevirtual 63, 3) := by decide +kernel
theorem dX7_worth_12 : decode cX7_worth 12 = .ok (.imul, 1) := by decide +kernel
theorem dX7_worth_13 : decode cX7_worth 13 = .ok (.ireturn, 1) := by decide +kernel
theorem dX7_charged_0 : decode cX7_charged 0 = .ok (.iconst 0, 1) := by decide +kernel
theorem dX7_charged_1 : decode cX7_charged 1 = .ok (.istore_n 2, 1) := by decide +kernel
theorem dX7_charged_2 : decode cX7_charged 2 = .ok (.iconst 0, 1) := by decide +kernel
theorem dX7_charged_3 : decode cX7_charged 3 = .ok (.istore_n 3, 1) := by decide +kernel
theorem dX7_charged_4 : decode cX7_charged 4 = .ok (.iload_n 3, 1) := by decide +kernel
theorem dX7_charged_5 : decode cX7_charged 5 = .ok (.aload_n 0, 1) := by decide +kernel
theorem dX7_charged_6 : decode cX7_charged 6 = .ok (.getfield 7, 3) := by decide +kernel
theorem dX7_charged_9 : decode cX7_charged 9 = .ok (.iconst 2, 1) := by decide +kernel
theorem dX7_charged_10 : decode cX7_charged 10 = .ok (.iaload, 1) := by decide +kernel
theorem dX7_charged_11 : decode cX7_charged 11 = .ok (.if_icmp .ge 103, 3) := by decide +kernel
theorem dX7_charged_14 : decode cX7_charged 14 = .ok (.aload_n 0, 1) := by decide +kernel
theorem dX7_charged_15 : decode cX7_charged 15 = .ok (.getfield 7, 3) := by decide +kernel
theorem dX7_charged_18 : decode cX7_charged 18 = .ok (.bipush 120, 2) := by decide +kernel
theorem dX7_charged_20 : decode cX7_charged 20 = .ok (.iconst 2, 1) := by decide +kernel
theorem dX7_charged_21 : decode cX7_charged 21 = .ok (.iload_n 3, 1) := by decide +kernel
theorem dX7_charged_22 : decode cX7_charged 22 = .ok (.imul, 1) := by decide +kernel
theorem dX7_charged_23 : decode cX7_charged 23 = .ok (.iadd, 1) := by decide +kernel
theorem dX7_charged_24 : decode cX7_charged 24 = .ok (.iaload, 1) := by decide +kernel
theorem dX7_charged_25 : decode cX7_charged 25 = .ok (.istore 4, 2) := by decide +kernel
theorem dX7_charged_27 : decode cX7_charged 27 = .ok (.iload_n 3, 1) := by decide +kernel
theorem dX7_charged_28 : decode cX7_charged 28 = .ok (.iconst 1, 1) := by decide +kernel
theorem dX7_charged_29 : decode cX7_charged 29 = .ok (.iadd, 1) := by decide +kernel
theorem dX7_charged_30 : decode cX7_charged 30 = .ok (.aload_n 0, 1) := by decide +kernel
theorem dX7_charged_31 : decode cX7_charged 31 = .ok (.getfield 7, 3) := by decide +kernel
theorem dX7_charged_34 : decode cX7_charged 34 = .ok (.iconst 2, 1) := by decide +kernel
theorem dX7_charged_35 : decode cX7_charged 35 = .ok (.iaload, 1) := by decide +kernel
theorem dX7_charged_36 : decode cX7_charged 36 = .ok (.if_icmp .ge 36, 3) := by decide +kernel
theorem dX7_charged_39 : decode cX7_charged 39 = .ok (.aload_n 0, 1) := by decide +kernel
theorem dX7_charged_40 : decode cX7_charged 40 = .ok (.getfield 7, 3) := by decide +kernel
theorem dX7_charged_43 : decode cX7_charged 43 = .ok (.bipush 120, 2) := by decide +kernel
theorem dX7_charged_45 : decode cX7_charged 45 = .ok (.iconst 2, 1) := by decide +kernel
theorem dX7_charged_46 : decode cX7_charged 46 = .ok (.iload_n 3, 1) := by decide +kernel
theorem dX7_charged_47 : decode cX7_charged 47 = .ok (.imul, 1) := by decide +kernel
theorem dX7_charged_48 : decode cX7_charged 48 = .ok (.iadd, 1) := by decide +kernel
theorem dX7_charged_49 : decode cX7_charged 49 = .ok (.iconst 2, 1) := by decide +kernel
theorem dX7_charged_50 : decode cX7_charged 50 = .ok (.iadd, 1) := by decide +kernel
theorem dX7_charged_51 : decode cX7_charged 51 = .ok (.iaload, 1) := by decide +kernel
theorem dX7_charged_52 : decode cX7_charged 52 = .ok (.iload_n 1, 1) := by decide +kernel
theorem dX7_charged_53 : decode cX7_charged 53 = .ok (.if_icmp .ge 19, 3) := by decide +kernel
theorem dX7_charged_56 : decode cX7_charged 56 = .ok (.aload_n 0, 1) := by decide +kernel
theorem dX7_charged_57 : decode cX7_charged 57 = .ok (.getfield 7, 3) := by decide +kernel
theorem dX7_charged_60 : decode cX7_charged 60 = .ok (.bipush 120, 2) := by decide +kernel
theorem dX7_charged_62 : decode cX7_charged 62 = .ok (.iconst 2, 1) := by decide +kernel
theorem dX7_charged_63 : decode cX7_charged 63 = .ok (.iload_n 3, 1) := by decide +kernel
theorem dX7_charged_64 : decode cX7_charged 64 = .ok (.imul, 1) := by decide +kernel
theorem dX7_charged_65 : decode cX7_charged 65 = .ok (.iadd, 1) := by decide +kernel
theorem dX7_charged_66 : decode cX7_charged 66 = .ok (.iconst 2, 1) := by decide +kernel
theorem dX7_charged_67 : decode cX7_charged 67 = .ok (.iadd, 1) := by decide +kernel
theorem dX7_charged_68 : decode cX7_charged 68 = .ok (.iaload, 1) := by decide +kernel
theorem dX7_charged_69 : decode cX7_charged 69 = .ok (.goto 4, 3) := by decide +kernel
theorem dX7_charged_72 : decode cX7_charged 72 = .ok (.iload_n 1, 1) := by decide +kernel
theorem dX7_charged_73 : decode cX7_charged 73 = .ok (.istore 5, 2) := by decide +kernel
theorem dX7_charged_75 : decode cX7_charged 75 = .ok (.iload_n 2, 1) := by decide +kernel
theorem dX7_charged_76 : decode cX7_charged 76 = .ok (.iload 5, 2) := by decide +kernel
theorem dX7_charged_78 : decode cX7_charged 78 = .ok (.iload 4, 2) := by decide +kernel
theorem dX7_charged_80 : decode cX7_charged 80 = .ok (.if_icmp .le 25, 3) := by decide +kernel
theorem dX7_charged_83 : decode cX7_charged 83 = .ok (.iload 5, 2) := by decide +kernel
theorem dX7_charged_85 : decode cX7_charged 85 = .ok (.iload 4, 2) := by decide +kernel
theorem dX7_charged_87 : decode cX7_charged 87 = .ok (.isub, 1) := by decide +kernel
theorem dX7_charged_88 : decode cX7_charged 88 = .ok (.aload_n 0, 1) := by decide +kernel
theorem dX7_charged_89 : decode cX7_charged 89 = .ok (.getfield 7, 3) := by decide +kernel
theorem dX7_charged_92 : decode cX7_charged 92 = .ok (.bipush 120, 2) := by decide +kernel
theorem dX7_charged_94 : decode cX7_charged 94 = .ok (.iconst 2, 1) := by decide +kernel
theorem dX7_charged_95 : decode cX7_charged 95 = .ok (.iload_n 3, 1) := by decide +kernel
theorem dX7_charged_96 : decode cX7_charged 96 = .ok (.imul, 1) := by decide +kernel
theorem dX7_charged_97 : decode cX7_charged 97 = .ok (.iadd, 1) := by decide +kernel
theorem dX7_charged_98 : decode cX7_charged 98 = .ok (.iconst 1, 1) := by decide +kernel
theorem dX7_charged_99 : decode cX7_charged 99 = .ok (.iadd, 1) := by decide +kernel
theorem dX7_charged_100 : decode cX7_charged 100 = .ok (.iaload, 1) := by decide +kernel
theorem dX7_charged_101 : decode cX7_charged 101 = .ok (.imul, 1) := by decide +kernel
theorem dX7_charged_102 : decode cX7_charged 102 = .ok (.goto 4, 3) := by decide +kernel
theorem dX7_charged_105 : decode cX7_charged 105 = .ok (.iconst 0, 1) := by decide +kernel
theorem dX7_charged_106 : decode cX7_charged 106 = .ok (.iadd, 1) := by decide +kernel
theorem dX7_charged_107 : decode cX7_charged 107 = .ok (.istore_n 2, 1) := by decide +kernel
theorem dX7_charged_108 : decode cX7_charged 108 = .ok (.iinc 3 1, 3) := by decide +kernel
theorem dX7_charged_111 : decode cX7_charged 111 = .ok (.goto (-107), 3) := by decide +kernel
theorem dX7_charged_114 : decode cX7_charged 114 = .ok (.iload_n 2, 1) := by decide +kernel
theorem dX7_charged_115 : decode cX7_charged 115 = .ok (.bipush 100, 2) := by decide +kernel
theorem dX7_charged_117 : decode cX7_charged 117 = .ok (.idiv, 1) := by decide +kernel
theorem dX7_charged_118 : decode cX7_charged 118 = .ok (.ireturn, 1) := by decide +kernel
theorem dX7_owed_0 : decode cX7_owed 0 = .ok (.aload_n 0, 1) := by decide +kernel
theorem dX7_owed_1 : decode cX7_owed 1 = .ok (.iload_n 1, 1) := by decide +kernel
theorem dX7_owed_2 : decode cX7_owed 2 = .ok (.iconst 5, 1) := by decide +kernel
theorem dX7_owed_3 : decode cX7_owed 3 = .ok (.invokevirtual 63, 3) := by decide +kernel
theorem dX7_owed_6 : decode cX7_owed 6 = .ok (.iconst 1, 1) := by decide +kernel
theorem dX7_owed_7 : decode cX7_owed 7 = .ok (.if_icmp .ne 7, 3) := by decide +kernel
theorem dX7_owed_10 : decode cX7_owed 10 = .ok (.iconst 0, 1) := by decide +kernel
theorem dX7_owed_11 : decode cX7_owed 11 = .ok (.goto 12, 3) := by decide +kernel
theorem dX7_owed_14 : decode cX7_owed 14 = .ok (.aload_n 0, 1) := by decide +kernel
theorem dX7_owed_15 : decode cX7_owed 15 = .ok (.aload_n 0, 1) := by decide +kernel
theorem dX7_owed_16 : decode cX7_owed 16 = .ok (.iload_n 1, 1) := by decide +kernel
theorem dX7_owed_17 : decode cX7_owed 17 = .ok (.invokevirtual 71, 3) := by decide +kernel
theorem dX7_owed_20 : decode cX7_owed 20 = .ok (.invokevirtual 74, 3) := by decide +kernel
theorem dX7_owed_23 : decode cX7_owed 23 = .ok (.ireturn, 1) := by decide +kernel
theorem dX7_waits_0 : decode cX7_waits 0 = .ok (.iconst 0, 1) := by decide +kernel
theorem dX7_waits_1 : decode cX7_waits 1 = .ok (.istore_n 2, 1) := by decide +kernel
theorem dX7_waits_2 : decode cX7_waits 2 = .ok (.iload_n 2, 1) := by decide +kernel
theorem dX7_waits_3 : decode cX7_waits 3 = .ok (.aload_n 0, 1) := by decide +kernel
theorem dX7_waits_4 : decode cX7_waits 4 = .ok (.getfield 7, 3) := by decide +kernel
theorem dX7_waits_7 : decode cX7_waits 7 = .ok (.bipush 7, 2) := by decide +kernel
theorem dX7_waits_9 : decode cX7_waits 9 = .ok (.iaload, 1) := by decide +kernel
theorem dX7_waits_10 : decode cX7_waits 10 = .ok (.if_icmp .ge 25, 3) := by decide +kernel
theorem dX7_waits_13 : decode cX7_waits 13 = .ok (.aload_n 0, 1) := by decide +kernel
theorem dX7_waits_14 : decode cX7_waits 14 = .ok (.getfield 7, 3) := by decide +kernel
theorem dX7_waits_17 : decode cX7_waits 17 = .ok (.sipush 132, 3) := by decide +kernel
theorem dX7_waits_20 : decode cX7_waits 20 = .ok (.iload_n 2, 1) := by decide +kernel
theorem dX7_waits_21 : decode cX7_waits 21 = .ok (.iadd, 1) := by decide +kernel
theorem dX7_waits_22 : decode cX7_waits 22 = .ok (.iaload, 1) := by decide +kernel
theorem dX7_waits_23 : decode cX7_waits 23 = .ok (.iload_n 1, 1) := by decide +kernel
theorem dX7_waits_24 : decode cX7_waits 24 = .ok (.if_icmp .ne 5, 3) := by decide +kernel
theorem dX7_waits_27 : decode cX7_waits 27 = .ok (.iload_n 2, 1) := by decide +kernel
theorem dX7_waits_28 : decode cX7_waits 28 = .ok (.ireturn, 1) := by decide +kernel
theorem dX7_waits_29 : decode cX7_waits 29 = .ok (.iinc 2 1, 3) := by decide +kernel
theorem dX7_waits_32 : decode cX7_waits 32 = .ok (.goto (-30), 3) := by decide +kernel
theorem dX7_waits_35 : decode cX7_waits 35 = .ok (.iconst (-1), 1) := by decide +kernel
theorem dX7_waits_36 : decode cX7_waits 36 = .ok (.ireturn, 1) := by decide +kernel
theorem dX7_unqueues_0 : decode cX7_unqueues 0 = .ok (.aload_n 0, 1) := by decide +kernel
theorem dX7_unqueues_1 : decode cX7_unqueues 1 = .ok (.getfield 7, 3) := by decide +kernel
theorem dX7_unqueues_4 : decode cX7_unqueues 4 = .ok (.bipush 7, 2) := by decide +kernel
theorem dX7_unqueues_6 : decode cX7_unqueues 6 = .ok (.dup2, 1) := by decide +kernel
theorem dX7_unqueues_7 : decode cX7_unqueues 7 = .ok (.iaload, 1) := by decide +kernel
theorem dX7_unqueues_8 : decode cX7_unqueues 8 = .ok (.iconst 1, 1) := by decide +kernel
theorem dX7_unqueues_9 : decode cX7_unqueues 9 = .ok (.isub, 1) := by decide +kernel
theorem dX7_unqueues_10 : decode cX7_unqueues 10 = .ok (.iastore, 1) := by decide +kernel
theorem dX7_unqueues_11 : decode cX7_unqueues 11 = .ok (.iload_n 1, 1) := by decide +kernel
theorem dX7_unqueues_12 : decode cX7_unqueues 12 = .ok (.istore_n 2, 1) := by decide +kernel
theorem dX7_unqueues_13 : decode cX7_unqueues 13 = .ok (.iload_n 2, 1) := by decide +kernel
theorem dX7_unqueues_14 : decode cX7_unqueues 14 = .ok (.aload_n 0, 1) := by decide +kernel
theorem dX7_unqueues_15 : decode cX7_unqueues 15 = .ok (.getfield 7, 3) := by decide +kernel
theorem dX7_unqueues_18 : decode cX7_unqueues 18 = .ok (.bipush 7, 2) := by decide +kernel
theorem dX7_unqueues_20 : decode cX7_unqueues 20 = .ok (.iaload, 1) := by decide +kernel
theorem dX7_unqueues_21 : decode cX7_unqueues 21 = .ok (.if_icmp .ge 31, 3) := by decide +kernel
theorem dX7_unqueues_24 : decode cX7_unqueues 24 = .ok (.aload_n 0, 1) := by decide +kernel
theorem dX7_unqueues_25 : decode cX7_unqueues 25 = .ok (.getfield 7, 3) := by decide +kernel
theorem dX7_unqueues_28 : decode cX7_unqueues 28 = .ok (.sipush 132, 3) := by decide +kernel
theorem dX7_unqueues_31 : decode cX7_unqueues 31 = .ok (.iload_n 2, 1) := by decide +kernel
theorem dX7_unqueues_32 : decode cX7_unqueues 32 = .ok (.iadd, 1) := by decide +kernel
theorem dX7_unqueues_33 : decode cX7_unqueues 33 = .ok (.aload_n 0, 1) := by decide +kernel
theorem dX7_unqueues_34 : decode cX7_unqueues 34 = .ok (.getfield 7, 3) := by decide +kernel
theorem dX7_unqueues_37 : decode cX7_unqueues 37 = .ok (.sipush 132, 3) := by decide +kernel
theorem dX7_unqueues_40 : decode cX7_unqueues 40 = .ok (.iload_n 2, 1) := by decide +kernel
theorem dX7_unqueues_41 : decode cX7_unqueues 41 = .ok (.iadd, 1) := by decide +kernel
theorem dX7_unqueues_42 : decode cX7_unqueues 42 = .ok (.iconst 1, 1) := by decide +kernel
theorem dX7_unqueues_43 : decode cX7_unqueues 43 = .ok (.iadd, 1) := by decide +kernel
theorem dX7_unqueues_44 : decode cX7_unqueues 44 = .ok (.iaload, 1) := by decide +kernel
theorem dX7_unqueues_45 : decode cX7_unqueues 45 = .ok (.iastore, 1) := by decide +kernel
theorem dX7_unqueues_46 : decode cX7_unqueues 46 = .ok (.iinc 2 1, 3) := by decide +kernel
theorem dX7_unqueues_49 : decode cX7_unqueues 49 = .ok (.goto (-36), 3) := by decide +kernel
theorem dX7_unqueues_52 : decode cX7_unqueues 52 = .ok (.aload_n 0, 1) := by decide +kernel
theorem dX7_unqueues_53 : decode cX7_unqueues 53 = .ok (.getfield 7, 3) := by decide +kernel
theorem dX7_unqueues_56 : decode cX7_unqueues 56 = .ok (.sipush 132, 3) := by decide +kernel
theorem dX7_unqueues_59 : decode cX7_unqueues 59 = .ok (.aload_n 0, 1) := by decide +kernel
theorem dX7_unqueues_60 : decode cX7_unqueues 60 = .ok (.getfield 7, 3) := by decide +kernel
theorem dX7_unqueues_63 : decode cX7_unqueues 63 = .ok (.bipush 7, 2) := by decide +kernel
theorem dX7_unqueues_65 : decode cX7_unqueues 65 = .ok (.iaload, 1) := by decide +kernel
theorem dX7_unqueues_66 : decode cX7_unqueues 66 = .ok (.iadd, 1) := by decide +kernel
theorem dX7_unqueues_67 : decode cX7_unqueues 67 = .ok (.iconst 0, 1) := by decide +kernel
theorem dX7_unqueues_68 : decode cX7_unqueues 68 = .ok (.iastore, 1) := by decide +kernel
theorem dX7_unqueues_69 : decode cX7_unqueues 69 = .ok (.return_, 1) := by decide +kernel
theorem dX7_leaves_0 : decode cX7_leaves 0 = .ok (.aload_n 0, 1) := by decide +kernel
theorem dX7_leaves_1 : decode cX7_leaves 1 = .ok (.aload_n 0, 1) := by decide +kernel
theorem dX7_leaves_2 : decode cX7_leaves 2 = .ok (.iload_n 1, 1) := by decide +kernel
theorem dX7_leaves_3 : decode cX7_leaves 3 = .ok (.iconst 0, 1) := by decide +kernel
theorem dX7_leaves_4 : decode cX7_leaves 4 = .ok (.invokevirtual 63, 3) := by decide +kernel
theorem dX7_leaves_7 : decode cX7_leaves 7 = .ok (.invokevirtual 77, 3) := by decide +kernel
theorem dX7_leaves_10 : decode cX7_leaves 10 = .ok (.istore_n 2, 1) := by decide +kernel
theorem dX7_leaves_11 : decode cX7_leaves 11 = .ok (.iload_n 2, 1) := by decide +kernel
theorem dX7_leaves_12 : decode cX7_leaves 12 = .ok (.iconst (-1), 1) := by decide +kernel
theorem dX7_leaves_13 : decode cX7_leaves 13 = .ok (.if_icmp .eq 8, 3) := by decide +kernel
theorem dX7_leaves_16 : decode cX7_leaves 16 = .ok (.aload_n 0, 1) := by decide +kernel
theorem dX7_leaves_17 : decode cX7_leaves 17 = .ok (.iload_n 2, 1) := by decide +kernel
theorem dX7_leaves_18 : decode cX7_leaves 18 = .ok (.invokevirtual 80, 3) := by decide +kernel
theorem dX7_leaves_21 : decode cX7_leaves 21 = .ok (.aload_n 0, 1) := by decide +kernel
theorem dX7_leaves_22 : decode cX7_leaves 22 = .ok (.getfield 7, 3) := by decide +kernel
theorem dX7_leaves_25 : decode cX7_leaves 25 = .ok (.iconst 1, 1) := by decide +kernel
theorem dX7_leaves_26 : decode cX7_leaves 26 = .ok (.iaload, 1) := by decide +kernel
theorem dX7_leaves_27 : decode cX7_leaves 27 = .ok (.iconst 1, 1) := by decide +kernel
theorem dX7_leaves_28 : decode cX7_leaves 28 = .ok (.isub, 1) := by decide +kernel
theorem dX7_leaves_29 : decode cX7_leaves 29 = .ok (.istore_n 3, 1) := by decide +kernel
theorem dX7_leaves_30 : decode cX7_leaves 30 = .ok (.bipush 7, 2) := by decide +kernel
theorem dX7_leaves_32 : decode cX7_leaves 32 = .ok (.iload_n 1, 1) := by decide +kernel
theorem dX7_leaves_33 : decode cX7_leaves 33 = .ok (.imul, 1) := by decide +kernel
theorem dX7_leaves_34 : decode cX7_leaves 34 = .ok (.istore 4, 2) := by decide +kernel
theorem dX7_leaves_36 : decode cX7_leaves 36 = .ok (.iload 4, 2) := by decide +kernel
theorem dX7_leaves_38 : decode cX7_leaves 38 = .ok (.bipush 7, 2) := by decide +kernel
theorem dX7_leaves_40 : decode cX7_leaves 40 = .ok (.iload_n 3, 1) := by decide +kernel
theorem dX7_leaves_41 : decode cX7_leaves 41 = .ok (.imul, 1) := by decide +kernel
theorem dX7_leaves_42 : decode cX7_leaves 42 = .ok (.if_icmp .ge 32, 3) := by decide +kernel
theorem dX7_leaves_45 : decode cX7_leaves 45 = .ok (.aload_n 0, 1) := by decide +kernel
theorem dX7_leaves_46 : decode cX7_leaves 46 = .ok (.getfield 7, 3) := by decide +kernel
theorem dX7_leaves_49 : decode cX7_leaves 49 = .ok (.bipush 8, 2) := by decide +kernel
theorem dX7_leaves_51 : decode cX7_leaves 51 = .ok (.iload 4, 2) := by decide +kernel
theorem dX7_leaves_53 : decode cX7_leaves 53 = .ok (.iadd, 1) := by decide +kernel
theorem dX7_leaves_54 : decode cX7_leaves 54 = .ok (.aload_n 0, 1) := by decide +kernel
theorem dX7_leaves_55 : decode cX7_leaves 55 = .ok (.getfield 7, 3) := by decide +kernel
theorem dX7_leaves_58 : decode cX7_leaves 58 = .ok (.bipush 8, 2) := by decide +kernel
theorem dX7_leaves_60 : decode cX7_leaves 60 = .ok (.iload 4, 2) := by decide +kernel
theorem dX7_leaves_62 : decode cX7_leaves 62 = .ok (.iadd, 1) := by decide +kernel
theorem dX7_leaves_63 : decode cX7_leaves 63 = .ok (.bipush 7, 2) := by decide +kernel
theorem dX7_leaves_65 : decode cX7_leaves 65 = .ok (.iadd, 1) := by decide +kernel
theorem dX7_leaves_66 : decode cX7_leaves 66 = .ok (.iaload, 1) := by decide +kernel
theorem dX7_leaves_67 : decode cX7_leaves 67 = .ok (.iastore, 1) := by decide +kernel
theorem dX7_leaves_68 : decode cX7_leaves 68 = .ok (.iinc 4 1, 3) := by decide +kernel
theorem dX7_leaves_71 : decode cX7_leaves 71 = .ok (.goto (-35), 3) := by decide +kernel
theorem dX7_leaves_74 : decode cX7_leaves 74 = .ok (.iconst 0, 1) := by decide +kernel
theorem dX7_leaves_75 : decode cX7_leaves 75 = .ok (.istore 4, 2) := by decide +kernel
theorem dX7_leaves_77 : decode cX7_leaves 77 = .ok (.iload 4, 2) := by decide +kernel
theorem dX7_leaves_79 : decode cX7_leaves 79 = .ok (.bipush 7, 2) := by decide +kernel
theorem dX7_leaves_81 : decode cX7_leaves 81 = .ok (.if_icmp .ge 25, 3) := by decide +kernel
theorem dX7_leaves_84 : decode cX7_leaves 84 = .ok (.aload_n 0, 1) := by decide +kernel
theorem dX7_leaves_85 : decode cX7_leaves 85 = .ok (.getfield 7, 3) := by decide +kernel
theorem dX7_leaves_88 : decode cX7_leaves 88 = .ok (.bipush 8, 2) := by decide +kernel
theorem dX7_leaves_90 : decode cX7_leaves 90 = .ok (.bipush 7, 2) := by decide +kernel
theorem dX7_leaves_92 : decode cX7_leaves 92 = .ok (.iload_n 3, 1) := by decide +kernel
theorem dX7_leaves_93 : decode cX7_leaves 93 = .ok (.imul, 1) := by decide +kernel
theorem dX7_leaves_94 : decode cX7_leaves 94 = .ok (.iadd, 1) := by decide +kernel
theorem dX7_leaves_95 : decode cX7_leaves 95 = .ok (.iload 4, 2) := by decide +kernel
theorem dX7_leaves_97 : decode cX7_leaves 97 = .ok (.iadd, 1) := by decide +kernel
theorem dX7_leaves_98 : decode cX7_leaves 98 = .ok (.iconst 0, 1) := by decide +kernel
theorem dX7_leaves_99 : decode cX7_leaves 99 = .ok (.iastore, 1) := by decide +kernel
theorem dX7_leaves_100 : decode cX7_leaves 100 = .ok (.iinc 4 1, 3) := by decide +kernel
theorem dX7_leaves_103 : decode cX7_leaves 103 = .ok (.goto (-26), 3) := by decide +kernel
theorem dX7_leaves_106 : decode cX7_leaves 106 = .ok (.aload_n 0, 1) := by decide +kernel
theorem dX7_leaves_107 : decode cX7_leaves 107 = .ok (.getfield 7, 3) := by decide +kernel
theorem dX7_leaves_110 : decode cX7_leaves 110 = .ok (.iconst 1, 1) := by decide +kernel
theorem dX7_leaves_111 : decode cX7_leaves 111 = .ok (.iload_n 3, 1) := by decide +kernel
theorem dX7_leaves_112 : decode cX7_leaves 112 = .ok (.iastore, 1) := by decide +kernel
theorem dX7_leaves_113 : decode cX7_leaves 113 = .ok (.return_, 1) := by decide +kernel
theorem dX7_adds_0 : decode cX7_adds 0 = .ok (.iload 4, 2) := by decide +kernel
theorem dX7_adds_2 : decode cX7_adds 2 = .ok (.invokestatic 84, 3) := by decide +kernel
theorem dX7_adds_5 : decode cX7_adds 5 = .ok (.ifCond .ne 5, 3) := by decide +kernel
theorem dX7_adds_8 : decode cX7_adds 8 = .ok (.iconst 1, 1) := by decide +kernel
theorem dX7_adds_9 : decode cX7_adds 9 = .ok (.ireturn, 1) := by decide +kernel
theorem dX7_adds_10 : decode cX7_adds 10 = .ok (.iload_n 1, 1) := by decide +kernel
theorem dX7_adds_11 : decode cX7_adds 11 = .ok (.invokestatic 88, 3) := by decide +kernel
theorem dX7_adds_14 : decode cX7_adds 14 = .ok (.ifCond .eq 23, 3) := by decide +kernel
theorem dX7_adds_17 : decode cX7_adds 17 = .ok (.iload_n 2, 1) := by decide +kernel
theorem dX7_adds_18 : decode cX7_adds 18 = .ok (.iconst 1, 1) := by decide +kernel
theorem dX7_adds_19 : decode cX7_adds 19 = .ok (.bipush 99, 2) := by decide +kernel
theorem dX7_adds_21 : decode cX7_adds 21 = .ok (.invokestatic 67, 3) := by decide +kernel
theorem dX7_adds_24 : decode cX7_adds 24 = .ok (.ifCond .eq 13, 3) := by decide +kernel
theorem dX7_adds_27 : decode cX7_adds 27 = .ok (.iload_n 3, 1) := by decide +kernel
theorem dX7_adds_28 : decode cX7_adds 28 = .ok (.iconst 1, 1) := by decide +kernel
theorem dX7_adds_29 : decode cX7_adds 29 = .ok (.bipush 99, 2) := by decide +kernel
theorem dX7_adds_31 : decode cX7_adds 31 = .ok (.invokestatic 67, 3) := by decide +kernel
theorem dX7_adds_34 : decode cX7_adds 34 = .ok (.ifCond .ne 5, 3) := by decide +kernel
theorem dX7_adds_37 : decode cX7_adds 37 = .ok (.iconst 2, 1) := by decide +kernel
theorem dX7_adds_38 : decode cX7_adds 38 = .ok (.ireturn, 1) := by decide +kernel
theorem dX7_adds_39 : decode cX7_adds 39 = .ok (.aload_n 0, 1) := by decide +kernel
theorem dX7_adds_40 : decode cX7_adds 40 = .ok (.getfield 7, 3) := by decide +kernel
theorem dX7_adds_43 : decode cX7_adds 43 = .ok (.iconst 1, 1) := by decide +kernel
theorem dX7_adds_44 : decode cX7_adds 44 = .ok (.iaload, 1) := by decide +kernel
theorem dX7_adds_45 : decode cX7_adds 45 = .ok (.istore 5, 2) := by decide +kernel
theorem dX7_adds_47 : decode cX7_adds 47 = .ok (.iload 5, 2) := by decide +kernel
theorem dX7_adds_49 : decode cX7_adds 49 = .ok (.bipush 16, 2) := by decide +kernel
theorem dX7_adds_51 : decode cX7_adds 51 = .ok (.if_icmp .ne 5, 3) := by decide +kernel
theorem dX7_adds_54 : decode cX7_adds 54 = .ok (.iconst 3, 1) := by decide +kernel
theorem dX7_adds_55 : decode cX7_adds 55 = .ok (.ireturn, 1) := by decide +kernel
theorem dX7_adds_56 : decode cX7_adds 56 = .ok (.aload_n 0, 1) := by decide +kernel
theorem dX7_adds_57 : decode cX7_adds 57 = .ok (.iload 4, 2) := by decide +kernel
theorem dX7_adds_59 : decode cX7_adds 59 = .ok (.invokevirtual 91, 3) := by decide +kernel
theorem dX7_adds_62 : decode cX7_adds 62 = .ok (.iconst (-1), 1) := by decide +kernel
theorem dX7_adds_63 : decode cX7_adds 63 = .ok (.if_icmp .eq 5, 3) := by decide +kernel
theorem dX7_adds_66 : decode cX7_adds 66 = .ok (.iconst 4, 1) := by decide +kernel
theorem dX7_adds_67 : decode cX7_adds 67 = .ok (.ireturn, 1) := by decide +kernel
theorem dX7_adds_68 : decode cX7_adds 68 = .ok (.aload_n 0, 1) := by decide +kernel
theorem dX7_adds_69 : decode cX7_adds 69 = .ok (.iload 5, 2) := by decide +kernel
theorem dX7_adds_71 : decode cX7_adds 71 = .ok (.iconst 0, 1) := by decide +kernel
theorem dX7_adds_72 : decode cX7_adds 72 = .ok (.aload_n 0, 1) := by decide +kernel
theorem dX7_adds_73 : decode cX7_adds 73 = .ok (.getfield 7, 3) := by decide +kernel
theorem dX7_adds_76 : decode cX7_adds 76 = .ok (.iconst 0, 1) := by decide +kernel
theorem dX7_adds_77 : decode cX7_adds 77 = .ok (.iaload, 1) := by decide +kernel
theorem dX7_adds_78 : decode cX7_adds 78 = .ok (.invokevirtual 94, 3) := by decide +kernel
theorem dX7_adds_81 : decode cX7_adds 81 = .ok (.aload_n 0, 1) := by decide +kernel
theorem dX7_adds_82 : decode cX7_adds 82 = .ok (.iload 5, 2) := by decide +kernel
theorem dX7_adds_84 : decode cX7_adds 84 = .ok (.iconst 1, 1) := by decide +kernel
theorem dX7_adds_85 : decode cX7_adds 85 = .ok (.iload_n 1, 1) := by decide +kernel
theorem dX7_adds_86 : decode cX7_adds 86 = .ok (.invokevirtual 94, 3) := by decide +kernel
theorem dX7_adds_89 : decode cX7_adds 89 = .ok (.aload_n 0, 1) := by decide +kernel
theorem dX7_adds_90 : decode cX7_adds 90 = .ok (.iload 5, 2) := by decide +kernel
theorem dX7_adds_92 : decode cX7_adds 92 = .ok (.iconst 2, 1) := by decide +kernel
theorem dX7_adds_93 : decode cX7_adds 93 = .ok (.iload_n 2, 1) := by decide +kernel
theorem dX7_adds_94 : decode cX7_adds 94 = .ok (.invokevirtual 94, 3) := by decide +kernel
theorem dX7_adds_97 : decode cX7_adds 97 = .ok (.aload_n 0, 1) := by decide +kernel
theorem dX7_adds_98 : decode cX7_adds 98 = .ok (.iload 5, 2) := by decide +kernel
theorem dX7_adds_100 : decode cX7_adds 100 = .ok (.iconst 3, 1) := by decide +kernel
theorem dX7_adds_101 : decode cX7_adds 101 = .ok (.iload_n 3, 1) := by decide +kernel
theorem dX7_adds_102 : decode cX7_adds 102 = .ok (.invokevirtual 94, 3) := by decide +kernel
theorem dX7_adds_105 : decode cX7_adds 105 = .ok (.aload_n 0, 1) := by decide +kernel
theorem dX7_adds_106 : decode cX7_adds 106 = .ok (.iload 5, 2) := by decide +kernel
theorem dX7_adds_108 : decode cX7_adds 108 = .ok (.iconst 4, 1) := by decide +kernel
theorem dX7_adds_109 : decode cX7_adds 109 = .ok (.iload 4, 2) := by decide +kernel
theorem dX7_adds_111 : decode cX7_adds 111 = .ok (.invokevirtual 94, 3) := by decide +kernel
theorem dX7_adds_114 : decode cX7_adds 114 = .ok (.aload_n 0, 1) := by decide +kernel
theorem dX7_adds_115 : decode cX7_adds 115 = .ok (.iload 5, 2) := by decide +kernel
theorem dX7_adds_117 : decode cX7_adds 117 = .ok (.iconst 5, 1) := by decide +kernel
theorem dX7_adds_118 : decode cX7_adds 118 = .ok (.iconst 1, 1) := by decide +kernel
theorem dX7_adds_119 : decode cX7_adds 119 = .ok (.invokevirtual 94, 3) := by decide +kernel
theorem dX7_adds_122 : decode cX7_adds 122 = .ok (.aload_n 0, 1) := by decide +kernel
theorem dX7_adds_123 : decode cX7_adds 123 = .ok (.iload 5, 2) := by decide +kernel
theorem dX7_adds_125 : decode cX7_adds 125 = .ok (.bipush 6, 2) := by decide +kernel
theorem dX7_adds_127 : decode cX7_adds 127 = .ok (.iconst 0, 1) := by decide +kernel
theorem dX7_adds_128 : decode cX7_adds 128 = .ok (.invokevirtual 94, 3) := by decide +kernel
theorem dX7_adds_131 : decode cX7_adds 131 = .ok (.aload_n 0, 1) := by decide +kernel
theorem dX7_adds_132 : decode cX7_adds 132 = .ok (.getfield 7, 3) := by decide +kernel
theorem dX7_adds_135 : decode cX7_adds 135 = .ok (.iconst 1, 1) := by decide +kernel
theorem dX7_adds_136 : decode cX7_adds 136 = .ok (.iload 5, 2) := by decide +kernel
theorem dX7_adds_138 : decode cX7_adds 138 = .ok (.iconst 1, 1) := by decide +kernel
theorem dX7_adds_139 : decode cX7_adds 139 = .ok (.iadd, 1) := by decide +kernel
theorem dX7_adds_140 : decode cX7_adds 140 = .ok (.iastore, 1) := by decide +kernel
theorem dX7_adds_141 : decode cX7_adds 141 = .ok (.aload_n 0, 1) := by decide +kernel
theorem dX7_adds_142 : decode cX7_adds 142 = .ok (.getfield 7, 3) := by decide +kernel
theorem dX7_adds_145 : decode cX7_adds 145 = .ok (.iconst 0, 1) := by decide +kernel
theorem dX7_adds_146 : decode cX7_adds 146 = .ok (.dup2, 1) := by decide +kernel
theorem dX7_adds_147 : decode cX7_adds 147 = .ok (.iaload, 1) := by decide +kernel
theorem dX7_adds_148 : decode cX7_adds 148 = .ok (.iconst 1, 1) := by decide +kernel
theorem dX7_adds_149 : decode cX7_adds 149 = .ok (.iadd, 1) := by decide +kernel
theorem dX7_adds_150 : decode cX7_adds 150 = .ok (.iastore, 1) := by decide +kernel
theorem dX7_adds_151 : decode cX7_adds 151 = .ok (.aload_n 0, 1) := by decide +kernel
theorem dX7_adds_152 : decode cX7_adds 152 = .ok (.aload_n 0, 1) := by decide +kernel
theorem dX7_adds_153 : decode cX7_adds 153 = .ok (.getfield 7, 3) := by decide +kernel
theorem dX7_adds_156 : decode cX7_adds 156 = .ok (.iconst 0, 1) := by decide +kernel
theorem dX7_adds_157 : decode cX7_adds 157 = .ok (.iaload, 1) := by decide +kernel
theorem dX7_adds_158 : decode cX7_adds 158 = .ok (.iconst 1, 1) := by decide +kernel
theorem dX7_adds_159 : decode cX7_adds 159 = .ok (.isub, 1) := by decide +kernel
theorem dX7_adds_160 : decode cX7_adds 160 = .ok (.invokevirtual 98, 3) := by decide +kernel
theorem dX7_adds_163 : decode cX7_adds 163 = .ok (.ireturn, 1) := by decide +kernel
theorem dX7_seals_0 : decode cX7_seals 0 = .ok (.aload_n 0, 1) := by decide +kernel
theorem dX7_seals_1 : decode cX7_seals 1 = .ok (.iload_n 1, 1) := by decide +kernel
theorem dX7_seals_2 : decode cX7_seals 2 = .ok (.invokevirtual 101, 3) := by decide +kernel
theorem dX7_seals_5 : decode cX7_seals 5 = .ok (.istore_n 2, 1) := by decide +kernel
theorem dX7_seals_6 : decode cX7_seals 6 = .ok (.iload_n 2, 1) := by decide +kernel
theorem dX7_seals_7 : decode cX7_seals 7 = .ok (.iconst (-1), 1) := by decide +kernel
theorem dX7_seals_8 : decode cX7_seals 8 = .ok (.if_icmp .ne 5, 3) := by decide +kernel
theorem dX7_seals_11 : decode cX7_seals 11 = .ok (.iconst 1, 1) := by decide +kernel
theorem dX7_seals_12 : decode cX7_seals 12 = .ok (.ireturn, 1) := by decide +kernel
theorem dX7_seals_13 : decode cX7_seals 13 = .ok (.aload_n 0, 1) := by decide +kernel
theorem dX7_seals_14 : decode cX7_seals 14 = .ok (.iload_n 2, 1) := by decide +kernel
theorem dX7_seals_15 : decode cX7_seals 15 = .ok (.iconst 5, 1) := by decide +kernel
theorem dX7_seals_16 : decode cX7_seals 16 = .ok (.invokevirtual 63, 3) := by decide +kernel
theorem dX7_seals_19 : decode cX7_seals 19 = .ok (.iconst 1, 1) := by decide +kernel
theorem dX7_seals_20 : decode cX7_seals 20 = .ok (.if_icmp .ne 5, 3) := by decide +kernel
theorem dX7_seals_23 : decode cX7_seals 23 = .ok (.iconst 2, 1) := by decide +kernel
theorem dX7_seals_24 : decode cX7_seals 24 = .ok (.ireturn, 1) := by decide +kernel
theorem dX7_seals_25 : decode cX7_seals 25 = .ok (.aload_n 0, 1) := by decide +kernel
theorem dX7_seals_26 : decode cX7_seals 26 = .ok (.iload_n 2, 1) := by decide +kernel
theorem dX7_seals_27 : decode cX7_seals 27 = .ok (.bipush 6, 2) := by decide +kernel
theorem dX7_seals_29 : decode cX7_seals 29 = .ok (.invokevirtual 63, 3) := by decide +kernel
theorem dX7_seals_32 : decode cX7_seals 32 = .ok (.iconst 1, 1) := by decide +kernel
theorem dX7_seals_33 : decode cX7_seals 33 = .ok (.if_icmp .ne 5, 3) := by decide +kernel
theorem dX7_seals_36 : decode cX7_seals 36 = .ok (.iconst 3, 1) := by decide +kernel
theorem dX7_seals_37 : decode cX7_seals 37 = .ok (.ireturn, 1) := by decide +kernel
theorem dX7_seals_38 : decode cX7_seals 38 = .ok (.aload_n 0, 1) := by decide +kernel
theorem dX7_seals_39 : decode cX7_seals 39 = .ok (.iload_n 2, 1) := by decide +kernel
theorem dX7_seals_40 : decode cX7_seals 40 = .ok (.iconst 5, 1) := by decide +kernel
theorem dX7_seals_41 : decode cX7_seals 41 = .ok (.iconst 1, 1) := by decide +kernel
theorem dX7_seals_42 : decode cX7_seals 42 = .ok (.invokevirtual 94, 3) := by decide +kernel
theorem dX7_seals_45 : decode cX7_seals 45 = .ok (.aload_n 0, 1) := by decide +kernel
theorem dX7_seals_46 : decode cX7_seals 46 = .ok (.aload_n 0, 1) := by decide +kernel
theorem dX7_seals_47 : decode cX7_seals 47 = .ok (.iconst 5, 1) := by decide +kernel
theorem dX7_seals_48 : decode cX7_seals 48 = .ok (.invokevirtual 104, 3) := by decide +kernel
theorem dX7_seals_51 : decode cX7_seals 51 = .ok (.invokevirtual 98, 3) := by decide +kernel
theorem dX7_seals_54 : decode cX7_seals 54 = .ok (.ireturn, 1) := by decide +kernel
theorem dX7_opens_0 : decode cX7_opens 0 = .ok (.aload_n 0, 1) := by decide +kernel
theorem dX7_opens_1 : decode cX7_opens 1 = .ok (.iload_n 1, 1) := by decide +kernel
theorem dX7_opens_2 : decode cX7_opens 2 = .ok (.invokevirtual 101, 3) := by decide +kernel
theorem dX7_opens_5 : decode cX7_opens 5 = .ok (.istore_n 2, 1) := by decide +kernel
theorem dX7_opens_6 : decode cX7_opens 6 = .ok (.iload_n 2, 1) := by decide +kernel
theorem dX7_opens_7 : decode cX7_opens 7 = .ok (.iconst (-1), 1) := by decide +kernel
theorem dX7_opens_8 : decode cX7_opens 8 = .ok (.if_icmp .ne 5, 3) := by decide +kernel
theorem dX7_opens_11 : decode cX7_opens 11 = .ok (.iconst 1, 1) := by decide +kernel
theorem dX7_opens_12 : decode cX7_opens 12 = .ok (.ireturn, 1) := by decide +kernel
theorem dX7_opens_13 : decode cX7_opens 13 = .ok (.aload_n 0, 1) := by decide +kernel
theorem dX7_opens_14 : decode cX7_opens 14 = .ok (.iload_n 2, 1) := by decide +kernel
theorem dX7_opens_15 : decode cX7_opens 15 = .ok (.iconst 5, 1) := by decide +kernel
theorem dX7_opens_16 : decode cX7_opens 16 = .ok (.invokevirtual 63, 3) := by decide +kernel
theorem dX7_opens_19 : decode cX7_opens 19 = .ok (.ifCond .ne 5, 3) := by decide +kernel
theorem dX7_opens_22 : decode cX7_opens 22 = .ok (.iconst 2, 1) := by decide +kernel
theorem dX7_opens_23 : decode cX7_opens 23 = .ok (.ireturn, 1) := by decide +kernel
theorem dX7_opens_24 : decode cX7_opens 24 = .ok (.aload_n 0, 1) := by decide +kernel
theorem dX7_opens_25 : decode cX7_opens 25 = .ok (.iload_n 2, 1) := by decide +kernel
theorem dX7_opens_26 : decode cX7_opens 26 = .ok (.iconst 5, 1) := by decide +kernel
theorem dX7_opens_27 : decode cX7_opens 27 = .ok (.iconst 0, 1) := by decide +kernel
theorem dX7_opens_28 : decode cX7_opens 28 = .ok (.invokevirtual 94, 3) := by decide +kernel
theorem dX7_opens_31 : decode cX7_opens 31 = .ok (.aload_n 0, 1) := by decide +kernel
theorem dX7_opens_32 : decode cX7_opens 32 = .ok (.aload_n 0, 1) := by decide +kernel
theorem dX7_opens_33 : decode cX7_opens 33 = .ok (.iconst 5, 1) := by decide +kernel
theorem dX7_opens_34 : decode cX7_opens 34 = .ok (.invokevirtual 104, 3) := by decide +kernel
theorem dX7_opens_37 : decode cX7_opens 37 = .ok (.invokevirtual 98, 3) := by decide +kernel
theorem dX7_opens_40 : decode cX7_opens 40 = .ok (.ireturn, 1) := by decide +kernel
theorem dX7_wets_0 : decode cX7_wets 0 = .ok (.aload_n 0, 1) := by decide +kernel
theorem dX7_wets_1 : decode cX7_wets 1 = .ok (.iload_n 1, 1) := by decide +kernel
theorem dX7_wets_2 : decode cX7_wets 2 = .ok (.invokevirtual 101, 3) := by decide +kernel
theorem dX7_wets_5 : decode cX7_wets 5 = .ok (.istore_n 2, 1) := by decide +kernel
theorem dX7_wets_6 : decode cX7_wets 6 = .ok (.iload_n 2, 1) := by decide +kernel
theorem dX7_wets_7 : decode cX7_wets 7 = .ok (.iconst (-1), 1) := by decide +kernel
theorem dX7_wets_8 : decode cX7_wets 8 = .ok (.if_icmp .ne 5, 3) := by decide +kernel
theorem dX7_wets_11 : decode cX7_wets 11 = .ok (.iconst 1, 1) := by decide +kernel
theorem dX7_wets_12 : decode cX7_wets 12 = .ok (.ireturn, 1) := by decide +kernel
theorem dX7_wets_13 : decode cX7_wets 13 = .ok (.aload_n 0, 1) := by decide +kernel
theorem dX7_wets_14 : decode cX7_wets 14 = .ok (.iload_n 2, 1) := by decide +kernel
theorem dX7_wets_15 : decode cX7_wets 15 = .ok (.iconst 5, 1) := by decide +kernel
theorem dX7_wets_16 : decode cX7_wets 16 = .ok (.invokevirtual 63, 3) := by decide +kernel
theorem dX7_wets_19 : decode cX7_wets 19 = .ok (.iconst 1, 1) := by decide +kernel
theorem dX7_wets_20 : decode cX7_wets 20 = .ok (.if_icmp .eq 14, 3) := by decide +kernel
theorem dX7_wets_23 : decode cX7_wets 23 = .ok (.aload_n 0, 1) := by decide +kernel
theorem dX7_wets_24 : decode cX7_wets 24 = .ok (.iload_n 2, 1) := by decide +kernel
theorem dX7_wets_25 : decode cX7_wets 25 = .ok (.bipush 6, 2) := by decide +kernel
theorem dX7_wets_27 : decode cX7_wets 27 = .ok (.invokevirtual 63, 3) := by decide +kernel
theorem dX7_wets_30 : decode cX7_wets 30 = .ok (.iconst 1, 1) := by decide +kernel
theorem dX7_wets_31 : decode cX7_wets 31 = .ok (.if_icmp .ne 5, 3) := by decide +kernel
theorem dX7_wets_34 : decode cX7_wets 34 = .ok (.iconst 2, 1) := by decide +kernel
theorem dX7_wets_35 : decode cX7_wets 35 = .ok (.ireturn, 1) := by decide +kernel
theorem dX7_wets_36 : decode cX7_wets 36 = .ok (.aload_n 0, 1) := by decide +kernel
theorem dX7_wets_37 : decode cX7_wets 37 = .ok (.iload_n 2, 1) := by decide +kernel
theorem dX7_wets_38 : decode cX7_wets 38 = .ok (.bipush 6, 2) := by decide +kernel
theorem dX7_wets_40 : decode cX7_wets 40 = .ok (.iconst 1, 1) := by decide +kernel
theorem dX7_wets_41 : decode cX7_wets 41 = .ok (.invokevirtual 94, 3) := by decide +kernel
theorem dX7_wets_44 : decode cX7_wets 44 = .ok (.aload_n 0, 1) := by decide +kernel
theorem dX7_wets_45 : decode cX7_wets 45 = .ok (.aload_n 0, 1) := by decide +kernel
theorem dX7_wets_46 : decode cX7_wets 46 = .ok (.bipush 6, 2) := by decide +kernel
theorem dX7_wets_48 : decode cX7_wets 48 = .ok (.invokevirtual 104, 3) := by decide +kernel
theorem dX7_wets_51 : decode cX7_wets 51 = .ok (.invokevirtual 98, 3) := by decide +kernel
theorem dX7_wets_54 : decode cX7_wets 54 = .ok (.ireturn, 1) := by decide +kernel
theorem dX7_moves_0 : decode cX7_moves 0 = .ok (.aload_n 0, 1) := by decide +kernel
theorem dX7_moves_1 : decode cX7_moves 1 = .ok (.iload_n 1, 1) := by decide +kernel
theorem dX7_moves_2 : decode cX7_moves 2 = .ok (.invokevirtual 101, 3) := by decide +kernel
theorem dX7_moves_5 : decode cX7_moves 5 = .ok (.istore_n 3, 1) := by decide +kernel
theorem dX7_moves_6 : decode cX7_moves 6 = .ok (.iload_n 3, 1) := by decide +kernel
theorem dX7_moves_7 : decode cX7_moves 7 = .ok (.iconst (-1), 1) := by decide +kernel
theorem dX7_moves_8 : decode cX7_moves 8 = .ok (.if_icmp .ne 5, 3) := by decide +kernel
theorem dX7_moves_11 : decode cX7_moves 11 = .ok (.iconst 1, 1) := by decide +kernel
theorem dX7_moves_12 : decode cX7_moves 12 = .ok (.ireturn, 1) := by decide +kernel
theorem dX7_moves_13 : decode cX7_moves 13 = .ok (.iload_n 2, 1) := by decide +kernel
theorem dX7_moves_14 : decode cX7_moves 14 = .ok (.invokestatic 84, 3) := by decide +kernel
theorem dX7_moves_17 : decode cX7_moves 17 = .ok (.ifCond .ne 5, 3) := by decide +kernel
theorem dX7_moves_20 : decode cX7_moves 20 = .ok (.iconst 2, 1) := by decide +kernel
theorem dX7_moves_21 : decode cX7_moves 21 = .ok (.ireturn, 1) := by decide +kernel
theorem dX7_moves_22 : decode cX7_moves 22 = .ok (.aload_n 0, 1) := by decide +kernel
theorem dX7_moves_23 : decode cX7_moves 23 = .ok (.iload_n 2, 1) := by decide +kernel
theorem dX7_moves_24 : decode cX7_moves 24 = .ok (.invokevirtual 91, 3) := by decide +kernel
theorem dX7_moves_27 : decode cX7_moves 27 = .ok (.iconst (-1), 1) := by decide +kernel
theorem dX7_moves_28 : decode cX7_moves 28 = .ok (.if_icmp .eq 5, 3) := by decide +kernel
theorem dX7_moves_31 : decode cX7_moves 31 = .ok (.iconst 3, 1) := by decide +kernel
theorem dX7_moves_32 : decode cX7_moves 32 = .ok (.ireturn, 1) := by decide +kernel
theorem dX7_moves_33 : decode cX7_moves 33 = .ok (.aload_n 0, 1) := by decide +kernel
theorem dX7_moves_34 : decode cX7_moves 34 = .ok (.iload_n 3, 1) := by decide +kernel
theorem dX7_moves_35 : decode cX7_moves 35 = .ok (.iconst 4, 1) := by decide +kernel
theorem dX7_moves_36 : decode cX7_moves 36 = .ok (.invokevirtual 63, 3) := by decide +kernel
theorem dX7_moves_39 : decode cX7_moves 39 = .ok (.istore 4, 2) := by decide +kernel
theorem dX7_moves_41 : decode cX7_moves 41 = .ok (.aload_n 0, 1) := by decide +kernel
theorem dX7_moves_42 : decode cX7_moves 42 = .ok (.iload_n 3, 1) := by decide +kernel
theorem dX7_moves_43 : decode cX7_moves 43 = .ok (.iconst 4, 1) := by decide +kernel
theorem dX7_moves_44 : decode cX7_moves 44 = .ok (.iload_n 2, 1) := by decide +kernel
theorem dX7_moves_45 : decode cX7_moves 45 = .ok (.invokevirtual 94, 3) := by decide +kernel
theorem dX7_moves_48 : decode cX7_moves 48 = .ok (.aload_n 0, 1) := by decide +kernel
theorem dX7_moves_49 : decode cX7_moves 49 = .ok (.iload 4, 2) := by decide +kernel
theorem dX7_moves_51 : decode cX7_moves 51 = .ok (.invokevirtual 98, 3) := by decide +kernel
theorem dX7_moves_54 : decode cX7_moves 54 = .ok (.ireturn, 1) := by decide +kernel
theorem dX7_addsStep_0 : decode cX7_addsStep 0 = .ok (.iload_n 1, 1) := by decide +kernel
theorem dX7_addsStep_1 : decode cX7_addsStep 1 = .ok (.iconst 0, 1) := by decide +kernel
theorem dX7_addsStep_2 : decode cX7_addsStep 2 = .ok (.sipush 9999, 3) := by decide +kernel
theorem dX7_addsStep_5 : decode cX7_addsStep 5 = .ok (.invokestatic 67, 3) := by decide +kernel
theorem dX7_addsStep_8 : decode cX7_addsStep 8 = .ok (.ifCond .eq 13, 3) := by decide +kernel
theorem dX7_addsStep_11 : decode cX7_addsStep 11 = .ok (.iload_n 2, 1) := by decide +kernel
theorem dX7_addsStep_12 : decode cX7_addsStep 12 = .ok (.iconst 0, 1) := by decide +kernel
theorem dX7_addsStep_13 : decode cX7_addsStep 13 = .ok (.bipush 100, 2) := by decide +kernel
theorem dX7_addsStep_15 : decode cX7_addsStep 15 = .ok (.invokestatic 67, 3) := by decide +kernel
theorem dX7_addsStep_18 : decode cX7_addsStep 18 = .ok (.ifCond .ne 5, 3) := by decide +kernel
theorem dX7_addsStep_21 : decode cX7_addsStep 21 = .ok (.iconst 1, 1) := by decide +kernel
theorem dX7_addsStep_22 : decode cX7_addsStep 22 = .ok (.ireturn, 1) := by decide +kernel
theorem dX7_addsStep_23 : decode cX7_addsStep 23 = .ok (.aload_n 0, 1) := by decide +kernel
theorem dX7_addsStep_24 : decode cX7_addsStep 24 = .ok (.getfield 7, 3) := by decide +kernel
theorem dX7_addsStep_27 : decode cX7_addsStep 27 = .ok (.iconst 2, 1) := by decide +kernel
theorem dX7_addsStep_28 : decode cX7_addsStep 28 = .ok (.iaload, 1) := by decide +kernel
theorem dX7_addsStep_29 : decode cX7_addsStep 29 = .ok (.istore_n 3, 1) := by decide +kernel
theorem dX7_addsStep_30 : decode cX7_addsStep 30 = .ok (.iconst 0, 1) := by decide +kernel
theorem dX7_addsStep_31 : decode cX7_addsStep 31 = .ok (.istore 4, 2) := by decide +kernel
theorem dX7_addsStep_33 : decode cX7_addsStep 33 = .ok (.iload 4, 2) := by decide +kernel
theorem dX7_addsStep_35 : decode cX7_addsStep 35 = .ok (.iload_n 3, 1) := by decide +kernel
theorem dX7_addsStep_36 : decode cX7_addsStep 36 = .ok (.if_icmp .ge 27, 3) := by decide +kernel
theorem dX7_addsStep_39 : decode cX7_addsStep 39 = .ok (.aload_n 0, 1) := by decide +kernel
theorem dX7_addsStep_40 : decode cX7_addsStep 40 = .ok (.getfield 7, 3) := by decide +kernel
theorem dX7_addsStep_43 : decode cX7_addsStep 43 = .ok (.bipush 120, 2) := by decide +kernel
theorem dX7_addsStep_45 : decode cX7_addsStep 45 = .ok (.iconst 2, 1) := by decide +kernel
theorem dX7_addsStep_46 : decode cX7_addsStep 46 = .ok (.iload 4, 2) := by decide +kernel
theorem dX7_addsStep_48 : decode cX7_addsStep 48 = .ok (.imul, 1) := by decide +kernel
theorem dX7_addsStep_49 : decode cX7_addsStep 49 = .ok (.iadd, 1) := by decide +kernel
theorem dX7_addsStep_50 : decode cX7_addsStep 50 = .ok (.iaload, 1) := by decide +kernel
theorem dX7_addsStep_51 : decode cX7_addsStep 51 = .ok (.iload_n 1, 1) := by decide +kernel
theorem dX7_addsStep_52 : decode cX7_addsStep 52 = .ok (.if_icmp .ne 5, 3) := by decide +kernel
theorem dX7_addsStep_55 : decode cX7_addsStep 55 = .ok (.iconst 2, 1) := by decide +kernel
theorem dX7_addsStep_56 : decode cX7_addsStep 56 = .ok (.ireturn, 1) := by decide +kernel
theorem dX7_addsStep_57 : decode cX7_addsStep 57 = .ok (.iinc 4 1, 3) := by decide +kernel
theorem dX7_addsStep_60 : decode cX7_addsStep 60 = .ok (.goto (-27), 3) := by decide +kernel
theorem dX7_addsStep_63 : decode cX7_addsStep 63 = .ok (.iload_n 3, 1) := by decide +kernel
theorem dX7_addsStep_64 : decode cX7_addsStep 64 = .ok (.bipush 6, 2) := by decide +kernel
theorem dX7_addsStep_66 : decode cX7_addsStep 66 = .ok (.if_icmp .ne 5, 3) := by decide +kernel
theorem dX7_addsStep_69 : decode cX7_addsStep 69 = .ok (.iconst 3, 1) := by decide +kernel
theorem dX7_addsStep_70 : decode cX7_addsStep 70 = .ok (.ireturn, 1) := by decide +kernel
theorem dX7_addsStep_71 : decode cX7_addsStep 71 = .ok (.iload_n 3, 1) := by decide +kernel
theorem dX7_addsStep_72 : decode cX7_addsStep 72 = .ok (.ifCond .le 76, 3) := by decide +kernel
theorem dX7_addsStep_75 : decode cX7_addsStep 75 = .ok (.aload_n 0, 1) := by decide +kernel
theorem dX7_addsStep_76 : decode cX7_addsStep 76 = .ok (.getfield 7, 3) := by decide +kernel
theorem dX7_addsStep_79 : decode cX7_addsStep 79 = .ok (.bipush 120, 2) := by decide +kernel
theorem dX7_addsStep_81 : decode cX7_addsStep 81 = .ok (.iconst 2, 1) := by decide +kernel
theorem dX7_addsStep_82 : decode cX7_addsStep 82 = .ok (.iload_n 3, 1) := by decide +kernel
theorem dX7_addsStep_83 : decode cX7_addsStep 83 = .ok (.imul, 1) := by decide +kernel
theorem dX7_addsStep_84 : decode cX7_addsStep 84 = .ok (.iadd, 1) := by decide +kernel
theorem dX7_addsStep_85 : decode cX7_addsStep 85 = .ok (.iconst 2, 1) := by decide +kernel
theorem dX7_addsStep_86 : decode cX7_addsStep 86 = .ok (.isub, 1) := by decide +kernel
theorem dX7_addsStep_87 : decode cX7_addsStep 87 = .ok (.iaload, 1) := by decide +kernel
theorem dX7_addsStep_88 : decode cX7_addsStep 88 = .ok (.iload_n 1, 1) := by decide +kernel
theorem dX7_addsStep_89 : decode cX7_addsStep 89 = .ok (.if_icmp .le 59, 3) := by decide +kernel
theorem dX7_addsStep_92 : decode cX7_addsStep 92 = .ok (.aload_n 0, 1) := by decide +kernel
theorem dX7_addsStep_93 : decode cX7_addsStep 93 = .ok (.getfield 7, 3) := by decide +kernel
theorem dX7_addsStep_96 : decode cX7_addsStep 96 = .ok (.bipush 120, 2) := by decide +kernel
theorem dX7_addsStep_98 : decode cX7_addsStep 98 = .ok (.iconst 2, 1) := by decide +kernel
theorem dX7_addsStep_99 : decode cX7_addsStep 99 = .ok (.iload_n 3, 1) := by decide +kernel
theorem dX7_addsStep_100 : decode cX7_addsStep 100 = .ok (.imul, 1) := by decide +kernel
theorem dX7_addsStep_101 : decode cX7_addsStep 101 = .ok (.iadd, 1) := by decide +kernel
theorem dX7_addsStep_102 : decode cX7_addsStep 102 = .ok (.aload_n 0, 1) := by decide +kernel
theorem dX7_addsStep_103 : decode cX7_addsStep 103 = .ok (.getfield 7, 3) := by decide +kernel
theorem dX7_addsStep_106 : decode cX7_addsStep 106 = .ok (.bipush 120, 2) := by decide +kernel
theorem dX7_addsStep_108 : decode cX7_addsStep 108 = .ok (.iconst 2, 1) := by decide +kernel
theorem dX7_addsStep_109 : decode cX7_addsStep 109 = .ok (.iload_n 3, 1) := by decide +kernel
theorem dX7_addsStep_110 : decode cX7_addsStep 110 = .ok (.imul, 1) := by decide +kernel
theorem dX7_addsStep_111 : decode cX7_addsStep 111 = .ok (.iadd, 1) := by decide +kernel
theorem dX7_addsStep_112 : decode cX7_addsStep 112 = .ok (.iconst 2, 1) := by decide +kernel
theorem dX7_addsStep_113 : decode cX7_addsStep 113 = .ok (.isub, 1) := by decide +kernel
theorem dX7_addsStep_114 : decode cX7_addsStep 114 = .ok (.iaload, 1) := by decide +kernel
theorem dX7_addsStep_115 : decode cX7_addsStep 115 = .ok (.iastore, 1) := by decide +kernel
theorem dX7_addsStep_116 : decode cX7_addsStep 116 = .ok (.aload_n 0, 1) := by decide +kernel
theorem dX7_addsStep_117 : decode cX7_addsStep 117 = .ok (.getfield 7, 3) := by decide +kernel
theorem dX7_addsStep_120 : decode cX7_addsStep 120 = .ok (.bipush 120, 2) := by decide +kernel
theorem dX7_addsStep_122 : decode cX7_addsStep 122 = .ok (.iconst 2, 1) := by decide +kernel
theorem dX7_addsStep_123 : decode cX7_addsStep 123 = .ok (.iload_n 3, 1) := by decide +kernel
theorem dX7_addsStep_124 : decode cX7_addsStep 124 = .ok (.imul, 1) := by decide +kernel
theorem dX7_addsStep_125 : decode cX7_addsStep 125 = .ok (.iadd, 1) := by decide +kernel
theorem dX7_addsStep_126 : decode cX7_addsStep 126 = .ok (.iconst 1, 1) := by decide +kernel
theorem dX7_addsStep_127 : decode cX7_addsStep 127 = .ok (.iadd, 1) := by decide +kernel
theorem dX7_addsStep_128 : decode cX7_addsStep 128 = .ok (.aload_n 0, 1) := by decide +kernel
theorem dX7_addsStep_129 : decode cX7_addsStep 129 = .ok (.getfield 7, 3) := by decide +kernel
theorem dX7_addsStep_132 : decode cX7_addsStep 132 = .ok (.bipush 120, 2) := by decide +kernel
theorem dX7_addsStep_134 : decode cX7_addsStep 134 = .ok (.iconst 2, 1) := by decide +kernel
theorem dX7_addsStep_135 : decode cX7_addsStep 135 = .ok (.iload_n 3, 1) := by decide +kernel
theorem dX7_addsStep_136 : decode cX7_addsStep 136 = .ok (.imul, 1) := by decide +kernel
theorem dX7_addsStep_137 : decode cX7_addsStep 137 = .ok (.iadd, 1) := by decide +kernel
theorem dX7_addsStep_138 : decode cX7_addsStep 138 = .ok (.iconst 1, 1) := by decide +kernel
theorem dX7_addsStep_139 : decode cX7_addsStep 139 = .ok (.isub, 1) := by decide +kernel
theorem dX7_addsStep_140 : decode cX7_addsStep 140 = .ok (.iaload, 1) := by decide +kernel
theorem dX7_addsStep_141 : decode cX7_addsStep 141 = .ok (.iastore, 1) := by decide +kernel
theorem dX7_addsStep_142 : decode cX7_addsStep 142 = .ok (.iinc 3 (-1), 3) := by decide +kernel
theorem dX7_addsStep_145 : decode cX7_addsStep 145 = .ok (.goto (-74), 3) := by decide +kernel
theorem dX7_addsStep_148 : decode cX7_addsStep 148 = .ok (.aload_n 0, 1) := by decide +kernel
theorem dX7_addsStep_149 : decode cX7_addsStep 149 = .ok (.getfield 7, 3) := by decide +kernel
theorem dX7_addsStep_152 : decode cX7_addsStep 152 = .ok (.bipush 120, 2) := by decide +kernel
theorem dX7_addsStep_154 : decode cX7_addsStep 154 = .ok (.iconst 2, 1) := by decide +kernel
theorem dX7_addsStep_155 : decode cX7_addsStep 155 = .ok (.iload_n 3, 1) := by decide +kernel
theorem dX7_addsStep_156 : decode cX7_addsStep 156 = .ok (.imul, 1) := by decide +kernel
theorem dX7_addsStep_157 : decode cX7_addsStep 157 = .ok (.iadd, 1) := by decide +kernel
theorem dX7_addsStep_158 : decode cX7_addsStep 158 = .ok (.iload_n 1, 1) := by decide +kernel
theorem dX7_addsStep_159 : decode cX7_addsStep 159 = .ok (.iastore, 1) := by decide +kernel
theorem dX7_addsStep_160 : decode cX7_addsStep 160 = .ok (.aload_n 0, 1) := by decide +kernel
theorem dX7_addsStep_161 : decode cX7_addsStep 161 = .ok (.getfield 7, 3) := by decide +kernel
theorem dX7_addsStep_164 : decode cX7_addsStep 164 = .ok (.bipush 120, 2) := by decide +kernel
theorem dX7_addsStep_166 : decode cX7_addsStep 166 = .ok (.iconst 2, 1) := by decide +kernel
theorem dX7_addsStep_167 : decode cX7_addsStep 167 = .ok (.iload_n 3, 1) := by decide +kernel
theorem dX7_addsStep_168 : decode cX7_addsStep 168 = .ok (.imul, 1) := by decide +kernel
theorem dX7_addsStep_169 : decode cX7_addsStep 169 = .ok (.iadd, 1) := by decide +kernel
theorem dX7_addsStep_170 : decode cX7_addsStep 170 = .ok (.iconst 1, 1) := by decide +kernel
theorem dX7_addsStep_171 : decode cX7_addsStep 171 = .ok (.iadd, 1) := by decide +kernel
theorem dX7_addsStep_172 : decode cX7_addsStep 172 = .ok (.iload_n 2, 1) := by decide +kernel
theorem dX7_addsStep_173 : decode cX7_addsStep 173 = .ok (.iastore, 1) := by decide +kernel
theorem dX7_addsStep_174 : decode cX7_addsStep 174 = .ok (.aload_n 0, 1) := by decide +kernel
theorem dX7_addsStep_175 : decode cX7_addsStep 175 = .ok (.getfield 7, 3) := by decide +kernel
theorem dX7_addsStep_178 : decode cX7_addsStep 178 = .ok (.iconst 2, 1) := by decide +kernel
theorem dX7_addsStep_179 : decode cX7_addsStep 179 = .ok (.dup2, 1) := by decide +kernel
theorem dX7_addsStep_180 : decode cX7_addsStep 180 = .ok (.iaload, 1) := by decide +kernel
theorem dX7_addsStep_181 : decode cX7_addsStep 181 = .ok (.iconst 1, 1) := by decide +kernel
theorem dX7_addsStep_182 : decode cX7_addsStep 182 = .ok (.iadd, 1) := by decide +kernel
theorem dX7_addsStep_183 : decode cX7_addsStep 183 = .ok (.iastore, 1) := by decide +kernel
theorem dX7_addsStep_184 : decode cX7_addsStep 184 = .ok (.aload_n 0, 1) := by decide +kernel
theorem dX7_addsStep_185 : decode cX7_addsStep 185 = .ok (.aload_n 0, 1) := by decide +kernel
theorem dX7_addsStep_186 : decode cX7_addsStep 186 = .ok (.getfield 7, 3) := by decide +kernel
theorem dX7_addsStep_189 : decode cX7_addsStep 189 = .ok (.iconst 2, 1) := by decide +kernel
theorem dX7_addsStep_190 : decode cX7_addsStep 190 = .ok (.iaload, 1) := by decide +kernel
theorem dX7_addsStep_191 : decode cX7_addsStep 191 = .ok (.invokevirtual 98, 3) := by decide +kernel
theorem dX7_addsStep_194 : decode cX7_addsStep 194 = .ok (.ireturn, 1) := by decide +kernel
theorem dX7_removesStep_0 : decode cX7_removesStep 0 = .ok (.iconst 0, 1) := by decide +kernel
theorem dX7_removesStep_1 : decode cX7_removesStep 1 = .ok (.istore_n 2, 1) := by decide +kernel
theorem dX7_removesStep_2 : decode cX7_removesStep 2 = .ok (.iload_n 2, 1) := by decide +kernel
theorem dX7_removesStep_3 : decode cX7_removesStep 3 = .ok (.aload_n 0, 1) := by decide +kernel
theorem dX7_removesStep_4 : decode cX7_removesStep 4 = .ok (.getfield 7, 3) := by decide +kernel
theorem dX7_removesStep_7 : decode cX7_removesStep 7 = .ok (.iconst 2, 1) := by decide +kernel
theorem dX7_removesStep_8 : decode cX7_removesStep 8 = .ok (.iaload, 1) := by decide +kernel
theorem dX7_removesStep_9 : decode cX7_removesStep 9 = .ok (.if_icmp .ge 24, 3) := by decide +kernel
theorem dX7_removesStep_12 : decode cX7_removesStep 12 = .ok (.aload_n 0, 1) := by decide +kernel
theorem dX7_removesStep_13 : decode cX7_removesStep 13 = .ok (.getfield 7, 3) := by decide +kernel
theorem dX7_removesStep_16 : decode cX7_removesStep 16 = .ok (.bipush 120, 2) := by decide +kernel
theorem dX7_removesStep_18 : decode cX7_removesStep 18 = .ok (.iconst 2, 1) := by decide +kernel
theorem dX7_removesStep_19 : decode cX7_removesStep 19 = .ok (.iload_n 2, 1) := by decide +kernel
theorem dX7_removesStep_20 : decode cX7_removesStep 20 = .ok (.imul, 1) := by decide +kernel
theorem dX7_removesStep_21 : decode cX7_removesStep 21 = .ok (.iadd, 1) := by decide +kernel
theorem dX7_removesStep_22 : decode cX7_removesStep 22 = .ok (.iaload, 1) := by decide +kernel
theorem dX7_removesStep_23 : decode cX7_removesStep 23 = .ok (.iload_n 1, 1) := by decide +kernel
theorem dX7_removesStep_24 : decode cX7_removesStep 24 = .ok (.if_icmp .eq 9, 3) := by decide +kernel
theorem dX7_removesStep_27 : decode cX7_removesStep 27 = .ok (.iinc 2 1, 3) := by decide +kernel
theorem dX7_removesStep_30 : decode cX7_removesStep 30 = .ok (.goto (-28), 3) := by decide +kernel
theorem dX7_removesStep_33 : decode cX7_removesStep 33 = .ok (.iload_n 2, 1) := by decide +kernel
theorem dX7_removesStep_34 : decode cX7_removesStep 34 = .ok (.aload_n 0, 1) := by decide +kernel
theorem dX7_removesStep_35 : decode cX7_removesStep 35 = .ok (.getfield 7, 3) := by decide +kernel
theorem dX7_removesStep_38 : decode cX7_removesStep 38 = .ok (.iconst 2, 1) := by decide +kernel
theorem dX7_removesStep_39 : decode cX7_removesStep 39 = .ok (.iaload, 1) := by decide +kernel
theorem dX7_removesStep_40 : decode cX7_removesStep 40 = .ok (.if_icmp .ne 5, 3) := by decide +kernel
theorem dX7_removesStep_43 : decode cX7_removesStep 43 = .ok (.iconst 1, 1) := by decide +kernel
theorem dX7_removesStep_44 : decode cX7_removesStep 44 = .ok (.ireturn, 1) := by decide +kernel
theorem dX7_removesStep_45 : decode cX7_removesStep 45 = .ok (.aload_n 0, 1) := by decide +kernel
theorem dX7_removesStep_46 : decode cX7_removesStep 46 = .ok (.getfield 7, 3) := by decide +kernel
theorem dX7_removesStep_49 : decode cX7_removesStep 49 = .ok (.bipush 120, 2) := by decide +kernel
theorem dX7_removesStep_51 : decode cX7_removesStep 51 = .ok (.iconst 2, 1) := by decide +kernel
theorem dX7_removesStep_52 : decode cX7_removesStep 52 = .ok (.iload_n 2, 1) := by decide +kernel
theorem dX7_removesStep_53 : decode cX7_removesStep 53 = .ok (.imul, 1) := by decide +kernel
theorem dX7_removesStep_54 : decode cX7_removesStep 54 = .ok (.iadd, 1) := by decide +kernel
theorem dX7_removesStep_55 : decode cX7_removesStep 55 = .ok (.iconst 1, 1) := by decide +kernel
theorem dX7_removesStep_56 : decode cX7_removesStep 56 = .ok (.iadd, 1) := by decide +kernel
theorem dX7_removesStep_57 : decode cX7_removesStep 57 = .ok (.iaload, 1) := by decide +kernel
theorem dX7_removesStep_58 : decode cX7_removesStep 58 = .ok (.istore_n 3, 1) := by decide +kernel
theorem dX7_removesStep_59 : decode cX7_removesStep 59 = .ok (.aload_n 0, 1) := by decide +kernel
theorem dX7_removesStep_60 : decode cX7_removesStep 60 = .ok (.getfield 7, 3) := by decide +kernel
theorem dX7_removesStep_63 : decode cX7_removesStep 63 = .ok (.iconst 2, 1) := by decide +kernel
theorem dX7_removesStep_64 : decode cX7_removesStep 64 = .ok (.dup2, 1) := by decide +kernel
theorem dX7_removesStep_65 : decode cX7_removesStep 65 = .ok (.iaload, 1) := by decide +kernel
theorem dX7_removesStep_66 : decode cX7_removesStep 66 = .ok (.iconst 1, 1) := by decide +kernel
theorem dX7_removesStep_67 : decode cX7_removesStep 67 = .ok (.isub, 1) := by decide +kernel
theorem dX7_removesStep_68 : decode cX7_removesStep 68 = .ok (.iastore, 1) := by decide +kernel
theorem dX7_removesStep_69 : decode cX7_removesStep 69 = .ok (.iconst 2, 1) := by decide +kernel
theorem dX7_removesStep_70 : decode cX7_removesStep 70 = .ok (.iload_n 2, 1) := by decide +kernel
theorem dX7_removesStep_71 : decode cX7_removesStep 71 = .ok (.imul, 1) := by decide +kernel
theorem dX7_removesStep_72 : decode cX7_removesStep 72 = .ok (.istore 4, 2) := by decide +kernel
theorem dX7_removesStep_74 : decode cX7_removesStep 74 = .ok (.iload 4, 2) := by decide +kernel
theorem dX7_removesStep_76 : decode cX7_removesStep 76 = .ok (.iconst 2, 1) := by decide +kernel
theorem dX7_removesStep_77 : decode cX7_removesStep 77 = .ok (.aload_n 0, 1) := by decide +kernel
theorem dX7_removesStep_78 : decode cX7_removesStep 78 = .ok (.getfield 7, 3) := by decide +kernel
theorem dX7_removesStep_81 : decode cX7_removesStep 81 = .ok (.iconst 2, 1) := by decide +kernel
theorem dX7_removesStep_82 : decode cX7_removesStep 82 = .ok (.iaload, 1) := by decide +kernel
theorem dX7_removesStep_83 : decode cX7_removesStep 83 = .ok (.imul, 1) := by decide +kernel
theorem dX7_removesStep_84 : decode cX7_removesStep 84 = .ok (.if_icmp .ge 31, 3) := by decide +kernel
theorem dX7_removesStep_87 : decode cX7_removesStep 87 = .ok (.aload_n 0, 1) := by decide +kernel
theorem dX7_removesStep_88 : decode cX7_removesStep 88 = .ok (.getfield 7, 3) := by decide +kernel
theorem dX7_removesStep_91 : decode cX7_removesStep 91 = .ok (.bipush 120, 2) := by decide +kernel
theorem dX7_removesStep_93 : decode cX7_removesStep 93 = .ok (.iload 4, 2) := by decide +kernel
theorem dX7_removesStep_95 : decode cX7_removesStep 95 = .ok (.iadd, 1) := by decide +kernel
theorem dX7_removesStep_96 : decode cX7_removesStep 96 = .ok (.aload_n 0, 1) := by decide +kernel
theorem dX7_removesStep_97 : decode cX7_removesStep 97 = .ok (.getfield 7, 3) := by decide +kernel
theorem dX7_removesStep_100 : decode cX7_removesStep 100 = .ok (.bipush 120, 2) := by decide +kernel
theorem dX7_removesStep_102 : decode cX7_removesStep 102 = .ok (.iload 4, 2) := by decide +kernel
theorem dX7_removesStep_104 : decode cX7_removesStep 104 = .ok (.iadd, 1) := by decide +kernel
theorem dX7_removesStep_105 : decode cX7_removesStep 105 = .ok (.iconst 2, 1) := by decide +kernel
theorem dX7_removesStep_106 : decode cX7_removesStep 106 = .ok (.iadd, 1) := by decide +kernel
theorem dX7_removesStep_107 : decode cX7_removesStep 107 = .ok (.iaload, 1) := by decide +kernel
theorem dX7_removesStep_108 : decode cX7_removesStep 108 = .ok (.iastore, 1) := by decide +kernel
theorem dX7_removesStep_109 : decode cX7_removesStep 109 = .ok (.iinc 4 1, 3) := by decide +kernel
theorem dX7_removesStep_112 : decode cX7_removesStep 112 = .ok (.goto (-38), 3) := by decide +kernel
theorem dX7_removesStep_115 : decode cX7_removesStep 115 = .ok (.aload_n 0, 1) := by decide +kernel
theorem dX7_removesStep_116 : decode cX7_removesStep 116 = .ok (.getfield 7, 3) := by decide +kernel
theorem dX7_removesStep_119 : decode cX7_removesStep 119 = .ok (.bipush 120, 2) := by decide +kernel
theorem dX7_removesStep_121 : decode cX7_removesStep 121 = .ok (.iconst 2, 1) := by decide +kernel
theorem dX7_removesStep_122 : decode cX7_removesStep 122 = .ok (.aload_n 0, 1) := by decide +kernel
theorem dX7_removesStep_123 : decode cX7_removesStep 123 = .ok (.getfield 7, 3) := by decide +kernel
theorem dX7_removesStep_126 : decode cX7_removesStep 126 = .ok (.iconst 2, 1) := by decide +kernel
theorem dX7_removesStep_127 : decode cX7_removesStep 127 = .ok (.iaload, 1) := by decide +kernel
theorem dX7_removesStep_128 : decode cX7_removesStep 128 = .ok (.imul, 1) := by decide +kernel
theorem dX7_removesStep_129 : decode cX7_removesStep 129 = .ok (.iadd, 1) := by decide +kernel
theorem dX7_removesStep_130 : decode cX7_removesStep 130 = .ok (.iconst 0, 1) := by decide +kernel
theorem dX7_removesStep_131 : decode cX7_removesStep 131 = .ok (.iastore, 1) := by decide +kernel
theorem dX7_removesStep_132 : decode cX7_removesStep 132 = .ok (.aload_n 0, 1) := by decide +kernel
theorem dX7_removesStep_133 : decode cX7_removesStep 133 = .ok (.getfield 7, 3) := by decide +kernel
theorem dX7_removesStep_136 : decode cX7_removesStep 136 = .ok (.bipush 120, 2) := by decide +kernel
theorem dX7_removesStep_138 : decode cX7_removesStep 138 = .ok (.iconst 2, 1) := by decide +kernel
theorem dX7_removesStep_139 : decode cX7_removesStep 139 = .ok (.aload_n 0, 1) := by decide +kernel
theorem dX7_removesStep_140 : decode cX7_removesStep 140 = .ok (.getfield 7, 3) := by decide +kernel
theorem dX7_removesStep_143 : decode cX7_removesStep 143 = .ok (.iconst 2, 1) := by decide +kernel
theorem dX7_removesStep_144 : decode cX7_removesStep 144 = .ok (.iaload, 1) := by decide +kernel
theorem dX7_removesStep_145 : decode cX7_removesStep 145 = .ok (.imul, 1) := by decide +kernel
theorem dX7_removesStep_146 : decode cX7_removesStep 146 = .ok (.iadd, 1) := by decide +kernel
theorem dX7_removesStep_147 : decode cX7_removesStep 147 = .ok (.iconst 1, 1) := by decide +kernel
theorem dX7_removesStep_148 : decode cX7_removesStep 148 = .ok (.iadd, 1) := by decide +kernel
theorem dX7_removesStep_149 : decode cX7_removesStep 149 = .ok (.iconst 0, 1) := by decide +kernel
theorem dX7_removesStep_150 : decode cX7_removesStep 150 = .ok (.iastore, 1) := by decide +kernel
theorem dX7_removesStep_151 : decode cX7_removesStep 151 = .ok (.aload_n 0, 1) := by decide +kernel
theorem dX7_removesStep_152 : decode cX7_removesStep 152 = .ok (.iload_n 3, 1) := by decide +kernel
theorem dX7_removesStep_153 : decode cX7_removesStep 153 = .ok (.invokevirtual 98, 3) := by decide +kernel
theorem dX7_removesStep_156 : decode cX7_removesStep 156 = .ok (.ireturn, 1) := by decide +kernel
theorem dX7_oneDay_0 : decode cX7_oneDay 0 = .ok (.iconst 0, 1) := by decide +kernel
theorem dX7_oneDay_1 : decode cX7_oneDay 1 = .ok (.istore_n 1, 1) := by decide +kernel
theorem dX7_oneDay_2 : decode cX7_oneDay 2 = .ok (.iload_n 1, 1) := by decide +kernel
theorem dX7_oneDay_3 : decode cX7_oneDay 3 = .ok (.bipush 24, 2) := by decide +kernel
theorem dX7_oneDay_5 : decode cX7_oneDay 5 = .ok (.if_icmp .ge 16, 3) := by decide +kernel
theorem dX7_oneDay_8 : decode cX7_oneDay 8 = .ok (.aload_n 0, 1) := by decide +kernel
theorem dX7_oneDay_9 : decode cX7_oneDay 9 = .ok (.getfield 34, 3) := by decide +kernel
theorem dX7_oneDay_12 : decode cX7_oneDay 12 = .ok (.iload_n 1, 1) := by decide +kernel
theorem dX7_oneDay_13 : decode cX7_oneDay 13 = .ok (.iconst 0, 1) := by decide +kernel
theorem dX7_oneDay_14 : decode cX7_oneDay 14 = .ok (.iastore, 1) := by decide +kernel
theorem dX7_oneDay_15 : decode cX7_oneDay 15 = .ok (.iinc 1 1, 3) := by decide +kernel
theorem dX7_oneDay_18 : decode cX7_oneDay 18 = .ok (.goto (-16), 3) := by decide +kernel
theorem dX7_oneDay_21 : decode cX7_oneDay 21 = .ok (.iconst 0, 1) := by decide +kernel
theorem dX7_oneDay_22 : decode cX7_oneDay 22 = .ok (.istore_n 1, 1) := by decide +kernel
theorem dX7_oneDay_23 : decode cX7_oneDay 23 = .ok (.iload_n 1, 1) := by decide +kernel
theorem dX7_oneDay_24 : decode cX7_oneDay 24 = .ok (.aload_n 0, 1) := by decide +kernel
theorem dX7_oneDay_25 : decode cX7_oneDay 25 = .ok (.getfield 7, 3) := by decide +kernel
theorem dX7_oneDay_28 : decode cX7_oneDay 28 = .ok (.iconst 1, 1) := by decide +kernel
theorem dX7_oneDay_29 : decode cX7_oneDay 29 = .ok (.iaload, 1) := by decide +kernel
theorem dX7_oneDay_30 : decode cX7_oneDay 30 = .ok (.if_icmp .ge 27, 3) := by decide +kernel
theorem dX7_oneDay_33 : decode cX7_oneDay 33 = .ok (.aload_n 0, 1) := by decide +kernel
theorem dX7_oneDay_34 : decode cX7_oneDay 34 = .ok (.getfield 34, 3) := by decide +kernel
theorem dX7_oneDay_37 : decode cX7_oneDay 37 = .ok (.aload_n 0, 1) := by decide +kernel
theorem dX7_oneDay_38 : decode cX7_oneDay 38 = .ok (.iload_n 1, 1) := by decide +kernel
theorem dX7_oneDay_39 : decode cX7_oneDay 39 = .ok (.iconst 4, 1) := by decide +kernel
theorem dX7_oneDay_40 : decode cX7_oneDay 40 = .ok (.invokevirtual 63, 3) := by decide +kernel
theorem dX7_oneDay_43 : decode cX7_oneDay 43 = .ok (.aload_n 0, 1) := by decide +kernel
theorem dX7_oneDay_44 : decode cX7_oneDay 44 = .ok (.iload_n 1, 1) := by decide +kernel
theorem dX7_oneDay_45 : decode cX7_oneDay 45 = .ok (.bipush 6, 2) := by decide +kernel
theorem dX7_oneDay_47 : decode cX7_oneDay 47 = .ok (.invokevirtual 63, 3) := by decide +kernel
theorem dX7_oneDay_50 : decode cX7_oneDay 50 = .ok (.iastore, 1) := by decide +kernel
theorem dX7_oneDay_51 : decode cX7_oneDay 51 = .ok (.iinc 1 1, 3) := by decide +kernel
theorem dX7_oneDay_54 : decode cX7_oneDay 54 = .ok (.goto (-31), 3) := by decide +kernel
theorem dX7_oneDay_57 : decode cX7_oneDay 57 = .ok (.iconst 0, 1) := by decide +kernel
theorem dX7_oneDay_58 : decode cX7_oneDay 58 = .ok (.istore_n 1, 1) := by decide +kernel
theorem dX7_oneDay_59 : decode cX7_oneDay 59 = .ok (.iload_n 1, 1) := by decide +kernel
theorem dX7_oneDay_60 : decode cX7_oneDay 60 = .ok (.aload_n 0, 1) := by decide +kernel
theorem dX7_oneDay_61 : decode cX7_oneDay 61 = .ok (.getfield 7, 3) := by decide +kernel
theorem dX7_oneDay_64 : decode cX7_oneDay 64 = .ok (.iconst 1, 1) := by decide +kernel
theorem dX7_oneDay_65 : decode cX7_oneDay 65 = .ok (.iaload, 1) := by decide +kernel
theorem dX7_oneDay_66 : decode cX7_oneDay 66 = .ok (.if_icmp .ge 79, 3) := by decide +kernel
theorem dX7_oneDay_69 : decode cX7_oneDay 69 = .ok (.aload_n 0, 1) := by decide +kernel
theorem dX7_oneDay_70 : decode cX7_oneDay 70 = .ok (.iload_n 1, 1) := by decide +kernel
theorem dX7_oneDay_71 : decode cX7_oneDay 71 = .ok (.iconst 4, 1) := by decide +kernel
theorem dX7_oneDay_72 : decode cX7_oneDay 72 = .ok (.invokevirtual 63, 3) := by decide +kernel
theorem dX7_oneDay_75 : decode cX7_oneDay 75 = .ok (.istore_n 2, 1) := by decide +kernel
theorem dX7_oneDay_76 : decode cX7_oneDay 76 = .ok (.iload_n 2, 1) := by decide +kernel
theorem dX7_oneDay_77 : decode cX7_oneDay 77 = .ok (.ifCond .le 15, 3) := by decide +kernel
theorem dX7_oneDay_80 : decode cX7_oneDay 80 = .ok (.aload_n 0, 1) := by decide +kernel
theorem dX7_oneDay_81 : decode cX7_oneDay 81 = .ok (.getfield 34, 3) := by decide +kernel
theorem dX7_oneDay_84 : decode cX7_oneDay 84 = .ok (.iload_n 2, 1) := by decide +kernel
theorem dX7_oneDay_85 : decode cX7_oneDay 85 = .ok (.iconst 1, 1) := by decide +kernel
theorem dX7_oneDay_86 : decode cX7_oneDay 86 = .ok (.isub, 1) := by decide +kernel
theorem dX7_oneDay_87 : decode cX7_oneDay 87 = .ok (.iaload, 1) := by decide +kernel
theorem dX7_oneDay_88 : decode cX7_oneDay 88 = .ok (.iconst 1, 1) := by decide +kernel
theorem dX7_oneDay_89 : decode cX7_oneDay 89 = .ok (.if_icmp .eq 23, 3) := by decide +kernel
theorem dX7_oneDay_92 : decode cX7_oneDay 92 = .ok (.iload_n 2, 1) := by decide +kernel
theorem dX7_oneDay_93 : decode cX7_oneDay 93 = .ok (.iconst 1, 1) := by decide +kernel
theorem dX7_oneDay_94 : decode cX7_oneDay 94 = .ok (.iadd, 1) := by decide +kernel
theorem dX7_oneDay_95 : decode cX7_oneDay 95 = .ok (.bipush 24, 2) := by decide +kernel
theorem dX7_oneDay_97 : decode cX7_oneDay 97 = .ok (.if_icmp .ge 19, 3) := by decide +kernel
theorem dX7_oneDay_100 : decode cX7_oneDay 100 = .ok (.aload_n 0, 1) := by decide +kernel
theorem dX7_oneDay_101 : decode cX7_oneDay 101 = .ok (.getfield 34, 3) := by decide +kernel
theorem dX7_oneDay_104 : decode cX7_oneDay 104 = .ok (.iload_n 2, 1) := by decide +kernel
theorem dX7_oneDay_105 : decode cX7_oneDay 105 = .ok (.iconst 1, 1) := by decide +kernel
theorem dX7_oneDay_106 : decode cX7_oneDay 106 = .ok (.iadd, 1) := by decide +kernel
theorem dX7_oneDay_107 : decode cX7_oneDay 107 = .ok (.iaload, 1) := by decide +kernel
theorem dX7_oneDay_108 : decode cX7_oneDay 108 = .ok (.iconst 1, 1) := by decide +kernel
theorem dX7_oneDay_109 : decode cX7_oneDay 109 = .ok (.if_icmp .ne 7, 3) := by decide +kernel
theorem dX7_oneDay_112 : decode cX7_oneDay 112 = .ok (.iconst 1, 1) := by decide +kernel
theorem dX7_oneDay_113 : decode cX7_oneDay 113 = .ok (.goto 4, 3) := by decide +kernel
theorem dX7_oneDay_116 : decode cX7_oneDay 116 = .ok (.iconst 0, 1) := by decide +kernel
theorem dX7_oneDay_117 : decode cX7_oneDay 117 = .ok (.istore_n 3, 1) := by decide +kernel
theorem dX7_oneDay_118 : decode cX7_oneDay 118 = .ok (.aload_n 0, 1) := by decide +kernel
theorem dX7_oneDay_119 : decode cX7_oneDay 119 = .ok (.iload_n 1, 1) := by decide +kernel
theorem dX7_oneDay_120 : decode cX7_oneDay 120 = .ok (.iconst 5, 1) := by decide +kernel
theorem dX7_oneDay_121 : decode cX7_oneDay 121 = .ok (.invokevirtual 63, 3) := by decide +kernel
theorem dX7_oneDay_124 : decode cX7_oneDay 124 = .ok (.ifCond .ne 15, 3) := by decide +kernel
theorem dX7_oneDay_127 : decode cX7_oneDay 127 = .ok (.iload_n 3, 1) := by decide +kernel
theorem dX7_oneDay_128 : decode cX7_oneDay 128 = .ok (.ifCond .eq 11, 3) := by decide +kernel
theorem dX7_oneDay_131 : decode cX7_oneDay 131 = .ok (.aload_n 0, 1) := by decide +kernel
theorem dX7_oneDay_132 : decode cX7_oneDay 132 = .ok (.iload_n 1, 1) := by decide +kernel
theorem dX7_oneDay_133 : decode cX7_oneDay 133 = .ok (.bipush 6, 2) := by decide +kernel
theorem dX7_oneDay_135 : decode cX7_oneDay 135 = .ok (.iconst 1, 1) := by decide +kernel
theorem dX7_oneDay_136 : decode cX7_oneDay 136 = .ok (.invokevirtual 94, 3) := by decide +kernel
theorem dX7_oneDay_139 : decode cX7_oneDay 139 = .ok (.iinc 1 1, 3) := by decide +kernel
theorem dX7_oneDay_142 : decode cX7_oneDay 142 = .ok (.goto (-83), 3) := by decide +kernel
theorem dX7_oneDay_145 : decode cX7_oneDay 145 = .ok (.iconst 0, 1) := by decide +kernel
theorem dX7_oneDay_146 : decode cX7_oneDay 146 = .ok (.istore_n 1, 1) := by decide +kernel
theorem dX7_oneDay_147 : decode cX7_oneDay 147 = .ok (.aload_n 0, 1) := by decide +kernel
theorem dX7_oneDay_148 : decode cX7_oneDay 148 = .ok (.getfield 7, 3) := by decide +kernel
theorem dX7_oneDay_151 : decode cX7_oneDay 151 = .ok (.iconst 1, 1) := by decide +kernel
theorem dX7_oneDay_152 : decode cX7_oneDay 152 = .ok (.iaload, 1) := by decide +kernel
theorem dX7_oneDay_153 : decode cX7_oneDay 153 = .ok (.iconst 1, 1) := by decide +kernel
theorem dX7_oneDay_154 : decode cX7_oneDay 154 = .ok (.isub, 1) := by decide +kernel
theorem dX7_oneDay_155 : decode cX7_oneDay 155 = .ok (.istore_n 2, 1) := by decide +kernel
theorem dX7_oneDay_156 : decode cX7_oneDay 156 = .ok (.iload_n 2, 1) := by decide +kernel
theorem dX7_oneDay_157 : decode cX7_oneDay 157 = .ok (.ifCond .lt 60, 3) := by decide +kernel
theorem dX7_oneDay_160 : decode cX7_oneDay 160 = .ok (.aload_n 0, 1) := by decide +kernel
theorem dX7_oneDay_161 : decode cX7_oneDay 161 = .ok (.getfield 34, 3) := by decide +kernel
theorem dX7_oneDay_164 : decode cX7_oneDay 164 = .ok (.aload_n 0, 1) := by decide +kernel
theorem dX7_oneDay_165 : decode cX7_oneDay 165 = .ok (.iload_n 2, 1) := by decide +kernel
theorem dX7_oneDay_166 : decode cX7_oneDay 166 = .ok (.iconst 4, 1) := by decide +kernel
theorem dX7_oneDay_167 : decode cX7_oneDay 167 = .ok (.invokevirtual 63, 3) := by decide +kernel
theorem dX7_oneDay_170 : decode cX7_oneDay 170 = .ok (.iaload, 1) := by decide +kernel
theorem dX7_oneDay_171 : decode cX7_oneDay 171 = .ok (.ifCond .ne 6, 3) := by decide +kernel
theorem dX7_oneDay_174 : decode cX7_oneDay 174 = .ok (.goto 37, 3) := by decide +kernel
theorem dX7_oneDay_177 : decode cX7_oneDay 177 = .ok (.aload_n 0, 1) := by decide +kernel
theorem dX7_oneDay_178 : decode cX7_oneDay 178 = .ok (.iload_n 2, 1) := by decide +kernel
theorem dX7_oneDay_179 : decode cX7_oneDay 179 = .ok (.iconst 2, 1) := by decide +kernel
theorem dX7_oneDay_180 : decode cX7_oneDay 180 = .ok (.aload_n 0, 1) := by decide +kernel
theorem dX7_oneDay_181 : decode cX7_oneDay 181 = .ok (.iload_n 2, 1) := by decide +kernel
theorem dX7_oneDay_182 : decode cX7_oneDay 182 = .ok (.iconst 2, 1) := by decide +kernel
theorem dX7_oneDay_183 : decode cX7_oneDay 183 = .ok (.invokevirtual 63, 3) := by decide +kernel
theorem dX7_oneDay_186 : decode cX7_oneDay 186 = .ok (.iconst 1, 1) := by decide +kernel
theorem dX7_oneDay_187 : decode cX7_oneDay 187 = .ok (.isub, 1) := by decide +kernel
theorem dX7_oneDay_188 : decode cX7_oneDay 188 = .ok (.invokevirtual 94, 3) := by decide +kernel
theorem dX7_oneDay_191 : decode cX7_oneDay 191 = .ok (.aload_n 0, 1) := by decide +kernel
theorem dX7_oneDay_192 : decode cX7_oneDay 192 = .ok (.iload_n 2, 1) := by decide +kernel
theorem dX7_oneDay_193 : decode cX7_oneDay 193 = .ok (.iconst 2, 1) := by decide +kernel
theorem dX7_oneDay_194 : decode cX7_oneDay 194 = .ok (.invokevirtual 63, 3) := by decide +kernel
theorem dX7_oneDay_197 : decode cX7_oneDay 197 = .ok (.ifCond .le 6, 3) := by decide +kernel
theorem dX7_oneDay_200 : decode cX7_oneDay 200 = .ok (.goto 11, 3) := by decide +kernel
theorem dX7_oneDay_203 : decode cX7_oneDay 203 = .ok (.aload_n 0, 1) := by decide +kernel
theorem dX7_oneDay_204 : decode cX7_oneDay 204 = .ok (.iload_n 2, 1) := by decide +kernel
theorem dX7_oneDay_205 : decode cX7_oneDay 205 = .ok (.invokevirtual 107, 3) := by decide +kernel
theorem dX7_oneDay_208 : decode cX7_oneDay 208 = .ok (.iinc 1 1, 3) := by decide +kernel
theorem dX7_oneDay_211 : decode cX7_oneDay 211 = .ok (.iinc 2 (-1), 3) := by decide +kernel
theorem dX7_oneDay_214 : decode cX7_oneDay 214 = .ok (.goto (-58), 3) := by decide +kernel
theorem dX7_oneDay_217 : decode cX7_oneDay 217 = .ok (.aload_n 0, 1) := by decide +kernel
theorem dX7_oneDay_218 : decode cX7_oneDay 218 = .ok (.getfield 7, 3) := by decide +kernel
theorem dX7_oneDay_221 : decode cX7_oneDay 221 = .ok (.iconst 3, 1) := by decide +kernel
theorem dX7_oneDay_222 : decode cX7_oneDay 222 = .ok (.dup2, 1) := by decide +kernel
theorem dX7_oneDay_223 : decode cX7_oneDay 223 = .ok (.iaload, 1) := by decide +kernel
theorem dX7_oneDay_224 : decode cX7_oneDay 224 = .ok (.iconst 1, 1) := by decide +kernel
theorem dX7_oneDay_225 : decode cX7_oneDay 225 = .ok (.iadd, 1) := by decide +kernel
theorem dX7_oneDay_226 : decode cX7_oneDay 226 = .ok (.iastore, 1) := by decide +kernel
theorem dX7_oneDay_227 : decode cX7_oneDay 227 = .ok (.aload_n 0, 1) := by decide +kernel
theorem dX7_oneDay_228 : decode cX7_oneDay 228 = .ok (.getfield 7, 3) := by decide +kernel
theorem dX7_oneDay_231 : decode cX7_oneDay 231 = .ok (.bipush 6, 2) := by decide +kernel
theorem dX7_oneDay_233 : decode cX7_oneDay 233 = .ok (.dup2, 1) := by decide +kernel
theorem dX7_oneDay_234 : decode cX7_oneDay 234 = .ok (.iaload, 1) := by decide +kernel
theorem dX7_oneDay_235 : decode cX7_oneDay 235 = .ok (.iload_n 1, 1) := by decide +kernel
theorem dX7_oneDay_236 : decode cX7_oneDay 236 = .ok (.iadd, 1) := by decide +kernel
theorem dX7_oneDay_237 : decode cX7_oneDay 237 = .ok (.iastore, 1) := by decide +kernel
theorem dX7_oneDay_238 : decode cX7_oneDay 238 = .ok (.iload_n 1, 1) := by decide +kernel
theorem dX7_oneDay_239 : decode cX7_oneDay 239 = .ok (.ireturn, 1) := by decide +kernel
theorem dX7_passes_0 : decode cX7_passes 0 = .ok (.iload_n 1, 1) := by decide +kernel
theorem dX7_passes_1 : decode cX7_passes 1 = .ok (.iconst 1, 1) := by decide +kernel
theorem dX7_passes_2 : decode cX7_passes 2 = .ok (.bipush 30, 2) := by decide +kernel
theorem dX7_passes_4 : decode cX7_passes 4 = .ok (.invokestatic 67, 3) := by decide +kernel
theorem dX7_passes_7 : decode cX7_passes 7 = .ok (.ifCond .ne 5, 3) := by decide +kernel
theorem dX7_passes_10 : decode cX7_passes 10 = .ok (.iconst 1, 1) := by decide +kernel
theorem dX7_passes_11 : decode cX7_passes 11 = .ok (.ireturn, 1) := by decide +kernel
theorem dX7_passes_12 : decode cX7_passes 12 = .ok (.iconst 0, 1) := by decide +kernel
theorem dX7_passes_13 : decode cX7_passes 13 = .ok (.istore_n 2, 1) := by decide +kernel
theorem dX7_passes_14 : decode cX7_passes 14 = .ok (.iconst 0, 1) := by decide +kernel
theorem dX7_passes_15 : decode cX7_passes 15 = .ok (.istore_n 3, 1) := by decide +kernel
theorem dX7_passes_16 : decode cX7_passes 16 = .ok (.iload_n 3, 1) := by decide +kernel
theorem dX7_passes_17 : decode cX7_passes 17 = .ok (.iload_n 1, 1) := by decide +kernel
theorem dX7_passes_18 : decode cX7_passes 18 = .ok (.if_icmp .ge 16, 3) := by decide +kernel
theorem dX7_passes_21 : decode cX7_passes 21 = .ok (.iload_n 2, 1) := by decide +kernel
theorem dX7_passes_22 : decode cX7_passes 22 = .ok (.aload_n 0, 1) := by decide +kernel
theorem dX7_passes_23 : decode cX7_passes 23 = .ok (.invokevirtual 110, 3) := by decide +kernel
theorem dX7_passes_26 : decode cX7_passes 26 = .ok (.iadd, 1) := by decide +kernel
theorem dX7_passes_27 : decode cX7_passes 27 = .ok (.istore_n 2, 1) := by decide +kernel
theorem dX7_passes_28 : decode cX7_passes 28 = .ok (.iinc 3 1, 3) := by decide +kernel
theorem dX7_passes_31 : decode cX7_passes 31 = .ok (.goto (-15), 3) := by decide +kernel
theorem dX7_passes_34 : decode cX7_passes 34 = .ok (.aload_n 0, 1) := by decide +kernel
theorem dX7_passes_35 : decode cX7_passes 35 = .ok (.iload_n 2, 1) := by decide +kernel
theorem dX7_passes_36 : decode cX7_passes 36 = .ok (.invokevirtual 98, 3) := by decide +kernel
theorem dX7_passes_39 : decode cX7_passes 39 = .ok (.ireturn, 1) := by decide +kernel
theorem dX7_joins_0 : decode cX7_joins 0 = .ok (.aload_n 0, 1) := by decide +kernel
theorem dX7_joins_1 : decode cX7_joins 1 = .ok (.iload_n 1, 1) := by decide +kernel
theorem dX7_joins_2 : decode cX7_joins 2 = .ok (.invokevirtual 101, 3) := by decide +kernel
theorem dX7_joins_5 : decode cX7_joins 5 = .ok (.iconst (-1), 1) := by decide +kernel
theorem dX7_joins_6 : decode cX7_joins 6 = .ok (.if_icmp .ne 5, 3) := by decide +kernel
theorem dX7_joins_9 : decode cX7_joins 9 = .ok (.iconst 1, 1) := by decide +kernel
theorem dX7_joins_10 : decode cX7_joins 10 = .ok (.ireturn, 1) := by decide +kernel
theorem dX7_joins_11 : decode cX7_joins 11 = .ok (.aload_n 0, 1) := by decide +kernel
theorem dX7_joins_12 : decode cX7_joins 12 = .ok (.iload_n 1, 1) := by decide +kernel
theorem dX7_joins_13 : decode cX7_joins 13 = .ok (.invokevirtual 77, 3) := by decide +kernel
theorem dX7_joins_16 : decode cX7_joins 16 = .ok (.iconst (-1), 1) := by decide +kernel
theorem dX7_joins_17 : decode cX7_joins 17 = .ok (.if_icmp .eq 5, 3) := by decide +kernel
theorem dX7_joins_20 : decode cX7_joins 20 = .ok (.iconst 2, 1) := by decide +kernel
theorem dX7_joins_21 : decode cX7_joins 21 = .ok (.ireturn, 1) := by decide +kernel
theorem dX7_joins_22 : decode cX7_joins 22 = .ok (.aload_n 0, 1) := by decide +kernel
theorem dX7_joins_23 : decode cX7_joins 23 = .ok (.getfield 7, 3) := by decide +kernel
theorem dX7_joins_26 : decode cX7_joins 26 = .ok (.sipush 132, 3) := by decide +kernel
theorem dX7_joins_29 : decode cX7_joins 29 = .ok (.aload_n 0, 1) := by decide +kernel
theorem dX7_joins_30 : decode cX7_joins 30 = .ok (.getfield 7, 3) := by decide +kernel
theorem dX7_joins_33 : decode cX7_joins 33 = .ok (.bipush 7, 2) := by decide +kernel
theorem dX7_joins_35 : decode cX7_joins 35 = .ok (.iaload, 1) := by decide +kernel
theorem dX7_joins_36 : decode cX7_joins 36 = .ok (.iadd, 1) := by decide +kernel
theorem dX7_joins_37 : decode cX7_joins 37 = .ok (.iload_n 1, 1) := by decide +kernel
theorem dX7_joins_38 : decode cX7_joins 38 = .ok (.iastore, 1) := by decide +kernel
theorem dX7_joins_39 : decode cX7_joins 39 = .ok (.aload_n 0, 1) := by decide +kernel
theorem dX7_joins_40 : decode cX7_joins 40 = .ok (.getfield 7, 3) := by decide +kernel
theorem dX7_joins_43 : decode cX7_joins 43 = .ok (.bipush 7, 2) := by decide +kernel
theorem dX7_joins_45 : decode cX7_joins 45 = .ok (.dup2, 1) := by decide +kernel
theorem dX7_joins_46 : decode cX7_joins 46 = .ok (.iaload, 1) := by decide +kernel
theorem dX7_joins_47 : decode cX7_joins 47 = .ok (.iconst 1, 1) := by decide +kernel
theorem dX7_joins_48 : decode cX7_joins 48 = .ok (.iadd, 1) := by decide +kernel
theorem dX7_joins_49 : decode cX7_joins 49 = .ok (.iastore, 1) := by decide +kernel
theorem dX7_joins_50 : decode cX7_joins 50 = .ok (.aload_n 0, 1) := by decide +kernel
theorem dX7_joins_51 : decode cX7_joins 51 = .ok (.aload_n 0, 1) := by decide +kernel
theorem dX7_joins_52 : decode cX7_joins 52 = .ok (.getfield 7, 3) := by decide +kernel
theorem dX7_joins_55 : decode cX7_joins 55 = .ok (.bipush 7, 2) := by decide +kernel
theorem dX7_joins_57 : decode cX7_joins 57 = .ok (.iaload, 1) := by decide +kernel
theorem dX7_joins_58 : decode cX7_joins 58 = .ok (.invokevirtual 98, 3) := by decide +kernel
theorem dX7_joins_61 : decode cX7_joins 61 = .ok (.ireturn, 1) := by decide +kernel
theorem dX7_audits_0 : decode cX7_audits 0 = .ok (.aload_n 0, 1) := by decide +kernel
theorem dX7_audits_1 : decode cX7_audits 1 = .ok (.getfield 7, 3) := by decide +kernel
theorem dX7_audits_4 : decode cX7_audits 4 = .ok (.bipush 7, 2) := by decide +kernel
theorem dX7_audits_6 : decode cX7_audits 6 = .ok (.iaload, 1) := by decide +kernel
theorem dX7_audits_7 : decode cX7_audits 7 = .ok (.ifCond .ne 5, 3) := by decide +kernel
theorem dX7_audits_10 : decode cX7_audits 10 = .ok (.iconst 1, 1) := by decide +kernel
theorem dX7_audits_11 : decode cX7_audits 11 = .ok (.ireturn, 1) := by decide +kernel
theorem dX7_audits_12 : decode cX7_audits 12 = .ok (.aload_n 0, 1) := by decide +kernel
theorem dX7_audits_13 : decode cX7_audits 13 = .ok (.getfield 7, 3) := by decide +kernel
theorem dX7_audits_16 : decode cX7_audits 16 = .ok (.sipush 132, 3) := by decide +kernel
theorem dX7_audits_19 : decode cX7_audits 19 = .ok (.iaload, 1) := by decide +kernel
theorem dX7_audits_20 : decode cX7_audits 20 = .ok (.istore_n 1, 1) := by decide +kernel
theorem dX7_audits_21 : decode cX7_audits 21 = .ok (.aload_n 0, 1) := by decide +kernel
theorem dX7_audits_22 : decode cX7_audits 22 = .ok (.iconst 0, 1) := by decide +kernel
theorem dX7_audits_23 : decode cX7_audits 23 = .ok (.invokevirtual 80, 3) := by decide +kernel
theorem dX7_audits_26 : decode cX7_audits 26 = .ok (.aload_n 0, 1) := by decide +kernel
theorem dX7_audits_27 : decode cX7_audits 27 = .ok (.aload_n 0, 1) := by decide +kernel
theorem dX7_audits_28 : decode cX7_audits 28 = .ok (.iload_n 1, 1) := by decide +kernel
theorem dX7_audits_29 : decode cX7_audits 29 = .ok (.invokevirtual 101, 3) := by decide +kernel
theorem dX7_audits_32 : decode cX7_audits 32 = .ok (.iconst 5, 1) := by decide +kernel
theorem dX7_audits_33 : decode cX7_audits 33 = .ok (.iconst 0, 1) := by decide +kernel
theorem dX7_audits_34 : decode cX7_audits 34 = .ok (.invokevirtual 94, 3) := by decide +kernel
theorem dX7_audits_37 : decode cX7_audits 37 = .ok (.aload_n 0, 1) := by decide +kernel
theorem dX7_audits_38 : decode cX7_audits 38 = .ok (.iload_n 1, 1) := by decide +kernel
theorem dX7_audits_39 : decode cX7_audits 39 = .ok (.invokevirtual 98, 3) := by decide +kernel
theorem dX7_audits_42 : decode cX7_audits 42 = .ok (.ireturn, 1) := by decide +kernel
theorem dX7_deposits_0 : decode cX7_deposits 0 = .ok (.iload_n 1, 1) := by decide +kernel
theorem dX7_deposits_1 : decode cX7_deposits 1 = .ok (.iconst 1, 1) := by decide +kernel
theorem dX7_deposits_2 : decode cX7_deposits 2 = .ok (.sipush 999, 3) := by decide +kernel
theorem dX7_deposits_5 : decode cX7_deposits 5 = .ok (.invokestatic 67, 3) := by decide +kernel
theorem dX7_deposits_8 : decode cX7_deposits 8 = .ok (.ifCond .ne 5, 3) := by decide +kernel
theorem dX7_deposits_11 : decode cX7_deposits 11 = .ok (.iconst 1, 1) := by decide +kernel
theorem dX7_deposits_12 : decode cX7_deposits 12 = .ok (.ireturn, 1) := by decide +kernel
theorem dX7_deposits_13 : decode cX7_deposits 13 = .ok (.aload_n 0, 1) := by decide +kernel
theorem dX7_deposits_14 : decode cX7_deposits 14 = .ok (.getfield 7, 3) := by decide +kernel
theorem dX7_deposits_17 : decode cX7_deposits 17 = .ok (.iconst 4, 1) := by decide +kernel
theorem dX7_deposits_18 : decode cX7_deposits 18 = .ok (.iaload, 1) := by decide +kernel
theorem dX7_deposits_19 : decode cX7_deposits 19 = .ok (.iload_n 1, 1) := by decide +kernel
theorem dX7_deposits_20 : decode cX7_deposits 20 = .ok (.iadd, 1) := by decide +kernel
theorem dX7_deposits_21 : decode cX7_deposits 21 = .ok (.sipush 9999, 3) := by decide +kernel
theorem dX7_deposits_24 : decode cX7_deposits 24 = .ok (.if_icmp .le 5, 3) := by decide +kernel
theorem dX7_deposits_27 : decode cX7_deposits 27 = .ok (.iconst 2, 1) := by decide +kernel
theorem dX7_deposits_28 : decode cX7_deposits 28 = .ok (.ireturn, 1) := by decide +kernel
theorem dX7_deposits_29 : decode cX7_deposits 29 = .ok (.aload_n 0, 1) := by decide +kernel
theorem dX7_deposits_30 : decode cX7_deposits 30 = .ok (.getfield 7, 3) := by decide +kernel
theorem dX7_deposits_33 : decode cX7_deposits 33 = .ok (.iconst 4, 1) := by decide +kernel
theorem dX7_deposits_34 : decode cX7_deposits 34 = .ok (.dup2, 1) := by decide +kernel
theorem dX7_deposits_35 : decode cX7_deposits 35 = .ok (.iaload, 1) := by decide +kernel
theorem dX7_deposits_36 : decode cX7_deposits 36 = .ok (.iload_n 1, 1) := by decide +kernel
theorem dX7_deposits_37 : decode cX7_deposits 37 = .ok (.iadd, 1) := by decide +kernel
theorem dX7_deposits_38 : decode cX7_deposits 38 = .ok (.iastore, 1) := by decide +kernel
theorem dX7_deposits_39 : decode cX7_deposits 39 = .ok (.aload_n 0, 1) := by decide +kernel
theorem dX7_deposits_40 : decode cX7_deposits 40 = .ok (.aload_n 0, 1) := by decide +kernel
theorem dX7_deposits_41 : decode cX7_deposits 41 = .ok (.getfield 7, 3) := by decide +kernel
theorem dX7_deposits_44 : decode cX7_deposits 44 = .ok (.iconst 4, 1) := by decide +kernel
theorem dX7_deposits_45 : decode cX7_deposits 45 = .ok (.iaload, 1) := by decide +kernel
theorem dX7_deposits_46 : decode cX7_deposits 46 = .ok (.invokevirtual 98, 3) := by decide +kernel
theorem dX7_deposits_49 : decode cX7_deposits 49 = .ok (.ireturn, 1) := by decide +kernel
theorem dX7_releases_0 : decode cX7_releases 0 = .ok (.aload_n 0, 1) := by decide +kernel
theorem dX7_releases_1 : decode cX7_releases 1 = .ok (.iload_n 1, 1) := by decide +kernel
theorem dX7_releases_2 : decode cX7_releases 2 = .ok (.invokevirtual 101, 3) := by decide +kernel
theorem dX7_releases_5 : decode cX7_releases 5 = .ok (.istore_n 2, 1) := by decide +kernel
theorem dX7_releases_6 : decode cX7_releases 6 = .ok (.iload_n 2, 1) := by decide +kernel
theorem dX7_releases_7 : decode cX7_releases 7 = .ok (.iconst (-1), 1) := by decide +kernel
theorem dX7_releases_8 : decode cX7_releases 8 = .ok (.if_icmp .ne 5, 3) := by decide +kernel
theorem dX7_releases_11 : decode cX7_releases 11 = .ok (.iconst 1, 1) := by decide +kernel
theorem dX7_releases_12 : decode cX7_releases 12 = .ok (.ireturn, 1) := by decide +kernel
theorem dX7_releases_13 : decode cX7_releases 13 = .ok (.aload_n 0, 1) := by decide +kernel
theorem dX7_releases_14 : decode cX7_releases 14 = .ok (.iload_n 2, 1) := by decide +kernel
theorem dX7_releases_15 : decode cX7_releases 15 = .ok (.invokevirtual 114, 3) := by decide +kernel
theorem dX7_releases_18 : decode cX7_releases 18 = .ok (.istore_n 3, 1) := by decide +kernel
theorem dX7_releases_19 : decode cX7_releases 19 = .ok (.aload_n 0, 1) := by decide +kernel
theorem dX7_releases_20 : decode cX7_releases 20 = .ok (.getfield 7, 3) := by decide +kernel
theorem dX7_releases_23 : decode cX7_releases 23 = .ok (.iconst 4, 1) := by decide +kernel
theorem dX7_releases_24 : decode cX7_releases 24 = .ok (.iaload, 1) := by decide +kernel
theorem dX7_releases_25 : decode cX7_releases 25 = .ok (.iload_n 3, 1) := by decide +kernel
theorem dX7_releases_26 : decode cX7_releases 26 = .ok (.if_icmp .ge 5, 3) := by decide +kernel
theorem dX7_releases_29 : decode cX7_releases 29 = .ok (.iconst 2, 1) := by decide +kernel
theorem dX7_releases_30 : decode cX7_releases 30 = .ok (.ireturn, 1) := by decide +kernel
theorem dX7_releases_31 : decode cX7_releases 31 = .ok (.aload_n 0, 1) := by decide +kernel
theorem dX7_releases_32 : decode cX7_releases 32 = .ok (.getfield 7, 3) := by decide +kernel
theorem dX7_releases_35 : decode cX7_releases 35 = .ok (.iconst 4, 1) := by decide +kernel
theorem dX7_releases_36 : decode cX7_releases 36 = .ok (.dup2, 1) := by decide +kernel
theorem dX7_releases_37 : decode cX7_releases 37 = .ok (.iaload, 1) := by decide +kernel
theorem dX7_releases_38 : decode cX7_releases 38 = .ok (.iload_n 3, 1) := by decide +kernel
theorem dX7_releases_39 : decode cX7_releases 39 = .ok (.isub, 1) := by decide +kernel
theorem dX7_releases_40 : decode cX7_releases 40 = .ok (.iastore, 1) := by decide +kernel
theorem dX7_releases_41 : decode cX7_releases 41 = .ok (.aload_n 0, 1) := by decide +kernel
theorem dX7_releases_42 : decode cX7_releases 42 = .ok (.getfield 7, 3) := by decide +kernel
theorem dX7_releases_45 : decode cX7_releases 45 = .ok (.iconst 5, 1) := by decide +kernel
theorem dX7_releases_46 : decode cX7_releases 46 = .ok (.dup2, 1) := by decide +kernel
theorem dX7_releases_47 : decode cX7_releases 47 = .ok (.iaload, 1) := by decide +kernel
theorem dX7_releases_48 : decode cX7_releases 48 = .ok (.iload_n 3, 1) := by decide +kernel
theorem dX7_releases_49 : decode cX7_releases 49 = .ok (.iadd, 1) := by decide +kernel
theorem dX7_releases_50 : decode cX7_releases 50 = .ok (.iastore, 1) := by decide +kernel
theorem dX7_releases_51 : decode cX7_releases 51 = .ok (.aload_n 0, 1) := by decide +kernel
theorem dX7_releases_52 : decode cX7_releases 52 = .ok (.iload_n 2, 1) := by decide +kernel
theorem dX7_releases_53 : decode cX7_releases 53 = .ok (.invokevirtual 107, 3) := by decide +kernel
theorem dX7_releases_56 : decode cX7_releases 56 = .ok (.aload_n 0, 1) := by decide +kernel
theorem dX7_releases_57 : decode cX7_releases 57 = .ok (.iload_n 3, 1) := by decide +kernel
theorem dX7_releases_58 : decode cX7_releases 58 = .ok (.invokevirtual 98, 3) := by decide +kernel
theorem dX7_releases_61 : decode cX7_releases 61 = .ok (.ireturn, 1) := by decide +kernel
theorem dX7_addLot_0 : decode cX7_addLot 0 = .ok (.aload_n 0, 1) := by decide +kernel
theorem dX7_addLot_1 : decode cX7_addLot 1 = .ok (.invokevirtual 117, 3) := by decide +kernel
theorem dX7_addLot_4 : decode cX7_addLot 4 = .ok (.aload_n 0, 1) := by decide +kernel
theorem dX7_addLot_5 : decode cX7_addLot 5 = .ok (.aload_n 0, 1) := by decide +kernel
theorem dX7_addLot_6 : decode cX7_addLot 6 = .ok (.iload_n 1, 1) := by decide +kernel
theorem dX7_addLot_7 : decode cX7_addLot 7 = .ok (.iload_n 2, 1) := by decide +kernel
theorem dX7_addLot_8 : decode cX7_addLot 8 = .ok (.iload_n 3, 1) := by decide +kernel
theorem dX7_addLot_9 : decode cX7_addLot 9 = .ok (.iload 4, 2) := by decide +kernel
theorem dX7_addLot_11 : decode cX7_addLot 11 = .ok (.invokevirtual 120, 3) := by decide +kernel
theorem dX7_addLot_14 : decode cX7_addLot 14 = .ok (.invokevirtual 124, 3) := by decide +kernel
theorem dX7_addLot_17 : decode cX7_addLot 17 = .ok (.ireturn, 1) := by decide +kernel
theorem dX7_seal_0 : decode cX7_seal 0 = .ok (.aload_n 0, 1) := by decide +kernel
theorem dX7_seal_1 : decode cX7_seal 1 = .ok (.invokevirtual 117, 3) := by decide +kernel
theorem dX7_seal_4 : decode cX7_seal 4 = .ok (.aload_n 0, 1) := by decide +kernel
theorem dX7_seal_5 : decode cX7_seal 5 = .ok (.aload_n 0, 1) := by decide +kernel
theorem dX7_seal_6 : decode cX7_seal 6 = .ok (.iload_n 1, 1) := by decide +kernel
theorem dX7_seal_7 : decode cX7_seal 7 = .ok (.invokevirtual 127, 3) := by decide +kernel
theorem dX7_seal_10 : decode cX7_seal 10 = .ok (.invokevirtual 124, 3) := by decide +kernel
theorem dX7_seal_13 : decode cX7_seal 13 = .ok (.ireturn, 1) := by decide +kernel
theorem dX7_open_0 : decode cX7_open 0 = .ok (.aload_n 0, 1) := by decide +kernel
theorem dX7_open_1 : decode cX7_open 1 = .ok (.invokevirtual 117, 3) := by decide +kernel
theorem dX7_open_4 : decode cX7_open 4 = .ok (.aload_n 0, 1) := by decide +kernel
theorem dX7_open_5 : decode cX7_open 5 = .ok (.aload_n 0, 1) := by decide +kernel
theorem dX7_open_6 : decode cX7_open 6 = .ok (.iload_n 1, 1) := by decide +kernel
theorem dX7_open_7 : decode cX7_open 7 = .ok (.invokevirtual 130, 3) := by decide +kernel
theorem dX7_open_10 : decode cX7_open 10 = .ok (.invokevirtual 124, 3) := by decide +kernel
theorem dX7_open_13 : decode cX7_open 13 = .ok (.ireturn, 1) := by decide +kernel
theorem dX7_wet_0 : decode cX7_wet 0 = .ok (.aload_n 0, 1) := by decide +kernel
theorem dX7_wet_1 : decode cX7_wet 1 = .ok (.invokevirtual 117, 3) := by decide +kernel
theorem dX7_wet_4 : decode cX7_wet 4 = .ok (.aload_n 0, 1) := by decide +kernel
theorem dX7_wet_5 : decode cX7_wet 5 = .ok (.aload_n 0, 1) := by decide +kernel
theorem dX7_wet_6 : decode cX7_wet 6 = .ok (.iload_n 1, 1) := by decide +kernel
theorem dX7_wet_7 : decode cX7_wet 7 = .ok (.invokevirtual 133, 3) := by decide +kernel
theorem dX7_wet_10 : decode cX7_wet 10 = .ok (.invokevirtual 124, 3) := by decide +kernel
theorem dX7_wet_13 : decode cX7_wet 13 = .ok (.ireturn, 1) := by decide +kernel
theorem dX7_move_0 : decode cX7_move 0 = .ok (.aload_n 0, 1) := by decide +kernel
theorem dX7_move_1 : decode cX7_move 1 = .ok (.invokevirtual 117, 3) := by decide +kernel
theorem dX7_move_4 : decode cX7_move 4 = .ok (.aload_n 0, 1) := by decide +kernel
theorem dX7_move_5 : decode cX7_move 5 = .ok (.aload_n 0, 1) := by decide +kernel
theorem dX7_move_6 : decode cX7_move 6 = .ok (.iload_n 1, 1) := by decide +kernel
theorem dX7_move_7 : decode cX7_move 7 = .ok (.iload_n 2, 1) := by decide +kernel
theorem dX7_move_8 : decode cX7_move 8 = .ok (.invokevirtual 136, 3) := by decide +kernel
theorem dX7_move_11 : decode cX7_move 11 = .ok (.invokevirtual 124, 3) := by decide +kernel
theorem dX7_move_14 : decode cX7_move 14 = .ok (.ireturn, 1) := by decide +kernel
theorem dX7_lotCount_0 : decode cX7_lotCount 0 = .ok (.aload_n 0, 1) := by decide +kernel
theorem dX7_lotCount_1 : decode cX7_lotCount 1 = .ok (.iconst 0, 1) := by decide +kernel
theorem dX7_lotCount_2 : decode cX7_lotCount 2 = .ok (.putfield 47, 3) := by decide +kernel
theorem dX7_lotCount_5 : decode cX7_lotCount 5 = .ok (.aload_n 0, 1) := by decide +kernel
theorem dX7_lotCount_6 : decode cX7_lotCount 6 = .ok (.getfield 7, 3) := by decide +kernel
theorem dX7_lotCount_9 : decode cX7_lotCount 9 = .ok (.iconst 1, 1) := by decide +kernel
theorem dX7_lotCount_10 : decode cX7_lotCount 10 = .ok (.iaload, 1) := by decide +kernel
theorem dX7_lotCount_11 : decode cX7_lotCount 11 = .ok (.ireturn, 1) := by decide +kernel
theorem dX7_lot_0 : decode cX7_lot 0 = .ok (.aload_n 0, 1) := by decide +kernel
theorem dX7_lot_1 : decode cX7_lot 1 = .ok (.iload_n 1, 1) := by decide +kernel
theorem dX7_lot_2 : decode cX7_lot 2 = .ok (.iconst 0, 1) := by decide +kernel
theorem dX7_lot_3 : decode cX7_lot 3 = .ok (.aload_n 0, 1) := by decide +kernel
theorem dX7_lot_4 : decode cX7_lot 4 = .ok (.getfield 7, 3) := by decide +kernel
theorem dX7_lot_7 : decode cX7_lot 7 = .ok (.iconst 1, 1) := by decide +kernel
theorem dX7_lot_8 : decode cX7_lot 8 = .ok (.iaload, 1) := by decide +kernel
theorem dX7_lot_9 : decode cX7_lot 9 = .ok (.iconst 1, 1) := by decide +kernel
theorem dX7_lot_10 : decode cX7_lot 10 = .ok (.isub, 1) := by decide +kernel
theorem dX7_lot_11 : decode cX7_lot 11 = .ok (.invokestatic 67, 3) := by decide +kernel
theorem dX7_lot_14 : decode cX7_lot 14 = .ok (.ifCond .eq 7, 3) := by decide +kernel
theorem dX7_lot_17 : decode cX7_lot 17 = .ok (.iconst 0, 1) := by decide +kernel
theorem dX7_lot_18 : decode cX7_lot 18 = .ok (.goto 4, 3) := by decide +kernel
theorem dX7_lot_21 : decode cX7_lot 21 = .ok (.iconst 1, 1) := by decide +kernel
theorem dX7_lot_22 : decode cX7_lot 22 = .ok (.putfield 47, 3) := by decide +kernel
theorem dX7_lot_25 : decode cX7_lot 25 = .ok (.aload_n 0, 1) := by decide +kernel
theorem dX7_lot_26 : decode cX7_lot 26 = .ok (.getfield 47, 3) := by decide +kernel
theorem dX7_lot_29 : decode cX7_lot 29 = .ok (.ifCond .le 7, 3) := by decide +kernel
theorem dX7_lot_32 : decode cX7_lot 32 = .ok (.iconst 0, 1) := by decide +kernel
theorem dX7_lot_33 : decode cX7_lot 33 = .ok (.goto 9, 3) := by decide +kernel
theorem dX7_lot_36 : decode cX7_lot 36 = .ok (.aload_n 0, 1) := by decide +kernel
theorem dX7_lot_37 : decode cX7_lot 37 = .ok (.iload_n 1, 1) := by decide +kernel
theorem dX7_lot_38 : decode cX7_lot 38 = .ok (.iconst 0, 1) := by decide +kernel
theorem dX7_lot_39 : decode cX7_lot 39 = .ok (.invokevirtual 63, 3) := by decide +kernel
theorem dX7_lot_42 : decode cX7_lot 42 = .ok (.ireturn, 1) := by decide +kernel
theorem dX7_asked_0 : decode cX7_asked 0 = .ok (.aload_n 0, 1) := by decide +kernel
theorem dX7_asked_1 : decode cX7_asked 1 = .ok (.iload_n 1, 1) := by decide +kernel
theorem dX7_asked_2 : decode cX7_asked 2 = .ok (.invokevirtual 101, 3) := by decide +kernel
theorem dX7_asked_5 : decode cX7_asked 5 = .ok (.istore_n 3, 1) := by decide +kernel
theorem dX7_asked_6 : decode cX7_asked 6 = .ok (.aload_n 0, 1) := by decide +kernel
theorem dX7_asked_7 : decode cX7_asked 7 = .ok (.iload_n 3, 1) := by decide +kernel
theorem dX7_asked_8 : decode cX7_asked 8 = .ok (.iconst (-1), 1) := by decide +kernel
theorem dX7_asked_9 : decode cX7_asked 9 = .ok (.if_icmp .ne 7, 3) := by decide +kernel
theorem dX7_asked_12 : decode cX7_asked 12 = .ok (.iconst 1, 1) := by decide +kernel
theorem dX7_asked_13 : decode cX7_asked 13 = .ok (.goto 4, 3) := by decide +kernel
theorem dX7_asked_16 : decode cX7_asked 16 = .ok (.iconst 0, 1) := by decide +kernel
theorem dX7_asked_17 : decode cX7_asked 17 = .ok (.putfield 47, 3) := by decide +kernel
theorem dX7_asked_20 : decode cX7_asked 20 = .ok (.aload_n 0, 1) := by decide +kernel
theorem dX7_asked_21 : decode cX7_asked 21 = .ok (.getfield 47, 3) := by decide +kernel
theorem dX7_asked_24 : decode cX7_asked 24 = .ok (.ifCond .le 7, 3) := by decide +kernel
theorem dX7_asked_27 : decode cX7_asked 27 = .ok (.iconst 0, 1) := by decide +kernel
theorem dX7_asked_28 : decode cX7_asked 28 = .ok (.goto 9, 3) := by decide +kernel
theorem dX7_asked_31 : decode cX7_asked 31 = .ok (.aload_n 0, 1) := by decide +kernel
theorem dX7_asked_32 : decode cX7_asked 32 = .ok (.iload_n 3, 1) := by decide +kernel
theorem dX7_asked_33 : decode cX7_asked 33 = .ok (.iload_n 2, 1) := by decide +kernel
theorem dX7_asked_34 : decode cX7_asked 34 = .ok (.invokevirtual 63, 3) := by decide +kernel
theorem dX7_asked_37 : decode cX7_asked 37 = .ok (.ireturn, 1) := by decide +kernel
theorem dX7_kind_0 : decode cX7_kind 0 = .ok (.aload_n 0, 1) := by decide +kernel
theorem dX7_kind_1 : decode cX7_kind 1 = .ok (.iload_n 1, 1) := by decide +kernel
theorem dX7_kind_2 : decode cX7_kind 2 = .ok (.iconst 1, 1) := by decide +kernel
theorem dX7_kind_3 : decode cX7_kind 3 = .ok (.invokevirtual 139, 3) := by decide +kernel
theorem dX7_kind_6 : decode cX7_kind 6 = .ok (.i2c, 1) := by decide +kernel
theorem dX7_kind_7 : decode cX7_kind 7 = .ok (.ireturn, 1) := by decide +kernel
theorem dX7_quantity_0 : decode cX7_quantity 0 = .ok (.aload_n 0, 1) := by decide +kernel
theorem dX7_quantity_1 : decode cX7_quantity 1 = .ok (.iload_n 1, 1) := by decide +kernel
theorem dX7_quantity_2 : decode cX7_quantity 2 = .ok (.iconst 2, 1) := by decide +kernel
theorem dX7_quantity_3 : decode cX7_quantity 3 = .ok (.invokevirtual 139, 3) := by decide +kernel
theorem dX7_quantity_6 : decode cX7_quantity 6 = .ok (.ireturn, 1) := by decide +kernel
theorem dX7_price_0 : decode cX7_price 0 = .ok (.aload_n 0, 1) := by decide +kernel
theorem dX7_price_1 : decode cX7_price 1 = .ok (.iload_n 1, 1) := by decide +kernel
theorem dX7_price_2 : decode cX7_price 2 = .ok (.iconst 3, 1) := by decide +kernel
theorem dX7_price_3 : decode cX7_price 3 = .ok (.invokevirtual 139, 3) := by decide +kernel
theorem dX7_price_6 : decode cX7_price 6 = .ok (.ireturn, 1) := by decide +kernel
theorem dX7_value_0 : decode cX7_value 0 = .ok (.aload_n 0, 1) := by decide +kernel
theorem dX7_value_1 : decode cX7_value 1 = .ok (.iload_n 1, 1) := by decide +kernel
theorem dX7_value_2 : decode cX7_value 2 = .ok (.iconst 2, 1) := by decide +kernel
theorem dX7_value_3 : decode cX7_value 3 = .ok (.invokevirtual 139, 3) := by decide +kernel
theorem dX7_value_6 : decode cX7_value 6 = .ok (.aload_n 0, 1) := by decide +kernel
theorem dX7_value_7 : decode cX7_value 7 = .ok (.iload_n 1, 1) := by decide +kernel
theorem dX7_value_8 : decode cX7_value 8 = .ok (.iconst 3, 1) := by decide +kernel
theorem dX7_value_9 : decode cX7_value 9 = .ok (.invokevirtual 139, 3) := by decide +kernel
theorem dX7_value_12 : decode cX7_value 12 = .ok (.imul, 1) := by decide +kernel
theorem dX7_value_13 : decode cX7_value 13 = .ok (.ireturn, 1) := by decide +kernel
theorem dX7_bay_0 : decode cX7_bay 0 = .ok (.aload_n 0, 1) := by decide +kernel
theorem dX7_bay_1 : decode cX7_bay 1 = .ok (.iload_n 1, 1) := by decide +kernel
theorem dX7_bay_2 : decode cX7_bay 2 = .ok (.iconst 4, 1) := by decide +kernel
theorem dX7_bay_3 : decode cX7_bay 3 = .ok (.invokevirtual 139, 3) := by decide +kernel
theorem dX7_bay_6 : decode cX7_bay 6 = .ok (.ireturn, 1) := by decide +kernel
theorem dX7_isSealed_0 : decode cX7_isSealed 0 = .ok (.aload_n 0, 1) := by decide +kernel
theorem dX7_isSealed_1 : decode cX7_isSealed 1 = .ok (.iload_n 1, 1) := by decide +kernel
theorem dX7_isSealed_2 : decode cX7_isSealed 2 = .ok (.iconst 5, 1) := by decide +kernel
theorem dX7_isSealed_3 : decode cX7_isSealed 3 = .ok (.invokevirtual 139, 3) := by decide +kernel
theorem dX7_isSealed_6 : decode cX7_isSealed 6 = .ok (.iconst 1, 1) := by decide +kernel
theorem dX7_isSealed_7 : decode cX7_isSealed 7 = .ok (.if_icmp .ne 7, 3) := by decide +kernel
theorem dX7_isSealed_10 : decode cX7_isSealed 10 = .ok (.iconst 1, 1) := by decide +kernel
theorem dX7_isSealed_11 : decode cX7_isSealed 11 = .ok (.goto 4, 3) := by decide +kernel
theorem dX7_isSealed_14 : decode cX7_isSealed 14 = .ok (.iconst 0, 1) := by decide +kernel
theorem dX7_isSealed_15 : decode cX7_isSealed 15 = .ok (.ireturn, 1) := by decide +kernel
theorem dX7_isDamp_0 : decode cX7_isDamp 0 = .ok (.aload_n 0, 1) := by decide +kernel
theorem dX7_isDamp_1 : decode cX7_isDamp 1 = .ok (.iload_n 1, 1) := by decide +kernel
theorem dX7_isDamp_2 : decode cX7_isDamp 2 = .ok (.bipush 6, 2) := by decide +kernel
theorem dX7_isDamp_4 : decode cX7_isDamp 4 = .ok (.invokevirtual 139, 3) := by decide +kernel
theorem dX7_isDamp_7 : decode cX7_isDamp 7 = .ok (.iconst 1, 1) := by decide +kernel
theorem dX7_isDamp_8 : decode cX7_isDamp 8 = .ok (.if_icmp .ne 7, 3) := by decide +kernel
theorem dX7_isDamp_11 : decode cX7_isDamp 11 = .ok (.iconst 1, 1) := by decide +kernel
theorem dX7_isDamp_12 : decode cX7_isDamp 12 = .ok (.goto 4, 3) := by decide +kernel
theorem dX7_isDamp_15 : decode cX7_isDamp 15 = .ok (.iconst 0, 1) := by decide +kernel
theorem dX7_isDamp_16 : decode cX7_isDamp 16 = .ok (.ireturn, 1) := by decide +kernel
theorem dX7_lotAt_0 : decode cX7_lotAt 0 = .ok (.aload_n 0, 1) := by decide +kernel
theorem dX7_lotAt_1 : decode cX7_lotAt 1 = .ok (.iload_n 1, 1) := by decide +kernel
theorem dX7_lotAt_2 : decode cX7_lotAt 2 = .ok (.invokestatic 84, 3) := by decide +kernel
theorem dX7_lotAt_5 : decode cX7_lotAt 5 = .ok (.ifCond .ne 7, 3) := by decide +kernel
theorem dX7_lotAt_8 : decode cX7_lotAt 8 = .ok (.iconst 1, 1) := by decide +kernel
theorem dX7_lotAt_9 : decode cX7_lotAt 9 = .ok (.goto 17, 3) := by decide +kernel
theorem dX7_lotAt_12 : decode cX7_lotAt 12 = .ok (.aload_n 0, 1) := by decide +kernel
theorem dX7_lotAt_13 : decode cX7_lotAt 13 = .ok (.iload_n 1, 1) := by decide +kernel
theorem dX7_lotAt_14 : decode cX7_lotAt 14 = .ok (.invokevirtual 91, 3) := by decide +kernel
theorem dX7_lotAt_17 : decode cX7_lotAt 17 = .ok (.iconst (-1), 1) := by decide +kernel
theorem dX7_lotAt_18 : decode cX7_lotAt 18 = .ok (.if_icmp .ne 7, 3) := by decide +kernel
theorem dX7_lotAt_21 : decode cX7_lotAt 21 = .ok (.iconst 2, 1) := by decide +kernel
theorem dX7_lotAt_22 : decode cX7_lotAt 22 = .ok (.goto 4, 3) := by decide +kernel
theorem dX7_lotAt_25 : decode cX7_lotAt 25 = .ok (.iconst 0, 1) := by decide +kernel
theorem dX7_lotAt_26 : decode cX7_lotAt 26 = .ok (.putfield 47, 3) := by decide +kernel
theorem dX7_lotAt_29 : decode cX7_lotAt 29 = .ok (.aload_n 0, 1) := by decide +kernel
theorem dX7_lotAt_30 : decode cX7_lotAt 30 = .ok (.getfield 47, 3) := by decide +kernel
theorem dX7_lotAt_33 : decode cX7_lotAt 33 = .ok (.ifCond .le 7, 3) := by decide +kernel
theorem dX7_lotAt_36 : decode cX7_lotAt 36 = .ok (.iconst 0, 1) := by decide +kernel
theorem dX7_lotAt_37 : decode cX7_lotAt 37 = .ok (.goto 13, 3) := by decide +kernel
theorem dX7_lotAt_40 : decode cX7_lotAt 40 = .ok (.aload_n 0, 1) := by decide +kernel
theorem dX7_lotAt_41 : decode cX7_lotAt 41 = .ok (.aload_n 0, 1) := by decide +kernel
theorem dX7_lotAt_42 : decode cX7_lotAt 42 = .ok (.iload_n 1, 1) := by decide +kernel
theorem dX7_lotAt_43 : decode cX7_lotAt 43 = .ok (.invokevirtual 91, 3) := by decide +kernel
theorem dX7_lotAt_46 : decode cX7_lotAt 46 = .ok (.iconst 0, 1) := by decide +kernel
theorem dX7_lotAt_47 : decode cX7_lotAt 47 = .ok (.invokevirtual 63, 3) := by decide +kernel
theorem dX7_lotAt_50 : decode cX7_lotAt 50 = .ok (.ireturn, 1) := by decide +kernel
theorem dX7_nextEmptyBay_0 : decode cX7_nextEmptyBay 0 = .ok (.aload_n 0, 1) := by decide +kernel
theorem dX7_nextEmptyBay_1 : decode cX7_nextEmptyBay 1 = .ok (.iload_n 1, 1) := by decide +kernel
theorem dX7_nextEmptyBay_2 : decode cX7_nextEmptyBay 2 = .ok (.invokestatic 84, 3) := by decide +kernel
theorem dX7_nextEmptyBay_5 : decode cX7_nextEmptyBay 5 = .ok (.ifCond .eq 7, 3) := by decide +kernel
theorem dX7_nextEmptyBay_8 : decode cX7_nextEmptyBay 8 = .ok (.iconst 0, 1) := by decide +kernel
theorem dX7_nextEmptyBay_9 : decode cX7_nextEmptyBay 9 = .ok (.goto 4, 3) := by decide +kernel
theorem dX7_nextEmptyBay_12 : decode cX7_nextEmptyBay 12 = .ok (.iconst 1, 1) := by decide +kernel
theorem dX7_nextEmptyBay_13 : decode cX7_nextEmptyBay 13 = .ok (.putfield 47, 3) := by decide +kernel
theorem dX7_nextEmptyBay_16 : decode cX7_nextEmptyBay 16 = .ok (.aload_n 0, 1) := by decide +kernel
theorem dX7_nextEmptyBay_17 : decode cX7_nextEmptyBay 17 = .ok (.getfield 47, 3) := by decide +kernel
theorem dX7_nextEmptyBay_20 : decode cX7_nextEmptyBay 20 = .ok (.ifCond .le 5, 3) := by decide +kernel
theorem dX7_nextEmptyBay_23 : decode cX7_nextEmptyBay 23 = .ok (.iconst 0, 1) := by decide +kernel
theorem dX7_nextEmptyBay_24 : decode cX7_nextEmptyBay 24 = .ok (.ireturn, 1) := by decide +kernel
theorem dX7_nextEmptyBay_25 : decode cX7_nextEmptyBay 25 = .ok (.iload_n 1, 1) := by decide +kernel
theorem dX7_nextEmptyBay_26 : decode cX7_nextEmptyBay 26 = .ok (.istore_n 2, 1) := by decide +kernel
theorem dX7_nextEmptyBay_27 : decode cX7_nextEmptyBay 27 = .ok (.iload_n 2, 1) := by decide +kernel
theorem dX7_nextEmptyBay_28 : decode cX7_nextEmptyBay 28 = .ok (.bipush 24, 2) := by decide +kernel
theorem dX7_nextEmptyBay_30 : decode cX7_nextEmptyBay 30 = .ok (.if_icmp .ge 20, 3) := by decide +kernel
theorem dX7_nextEmptyBay_33 : decode cX7_nextEmptyBay 33 = .ok (.aload_n 0, 1) := by decide +kernel
theorem dX7_nextEmptyBay_34 : decode cX7_nextEmptyBay 34 = .ok (.iload_n 2, 1) := by decide +kernel
theorem dX7_nextEmptyBay_35 : decode cX7_nextEmptyBay 35 = .ok (.invokevirtual 91, 3) := by decide +kernel
theorem dX7_nextEmptyBay_38 : decode cX7_nextEmptyBay 38 = .ok (.iconst (-1), 1) := by decide +kernel
theorem dX7_nextEmptyBay_39 : decode cX7_nextEmptyBay 39 = .ok (.if_icmp .ne 5, 3) := by decide +kernel
theorem dX7_nextEmptyBay_42 : decode cX7_nextEmptyBay 42 = .ok (.iload_n 2, 1) := by decide +kernel
theorem dX7_nextEmptyBay_43 : decode cX7_nextEmptyBay 43 = .ok (.ireturn, 1) := by decide +kernel
theorem dX7_nextEmptyBay_44 : decode cX7_nextEmptyBay 44 = .ok (.iinc 2 1, 3) := by decide +kernel
theorem dX7_nextEmptyBay_47 : decode cX7_nextEmptyBay 47 = .ok (.goto (-20), 3) := by decide +kernel
theorem dX7_nextEmptyBay_50 : decode cX7_nextEmptyBay 50 = .ok (.aload_n 0, 1) := by decide +kernel
theorem dX7_nextEmptyBay_51 : decode cX7_nextEmptyBay 51 = .ok (.iconst 2, 1) := by decide +kernel
theorem dX7_nextEmptyBay_52 : decode cX7_nextEmptyBay 52 = .ok (.invokevirtual 60, 3) := by decide +kernel
theorem dX7_nextEmptyBay_55 : decode cX7_nextEmptyBay 55 = .ok (.ireturn, 1) := by decide +kernel
theorem dX7_quantityOfKind_0 : decode cX7_quantityOfKind 0 = .ok (.aload_n 0, 1) := by decide +kernel
theorem dX7_quantityOfKind_1 : decode cX7_quantityOfKind 1 = .ok (.iload_n 1, 1) := by decide +kernel
theorem dX7_quantityOfKind_2 : decode cX7_quantityOfKind 2 = .ok (.invokestatic 88, 3) := by decide +kernel
theorem dX7_quantityOfKind_5 : decode cX7_quantityOfKind 5 = .ok (.ifCond .eq 7, 3) := by decide +kernel
theorem dX7_quantityOfKind_8 : decode cX7_quantityOfKind 8 = .ok (.iconst 0, 1) := by decide +kernel
theorem dX7_quantityOfKind_9 : decode cX7_quantityOfKind 9 = .ok (.goto 4, 3) := by decide +kernel
theorem dX7_quantityOfKind_12 : decode cX7_quantityOfKind 12 = .ok (.iconst 1, 1) := by decide +kernel
theorem dX7_quantityOfKind_13 : decode cX7_quantityOfKind 13 = .ok (.putfield 47, 3) := by decide +kernel
theorem dX7_quantityOfKind_16 : decode cX7_quantityOfKind 16 = .ok (.iconst 0, 1) := by decide +kernel
theorem dX7_quantityOfKind_17 : decode cX7_quantityOfKind 17 = .ok (.istore_n 2, 1) := by decide +kernel
theorem dX7_quantityOfKind_18 : decode cX7_quantityOfKind 18 = .ok (.iconst 0, 1) := by decide +kernel
theorem dX7_quantityOfKind_19 : decode cX7_quantityOfKind 19 = .ok (.istore_n 3, 1) := by decide +kernel
theorem dX7_quantityOfKind_20 : decode cX7_quantityOfKind 20 = .ok (.iload_n 3, 1) := by decide +kernel
theorem dX7_quantityOfKind_21 : decode cX7_quantityOfKind 21 = .ok (.aload_n 0, 1) := by decide +kernel
theorem dX7_quantityOfKind_22 : decode cX7_quantityOfKind 22 = .ok (.getfield 7, 3) := by decide +kernel
theorem dX7_quantityOfKind_25 : decode cX7_quantityOfKind 25 = .ok (.iconst 1, 1) := by decide +kernel
theorem dX7_quantityOfKind_26 : decode cX7_quantityOfKind 26 = .ok (.iaload, 1) := by decide +kernel
theorem dX7_quantityOfKind_27 : decode cX7_quantityOfKind 27 = .ok (.if_icmp .ge 39, 3) := by decide +kernel
theorem dX7_quantityOfKind_30 : decode cX7_quantityOfKind 30 = .ok (.aload_n 0, 1) := by decide +kernel
theorem dX7_quantityOfKind_31 : decode cX7_quantityOfKind 31 = .ok (.getfield 47, 3) := by decide +kernel
theorem dX7_quantityOfKind_34 : decode cX7_quantityOfKind 34 = .ok (.ifCond .ne 32, 3) := by decide +kernel
theorem dX7_quantityOfKind_37 : decode cX7_quantityOfKind 37 = .ok (.iload_n 2, 1) := by decide +kernel
theorem dX7_quantityOfKind_38 : decode cX7_quantityOfKind 38 = .ok (.aload_n 0, 1) := by decide +kernel
theorem dX7_quantityOfKind_39 : decode cX7_quantityOfKind 39 = .ok (.iload_n 3, 1) := by decide +kernel
theorem dX7_quantityOfKind_40 : decode cX7_quantityOfKind 40 = .ok (.iconst 1, 1) := by decide +kernel
theorem dX7_quantityOfKind_41 : decode cX7_quantityOfKind 41 = .ok (.invokevirtual 63, 3) := by decide +kernel
theorem dX7_quantityOfKind_44 : decode cX7_quantityOfKind 44 = .ok (.iload_n 1, 1) := by decide +kernel
theorem dX7_quantityOfKind_45 : decode cX7_quantityOfKind 45 = .ok (.if_icmp .ne 12, 3) := by decide +kernel
theorem dX7_quantityOfKind_48 : decode cX7_quantityOfKind 48 = .ok (.aload_n 0, 1) := by decide +kernel
theorem dX7_quantityOfKind_49 : decode cX7_quantityOfKind 49 = .ok (.iload_n 3, 1) := by decide +kernel
theorem dX7_quantityOfKind_50 : decode cX7_quantityOfKind 50 = .ok (.iconst 2, 1) := by decide +kernel
theorem dX7_quantityOfKind_51 : decode cX7_quantityOfKind 51 = .ok (.invokevirtual 63, 3) := by decide +kernel
theorem dX7_quantityOfKind_54 : decode cX7_quantityOfKind 54 = .ok (.goto 4, 3) := by decide +kernel
theorem dX7_quantityOfKind_57 : decode cX7_quantityOfKind 57 = .ok (.iconst 0, 1) := by decide +kernel
theorem dX7_quantityOfKind_58 : decode cX7_quantityOfKind 58 = .ok (.iadd, 1) := by decide +kernel
theorem dX7_quantityOfKind_59 : decode cX7_quantityOfKind 59 = .ok (.istore_n 2, 1) := by decide +kernel
theorem dX7_quantityOfKind_60 : decode cX7_quantityOfKind 60 = .ok (.iinc 3 1, 3) := by decide +kernel
theorem dX7_quantityOfKind_63 : decode cX7_quantityOfKind 63 = .ok (.goto (-43), 3) := by decide +kernel
theorem dX7_quantityOfKind_66 : decode cX7_quantityOfKind 66 = .ok (.iload_n 2, 1) := by decide +kernel
theorem dX7_quantityOfKind_67 : decode cX7_quantityOfKind 67 = .ok (.ireturn, 1) := by decide +kernel
theorem dX7_lotByValue_0 : decode cX7_lotByValue 0 = .ok (.aload_n 0, 1) := by decide +kernel
theorem dX7_lotByValue_1 : decode cX7_lotByValue 1 = .ok (.iconst 0, 1) := by decide +kernel
theorem dX7_lotByValue_2 : decode cX7_lotByValue 2 = .ok (.putfield 47, 3) := by decide +kernel
theorem dX7_lotByValue_5 : decode cX7_lotByValue 5 = .ok (.iconst 0, 1) := by decide +kernel
theorem dX7_lotByValue_6 : decode cX7_lotByValue 6 = .ok (.istore_n 2, 1) := by decide +kernel
theorem dX7_lotByValue_7 : decode cX7_lotByValue 7 = .ok (.iload_n 2, 1) := by decide +kernel
theorem dX7_lotByValue_8 : decode cX7_lotByValue 8 = .ok (.aload_n 0, 1) := by decide +kernel
theorem dX7_lotByValue_9 : decode cX7_lotByValue 9 = .ok (.getfield 7, 3) := by decide +kernel
theorem dX7_lotByValue_12 : decode cX7_lotByValue 12 = .ok (.iconst 1, 1) := by decide +kernel
theorem dX7_lotByValue_13 : decode cX7_lotByValue 13 = .ok (.iaload, 1) := by decide +kernel
theorem dX7_lotByValue_14 : decode cX7_lotByValue 14 = .ok (.if_icmp .ge 85, 3) := by decide +kernel
theorem dX7_lotByValue_17 : decode cX7_lotByValue 17 = .ok (.iconst 0, 1) := by decide +kernel
theorem dX7_lotByValue_18 : decode cX7_lotByValue 18 = .ok (.istore_n 3, 1) := by decide +kernel
theorem dX7_lotByValue_19 : decode cX7_lotByValue 19 = .ok (.iconst 0, 1) := by decide +kernel
theorem dX7_lotByValue_20 : decode cX7_lotByValue 20 = .ok (.istore 4, 2) := by decide +kernel
theorem dX7_lotByValue_22 : decode cX7_lotByValue 22 = .ok (.iload 4, 2) := by decide +kernel
theorem dX7_lotByValue_24 : decode cX7_lotByValue 24 = .ok (.aload_n 0, 1) := by decide +kernel
theorem dX7_lotByValue_25 : decode cX7_lotByValue 25 = .ok (.getfield 7, 3) := by decide +kernel
theorem dX7_lotByValue_28 : decode cX7_lotByValue 28 = .ok (.iconst 1, 1) := by decide +kernel
theorem dX7_lotByValue_29 : decode cX7_lotByValue 29 = .ok (.iaload, 1) := by decide +kernel
theorem dX7_lotByValue_30 : decode cX7_lotByValue 30 = .ok (.if_icmp .ge 51, 3) := by decide +kernel
theorem dX7_lotByValue_33 : decode cX7_lotByValue 33 = .ok (.iload_n 3, 1) := by decide +kernel
theorem dX7_lotByValue_34 : decode cX7_lotByValue 34 = .ok (.aload_n 0, 1) := by decide +kernel
theorem dX7_lotByValue_35 : decode cX7_lotByValue 35 = .ok (.iload 4, 2) := by decide +kernel
theorem dX7_lotByValue_37 : decode cX7_lotByValue 37 = .ok (.invokevirtual 71, 3) := by decide +kernel
theorem dX7_lotByValue_40 : decode cX7_lotByValue 40 = .ok (.aload_n 0, 1) := by decide +kernel
theorem dX7_lotByValue_41 : decode cX7_lotByValue 41 = .ok (.iload_n 2, 1) := by decide +kernel
theorem dX7_lotByValue_42 : decode cX7_lotByValue 42 = .ok (.invokevirtual 71, 3) := by decide +kernel
theorem dX7_lotByValue_45 : decode cX7_lotByValue 45 = .ok (.if_icmp .gt 23, 3) := by decide +kernel
theorem dX7_lotByValue_48 : decode cX7_lotByValue 48 = .ok (.aload_n 0, 1) := by decide +kernel
theorem dX7_lotByValue_49 : decode cX7_lotByValue 49 = .ok (.iload 4, 2) := by decide +kernel
theorem dX7_lotByValue_51 : decode cX7_lotByValue 51 = .ok (.invokevirtual 71, 3) := by decide +kernel
theorem dX7_lotByValue_54 : decode cX7_lotByValue 54 = .ok (.aload_n 0, 1) := by decide +kernel
theorem dX7_lotByValue_55 : decode cX7_lotByValue 55 = .ok (.iload_n 2, 1) := by decide +kernel
theorem dX7_lotByValue_56 : decode cX7_lotByValue 56 = .ok (.invokevirtual 71, 3) := by decide +kernel
theorem dX7_lotByValue_59 : decode cX7_lotByValue 59 = .ok (.if_icmp .ne 13, 3) := by decide +kernel
theorem dX7_lotByValue_62 : decode cX7_lotByValue 62 = .ok (.iload 4, 2) := by decide +kernel
theorem dX7_lotByValue_64 : decode cX7_lotByValue 64 = .ok (.iload_n 2, 1) := by decide +kernel
theorem dX7_lotByValue_65 : decode cX7_lotByValue 65 = .ok (.if_icmp .ge 7, 3) := by decide +kernel
theorem dX7_lotByValue_68 : decode cX7_lotByValue 68 = .ok (.iconst 1, 1) := by decide +kernel
theorem dX7_lotByValue_69 : decode cX7_lotByValue 69 = .ok (.goto 4, 3) := by decide +kernel
theorem dX7_lotByValue_72 : decode cX7_lotByValue 72 = .ok (.iconst 0, 1) := by decide +kernel
theorem dX7_lotByValue_73 : decode cX7_lotByValue 73 = .ok (.iadd, 1) := by decide +kernel
theorem dX7_lotByValue_74 : decode cX7_lotByValue 74 = .ok (.istore_n 3, 1) := by decide +kernel
theorem dX7_lotByValue_75 : decode cX7_lotByValue 75 = .ok (.iinc 4 1, 3) := by decide +kernel
theorem dX7_lotByValue_78 : decode cX7_lotByValue 78 = .ok (.goto (-56), 3) := by decide +kernel
theorem dX7_lotByValue_81 : decode cX7_lotByValue 81 = .ok (.iload_n 3, 1) := by decide +kernel
theorem dX7_lotByValue_82 : decode cX7_lotByValue 82 = .ok (.iload_n 1, 1) := by decide +kernel
theorem dX7_lotByValue_83 : decode cX7_lotByValue 83 = .ok (.if_icmp .ne 10, 3) := by decide +kernel
theorem dX7_lotByValue_86 : decode cX7_lotByValue 86 = .ok (.aload_n 0, 1) := by decide +kernel
theorem dX7_lotByValue_87 : decode cX7_lotByValue 87 = .ok (.iload_n 2, 1) := by decide +kernel
theorem dX7_lotByValue_88 : decode cX7_lotByValue 88 = .ok (.iconst 0, 1) := by decide +kernel
theorem dX7_lotByValue_89 : decode cX7_lotByValue 89 = .ok (.invokevirtual 63, 3) := by decide +kernel
theorem dX7_lotByValue_92 : decode cX7_lotByValue 92 = .ok (.ireturn, 1) := by decide +kernel
theorem dX7_lotByValue_93 : decode cX7_lotByValue 93 = .ok (.iinc 2 1, 3) := by decide +kernel
theorem dX7_lotByValue_96 : decode cX7_lotByValue 96 = .ok (.goto (-89), 3) := by decide +kernel
theorem dX7_lotByValue_99 : decode cX7_lotByValue 99 = .ok (.aload_n 0, 1) := by decide +kernel
theorem dX7_lotByValue_100 : decode cX7_lotByValue 100 = .ok (.iconst 1, 1) := by decide +kernel
theorem dX7_lotByValue_101 : decode cX7_lotByValue 101 = .ok (.invokevirtual 60, 3) := by decide +kernel
theorem dX7_lotByValue_104 : decode cX7_lotByValue 104 = .ok (.ireturn, 1) := by decide +kernel
theorem dX7_addStep_0 : decode cX7_addStep 0 = .ok (.aload_n 0, 1) := by decide +kernel
theorem dX7_addStep_1 : decode cX7_addStep 1 = .ok (.invokevirtual 117, 3) := by decide +kernel
theorem dX7_addStep_4 : decode cX7_addStep 4 = .ok (.aload_n 0, 1) := by decide +kernel
theorem dX7_addStep_5 : decode cX7_addStep 5 = .ok (.aload_n 0, 1) := by decide +kernel
theorem dX7_addStep_6 : decode cX7_addStep 6 = .ok (.iload_n 1, 1) := by decide +kernel
theorem dX7_addStep_7 : decode cX7_addStep 7 = .ok (.iload_n 2, 1) := by decide +kernel
theorem dX7_addStep_8 : decode cX7_addStep 8 = .ok (.invokevirtual 142, 3) := by decide +kernel
theorem dX7_addStep_11 : decode cX7_addStep 11 = .ok (.invokevirtual 124, 3) := by decide +kernel
theorem dX7_addStep_14 : decode cX7_addStep 14 = .ok (.ireturn, 1) := by decide +kernel
theorem dX7_removeStep_0 : decode cX7_removeStep 0 = .ok (.aload_n 0, 1) := by decide +kernel
theorem dX7_removeStep_1 : decode cX7_removeStep 1 = .ok (.invokevirtual 117, 3) := by decide +kernel
theorem dX7_removeStep_4 : decode cX7_removeStep 4 = .ok (.aload_n 0, 1) := by decide +kernel
theorem dX7_removeStep_5 : decode cX7_removeStep 5 = .ok (.aload_n 0, 1) := by decide +kernel
theorem dX7_removeStep_6 : decode cX7_removeStep 6 = .ok (.iload_n 1, 1) := by decide +kernel
theorem dX7_removeStep_7 : decode cX7_removeStep 7 = .ok (.invokevirtual 145, 3) := by decide +kernel
theorem dX7_removeStep_10 : decode cX7_removeStep 10 = .ok (.invokevirtual 124, 3) := by decide +kernel
theorem dX7_removeStep_13 : decode cX7_removeStep 13 = .ok (.ireturn, 1) := by decide +kernel
theorem dX7_stepCount_0 : decode cX7_stepCount 0 = .ok (.aload_n 0, 1) := by decide +kernel
theorem dX7_stepCount_1 : decode cX7_stepCount 1 = .ok (.iconst 0, 1) := by decide +kernel
theorem dX7_stepCount_2 : decode cX7_stepCount 2 = .ok (.putfield 47, 3) := by decide +kernel
theorem dX7_stepCount_5 : decode cX7_stepCount 5 = .ok (.aload_n 0, 1) := by decide +kernel
theorem dX7_stepCount_6 : decode cX7_stepCount 6 = .ok (.getfield 7, 3) := by decide +kernel
theorem dX7_stepCount_9 : decode cX7_stepCount 9 = .ok (.iconst 2, 1) := by decide +kernel
theorem dX7_stepCount_10 : decode cX7_stepCount 10 = .ok (.iaload, 1) := by decide +kernel
theorem dX7_stepCount_11 : decode cX7_stepCount 11 = .ok (.ireturn, 1) := by decide +kernel
theorem dX7_threshold_0 : decode cX7_threshold 0 = .ok (.aload_n 0, 1) := by decide +kernel
theorem dX7_threshold_1 : decode cX7_threshold 1 = .ok (.iload_n 1, 1) := by decide +kernel
theorem dX7_threshold_2 : decode cX7_threshold 2 = .ok (.iconst 0, 1) := by decide +kernel
theorem dX7_threshold_3 : decode cX7_threshold 3 = .ok (.aload_n 0, 1) := by decide +kernel
theorem dX7_threshold_4 : decode cX7_threshold 4 = .ok (.getfield 7, 3) := by decide +kernel
theorem dX7_threshold_7 : decode cX7_threshold 7 = .ok (.iconst 2, 1) := by decide +kernel
theorem dX7_threshold_8 : decode cX7_threshold 8 = .ok (.iaload, 1) := by decide +kernel
theorem dX7_threshold_9 : decode cX7_threshold 9 = .ok (.iconst 1, 1) := by decide +kernel
theorem dX7_threshold_10 : decode cX7_threshold 10 = .ok (.isub, 1) := by decide +kernel
theorem dX7_threshold_11 : decode cX7_threshold 11 = .ok (.invokestatic 67, 3) := by decide +kernel
theorem dX7_threshold_14 : decode cX7_threshold 14 = .ok (.ifCond .eq 7, 3) := by decide +kernel
theorem dX7_threshold_17 : decode cX7_threshold 17 = .ok (.iconst 0, 1) := by decide +kernel
theorem dX7_threshold_18 : decode cX7_threshold 18 = .ok (.goto 4, 3) := by decide +kernel
theorem dX7_threshold_21 : decode cX7_threshold 21 = .ok (.iconst 1, 1) := by decide +kernel
theorem dX7_threshold_22 : decode cX7_threshold 22 = .ok (.putfield 47, 3) := by decide +kernel
theorem dX7_threshold_25 : decode cX7_threshold 25 = .ok (.aload_n 0, 1) := by decide +kernel
theorem dX7_threshold_26 : decode cX7_threshold 26 = .ok (.getfield 47, 3) := by decide +kernel
theorem dX7_threshold_29 : decode cX7_threshold 29 = .ok (.ifCond .le 7, 3) := by decide +kernel
theorem dX7_threshold_32 : decode cX7_threshold 32 = .ok (.iconst 0, 1) := by decide +kernel
theorem dX7_threshold_33 : decode cX7_threshold 33 = .ok (.goto 14, 3) := by decide +kernel
theorem dX7_threshold_36 : decode cX7_threshold 36 = .ok (.aload_n 0, 1) := by decide +kernel
theorem dX7_threshold_37 : decode cX7_threshold 37 = .ok (.getfield 7, 3) := by decide +kernel
theorem dX7_threshold_40 : decode cX7_threshold 40 = .ok (.bipush 120, 2) := by decide +kernel
theorem dX7_threshold_42 : decode cX7_threshold 42 = .ok (.iconst 2, 1) := by decide +kernel
theorem dX7_threshold_43 : decode cX7_threshold 43 = .ok (.iload_n 1, 1) := by decide +kernel
theorem dX7_threshold_44 : decode cX7_threshold 44 = .ok (.imul, 1) := by decide +kernel
theorem dX7_threshold_45 : decode cX7_threshold 45 = .ok (.iadd, 1) := by decide +kernel
theorem dX7_threshold_46 : decode cX7_threshold 46 = .ok (.iaload, 1) := by decide +kernel
theorem dX7_threshold_47 : decode cX7_threshold 47 = .ok (.ireturn, 1) := by decide +kernel
theorem dX7_rate_0 : decode cX7_rate 0 = .ok (.aload_n 0, 1) := by decide +kernel
theorem dX7_rate_1 : decode cX7_rate 1 = .ok (.iload_n 1, 1) := by decide +kernel
theorem dX7_rate_2 : decode cX7_rate 2 = .ok (.iconst 0, 1) := by decide +kernel
theorem dX7_rate_3 : decode cX7_rate 3 = .ok (.aload_n 0, 1) := by decide +kernel
theorem dX7_rate_4 : decode cX7_rate 4 = .ok (.getfield 7, 3) := by decide +kernel
theorem dX7_rate_7 : decode cX7_rate 7 = .ok (.iconst 2, 1) := by decide +kernel
theorem dX7_rate_8 : decode cX7_rate 8 = .ok (.iaload, 1) := by decide +kernel
theorem dX7_rate_9 : decode cX7_rate 9 = .ok (.iconst 1, 1) := by decide +kernel
theorem dX7_rate_10 : decode cX7_rate 10 = .ok (.isub, 1) := by decide +kernel
theorem dX7_rate_11 : decode cX7_rate 11 = .ok (.invokestatic 67, 3) := by decide +kernel
theorem dX7_rate_14 : decode cX7_rate 14 = .ok (.ifCond .eq 7, 3) := by decide +kernel
theorem dX7_rate_17 : decode cX7_rate 17 = .ok (.iconst 0, 1) := by decide +kernel
theorem dX7_rate_18 : decode cX7_rate 18 = .ok (.goto 4, 3) := by decide +kernel
theorem dX7_rate_21 : decode cX7_rate 21 = .ok (.iconst 1, 1) := by decide +kernel
theorem dX7_rate_22 : decode cX7_rate 22 = .ok (.putfield 47, 3) := by decide +kernel
theorem dX7_rate_25 : decode cX7_rate 25 = .ok (.aload_n 0, 1) := by decide +kernel
theorem dX7_rate_26 : decode cX7_rate 26 = .ok (.getfield 47, 3) := by decide +kernel
theorem dX7_rate_29 : decode cX7_rate 29 = .ok (.ifCond .le 7, 3) := by decide +kernel
theorem dX7_rate_32 : decode cX7_rate 32 = .ok (.iconst 0, 1) := by decide +kernel
theorem dX7_rate_33 : decode cX7_rate 33 = .ok (.goto 16, 3) := by decide +kernel
theorem dX7_rate_36 : decode cX7_rate 36 = .ok (.aload_n 0, 1) := by decide +kernel
theorem dX7_rate_37 : decode cX7_rate 37 = .ok (.getfield 7, 3) := by decide +kernel
theorem dX7_rate_40 : decode cX7_rate 40 = .ok (.bipush 120, 2) := by decide +kernel
theorem dX7_rate_42 : decode cX7_rate 42 = .ok (.iconst 2, 1) := by decide +kernel
theorem dX7_rate_43 : decode cX7_rate 43 = .ok (.iload_n 1, 1) := by decide +kernel
theorem dX7_rate_44 : decode cX7_rate 44 = .ok (.imul, 1) := by decide +kernel
theorem dX7_rate_45 : decode cX7_rate 45 = .ok (.iadd, 1) := by decide +kernel
theorem dX7_rate_46 : decode cX7_rate 46 = .ok (.iconst 1, 1) := by decide +kernel
theorem dX7_rate_47 : decode cX7_rate 47 = .ok (.iadd, 1) := by decide +kernel
theorem dX7_rate_48 : decode cX7_rate 48 = .ok (.iaload, 1) := by decide +kernel
theorem dX7_rate_49 : decode cX7_rate 49 = .ok (.ireturn, 1) := by decide +kernel
theorem dX7_dutyOn_0 : decode cX7_dutyOn 0 = .ok (.aload_n 0, 1) := by decide +kernel
theorem dX7_dutyOn_1 : decode cX7_dutyOn 1 = .ok (.iload_n 1, 1) := by decide +kernel
theorem dX7_dutyOn_2 : decode cX7_dutyOn 2 = .ok (.iconst 0, 1) := by decide +kernel
theorem dX7_dutyOn_3 : decode cX7_dutyOn 3 = .ok (.sipush 9999, 3) := by decide +kernel
theorem dX7_dutyOn_6 : decode cX7_dutyOn 6 = .ok (.invokestatic 67, 3) := by decide +kernel
theorem dX7_dutyOn_9 : decode cX7_dutyOn 9 = .ok (.ifCond .eq 7, 3) := by decide +kernel
theorem dX7_dutyOn_12 : decode cX7_dutyOn 12 = .ok (.iconst 0, 1) := by decide +kernel
theorem dX7_dutyOn_13 : decode cX7_dutyOn 13 = .ok (.goto 4, 3) := by decide +kernel
theorem dX7_dutyOn_16 : decode cX7_dutyOn 16 = .ok (.iconst 1, 1) := by decide +kernel
theorem dX7_dutyOn_17 : decode cX7_dutyOn 17 = .ok (.putfield 47, 3) := by decide +kernel
theorem dX7_dutyOn_20 : decode cX7_dutyOn 20 = .ok (.aload_n 0, 1) := by decide +kernel
theorem dX7_dutyOn_21 : decode cX7_dutyOn 21 = .ok (.getfield 47, 3) := by decide +kernel
theorem dX7_dutyOn_24 : decode cX7_dutyOn 24 = .ok (.ifCond .le 7, 3) := by decide +kernel
theorem dX7_dutyOn_27 : decode cX7_dutyOn 27 = .ok (.iconst 0, 1) := by decide +kernel
theorem dX7_dutyOn_28 : decode cX7_dutyOn 28 = .ok (.goto 8, 3) := by decide +kernel
theorem dX7_dutyOn_31 : decode cX7_dutyOn 31 = .ok (.aload_n 0, 1) := by decide +kernel
theorem dX7_dutyOn_32 : decode cX7_dutyOn 32 = .ok (.iload_n 1, 1) := by decide +kernel
theorem dX7_dutyOn_33 : decode cX7_dutyOn 33 = .ok (.invokevirtual 74, 3) := by decide +kernel
theorem dX7_dutyOn_36 : decode cX7_dutyOn 36 = .ok (.ireturn, 1) := by decide +kernel
theorem dX7_dutyOnByCoins_0 : decode cX7_dutyOnByCoins 0 = .ok (.aload_n 0, 1) := by decide +kernel
theorem dX7_dutyOnByCoins_1 : decode cX7_dutyOnByCoins 1 = .ok (.iload_n 1, 1) := by decide +kernel
theorem dX7_dutyOnByCoins_2 : decode cX7_dutyOnByCoins 2 = .ok (.invokevirtual 148, 3) := by decide +kernel
theorem dX7_dutyOnByCoins_5 : decode cX7_dutyOnByCoins 5 = .ok (.ireturn, 1) := by decide +kernel
theorem dX7_duty_0 : decode cX7_duty 0 = .ok (.aload_n 0, 1) := by decide +kernel
theorem dX7_duty_1 : decode cX7_duty 1 = .ok (.iload_n 1, 1) := by decide +kernel
theorem dX7_duty_2 : decode cX7_duty 2 = .ok (.invokevirtual 101, 3) := by decide +kernel
theorem dX7_duty_5 : decode cX7_duty 5 = .ok (.istore_n 2, 1) := by decide +kernel
theorem dX7_duty_6 : decode cX7_duty 6 = .ok (.aload_n 0, 1) := by decide +kernel
theorem dX7_duty_7 : decode cX7_duty 7 = .ok (.iload_n 2, 1) := by decide +kernel
theorem dX7_duty_8 : decode cX7_duty 8 = .ok (.iconst (-1), 1) := by decide +kernel
theorem dX7_duty_9 : decode cX7_duty 9 = .ok (.if_icmp .ne 7, 3) := by decide +kernel
theorem dX7_duty_12 : decode cX7_duty 12 = .ok (.iconst 1, 1) := by decide +kernel
theorem dX7_duty_13 : decode cX7_duty 13 = .ok (.goto 4, 3) := by decide +kernel
theorem dX7_duty_16 : decode cX7_duty 16 = .ok (.iconst 0, 1) := by decide +kernel
theorem dX7_duty_17 : decode cX7_duty 17 = .ok (.putfield 47, 3) := by decide +kernel
theorem dX7_duty_20 : decode cX7_duty 20 = .ok (.aload_n 0, 1) := by decide +kernel
theorem dX7_duty_21 : decode cX7_duty 21 = .ok (.getfield 47, 3) := by decide +kernel
theorem dX7_duty_24 : decode cX7_duty 24 = .ok (.ifCond .le 7, 3) := by decide +kernel
theorem dX7_duty_27 : decode cX7_duty 27 = .ok (.iconst 0, 1) := by decide +kernel
theorem dX7_duty_28 : decode cX7_duty 28 = .ok (.goto 8, 3) := by decide +kernel
theorem dX7_duty_31 : decode cX7_duty 31 = .ok (.aload_n 0, 1) := by decide +kernel
theorem dX7_duty_32 : decode cX7_duty 32 = .ok (.iload_n 2, 1) := by decide +kernel
theorem dX7_duty_33 : decode cX7_duty 33 = .ok (.invokevirtual 114, 3) := by decide +kernel
theorem dX7_duty_36 : decode cX7_duty 36 = .ok (.ireturn, 1) := by decide +kernel
theorem dX7_totalDuty_0 : decode cX7_totalDuty 0 = .ok (.aload_n 0, 1) := by decide +kernel
theorem dX7_totalDuty_1 : decode cX7_totalDuty 1 = .ok (.iconst 0, 1) := by decide +kernel
theorem dX7_totalDuty_2 : decode cX7_totalDuty 2 = .ok (.putfield 47, 3) := by decide +kernel
theorem dX7_totalDuty_5 : decode cX7_totalDuty 5 = .ok (.iconst 0, 1) := by decide +kernel
theorem dX7_totalDuty_6 : decode cX7_totalDuty 6 = .ok (.istore_n 1, 1) := by decide +kernel
theorem dX7_totalDuty_7 : decode cX7_totalDuty 7 = .ok (.iconst 0, 1) := by decide +kernel
theorem dX7_totalDuty_8 : decode cX7_totalDuty 8 = .ok (.istore_n 2, 1) := by decide +kernel
theorem dX7_totalDuty_9 : decode cX7_totalDuty 9 = .ok (.iload_n 2, 1) := by decide +kernel
theorem dX7_totalDuty_10 : decode cX7_totalDuty 10 = .ok (.aload_n 0, 1) := by decide +kernel
theorem dX7_totalDuty_11 : decode cX7_totalDuty 11 = .ok (.getfield 7, 3) := by decide +kernel
theorem dX7_totalDuty_14 : decode cX7_totalDuty 14 = .ok (.iconst 1, 1) := by decide +kernel
theorem dX7_totalDuty_15 : decode cX7_totalDuty 15 = .ok (.iaload, 1) := by decide +kernel
theorem dX7_totalDuty_16 : decode cX7_totalDuty 16 = .ok (.if_icmp .ge 17, 3) := by decide +kernel
theorem dX7_totalDuty_19 : decode cX7_totalDuty 19 = .ok (.iload_n 1, 1) := by decide +kernel
theorem dX7_totalDuty_20 : decode cX7_totalDuty 20 = .ok (.aload_n 0, 1) := by decide +kernel
theorem dX7_totalDuty_21 : decode cX7_totalDuty 21 = .ok (.iload_n 2, 1) := by decide +kernel
theorem dX7_totalDuty_22 : decode cX7_totalDuty 22 = .ok (.invokevirtual 114, 3) := by decide +kernel
theorem dX7_totalDuty_25 : decode cX7_totalDuty 25 = .ok (.iadd, 1) := by decide +kernel
theorem dX7_totalDuty_26 : decode cX7_totalDuty 26 = .ok (.istore_n 1, 1) := by decide +kernel
theorem dX7_totalDuty_27 : decode cX7_totalDuty 27 = .ok (.iinc 2 1, 3) := by decide +kernel
theorem dX7_totalDuty_30 : decode cX7_totalDuty 30 = .ok (.goto (-21), 3) := by decide +kernel
theorem dX7_totalDuty_33 : decode cX7_totalDuty 33 = .ok (.iload_n 1, 1) := by decide +kernel
theorem dX7_totalDuty_34 : decode cX7_totalDuty 34 = .ok (.ireturn, 1) := by decide +kernel
theorem dX7_totalDutyByBays_0 : decode cX7_totalDutyByBays 0 = .ok (.aload_n 0, 1) := by decide +kernel
theorem dX7_totalDutyByBays_1 : decode cX7_totalDutyByBays 1 = .ok (.invokevirtual 151, 3) := by decide +kernel
theorem dX7_totalDutyByBays_4 : decode cX7_totalDutyByBays 4 = .ok (.ireturn, 1) := by decide +kernel
theorem dX7_passDays_0 : decode cX7_passDays 0 = .ok (.aload_n 0, 1) := by decide +kernel
theorem dX7_passDays_1 : decode cX7_passDays 1 = .ok (.invokevirtual 117, 3) := by decide +kernel
theorem dX7_passDays_4 : decode cX7_passDays 4 = .ok (.aload_n 0, 1) := by decide +kernel
theorem dX7_passDays_5 : decode cX7_passDays 5 = .ok (.aload_n 0, 1) := by decide +kernel
theorem dX7_passDays_6 : decode cX7_passDays 6 = .ok (.iload_n 1, 1) := by decide +kernel
theorem dX7_passDays_7 : decode cX7_passDays 7 = .ok (.invokevirtual 154, 3) := by decide +kernel
theorem dX7_passDays_10 : decode cX7_passDays 10 = .ok (.invokevirtual 124, 3) := by decide +kernel
theorem dX7_passDays_13 : decode cX7_passDays 13 = .ok (.ireturn, 1) := by decide +kernel
theorem dX7_day_0 : decode cX7_day 0 = .ok (.aload_n 0, 1) := by decide +kernel
theorem dX7_day_1 : decode cX7_day 1 = .ok (.iconst 0, 1) := by decide +kernel
theorem dX7_day_2 : decode cX7_day 2 = .ok (.putfield 47, 3) := by decide +kernel
theorem dX7_day_5 : decode cX7_day 5 = .ok (.aload_n 0, 1) := by decide +kernel
theorem dX7_day_6 : decode cX7_day 6 = .ok (.getfield 7, 3) := by decide +kernel
theorem dX7_day_9 : decode cX7_day 9 = .ok (.iconst 3, 1) := by decide +kernel
theorem dX7_day_10 : decode cX7_day 10 = .ok (.iaload, 1) := by decide +kernel
theorem dX7_day_11 : decode cX7_day 11 = .ok (.ireturn, 1) := by decide +kernel
theorem dX7_dampCount_0 : decode cX7_dampCount 0 = .ok (.aload_n 0, 1) := by decide +kernel
theorem dX7_dampCount_1 : decode cX7_dampCount 1 = .ok (.iconst 0, 1) := by decide +kernel
theorem dX7_dampCount_2 : decode cX7_dampCount 2 = .ok (.putfield 47, 3) := by decide +kernel
theorem dX7_dampCount_5 : decode cX7_dampCount 5 = .ok (.aload_n 0, 1) := by decide +kernel
theorem dX7_dampCount_6 : decode cX7_dampCount 6 = .ok (.bipush 6, 2) := by decide +kernel
theorem dX7_dampCount_8 : decode cX7_dampCount 8 = .ok (.invokevirtual 104, 3) := by decide +kernel
theorem dX7_dampCount_11 : decode cX7_dampCount 11 = .ok (.ireturn, 1) := by decide +kernel
theorem dX7_dampAfter_0 : decode cX7_dampAfter 0 = .ok (.aload_n 0, 1) := by decide +kernel
theorem dX7_dampAfter_1 : decode cX7_dampAfter 1 = .ok (.iload_n 1, 1) := by decide +kernel
theorem dX7_dampAfter_2 : decode cX7_dampAfter 2 = .ok (.iconst 0, 1) := by decide +kernel
theorem dX7_dampAfter_3 : decode cX7_dampAfter 3 = .ok (.bipush 30, 2) := by decide +kernel
theorem dX7_dampAfter_5 : decode cX7_dampAfter 5 = .ok (.invokestatic 67, 3) := by decide +kernel
theorem dX7_dampAfter_8 : decode cX7_dampAfter 8 = .ok (.ifCond .eq 7, 3) := by decide +kernel
theorem dX7_dampAfter_11 : decode cX7_dampAfter 11 = .ok (.iconst 0, 1) := by decide +kernel
theorem dX7_dampAfter_12 : decode cX7_dampAfter 12 = .ok (.goto 4, 3) := by decide +kernel
theorem dX7_dampAfter_15 : decode cX7_dampAfter 15 = .ok (.iconst 1, 1) := by decide +kernel
theorem dX7_dampAfter_16 : decode cX7_dampAfter 16 = .ok (.putfield 47, 3) := by decide +kernel
theorem dX7_dampAfter_19 : decode cX7_dampAfter 19 = .ok (.aload_n 0, 1) := by decide +kernel
theorem dX7_dampAfter_20 : decode cX7_dampAfter 20 = .ok (.getfield 47, 3) := by decide +kernel
theorem dX7_dampAfter_23 : decode cX7_dampAfter 23 = .ok (.ifCond .le 5, 3) := by decide +kernel
theorem dX7_dampAfter_26 : decode cX7_dampAfter 26 = .ok (.iconst 0, 1) := by decide +kernel
theorem dX7_dampAfter_27 : decode cX7_dampAfter 27 = .ok (.ireturn, 1) := by decide +kernel
theorem dX7_dampAfter_28 : decode cX7_dampAfter 28 = .ok (.iconst 0, 1) := by decide +kernel
theorem dX7_dampAfter_29 : decode cX7_dampAfter 29 = .ok (.istore_n 2, 1) := by decide +kernel
theorem dX7_dampAfter_30 : decode cX7_dampAfter 30 = .ok (.iload_n 2, 1) := by decide +kernel
theorem dX7_dampAfter_31 : decode cX7_dampAfter 31 = .ok (.sipush 148, 3) := by decide +kernel
theorem dX7_dampAfter_34 : decode cX7_dampAfter 34 = .ok (.if_icmp .ge 21, 3) := by decide +kernel
theorem dX7_dampAfter_37 : decode cX7_dampAfter 37 = .ok (.aload_n 0, 1) := by decide +kernel
theorem dX7_dampAfter_38 : decode cX7_dampAfter 38 = .ok (.getfield 22, 3) := by decide +kernel
theorem dX7_dampAfter_41 : decode cX7_dampAfter 41 = .ok (.iload_n 2, 1) := by decide +kernel
theorem dX7_dampAfter_42 : decode cX7_dampAfter 42 = .ok (.aload_n 0, 1) := by decide +kernel
theorem dX7_dampAfter_43 : decode cX7_dampAfter 43 = .ok (.getfield 7, 3) := by decide +kernel
theorem dX7_dampAfter_46 : decode cX7_dampAfter 46 = .ok (.iload_n 2, 1) := by decide +kernel
theorem dX7_dampAfter_47 : decode cX7_dampAfter 47 = .ok (.iaload, 1) := by decide +kernel
theorem dX7_dampAfter_48 : decode cX7_dampAfter 48 = .ok (.iastore, 1) := by decide +kernel
theorem dX7_dampAfter_49 : decode cX7_dampAfter 49 = .ok (.iinc 2 1, 3) := by decide +kernel
theorem dX7_dampAfter_52 : decode cX7_dampAfter 52 = .ok (.goto (-22), 3) := by decide +kernel
theorem dX7_dampAfter_55 : decode cX7_dampAfter 55 = .ok (.iconst 0, 1) := by decide +kernel
theorem dX7_dampAfter_56 : decode cX7_dampAfter 56 = .ok (.istore_n 2, 1) := by decide +kernel
theorem dX7_dampAfter_57 : decode cX7_dampAfter 57 = .ok (.iconst 0, 1) := by decide +kernel
theorem dX7_dampAfter_58 : decode cX7_dampAfter 58 = .ok (.istore_n 3, 1) := by decide +kernel
theorem dX7_dampAfter_59 : decode cX7_dampAfter 59 = .ok (.iload_n 3, 1) := by decide +kernel
theorem dX7_dampAfter_60 : decode cX7_dampAfter 60 = .ok (.iload_n 1, 1) := by decide +kernel
theorem dX7_dampAfter_61 : decode cX7_dampAfter 61 = .ok (.if_icmp .ge 16, 3) := by decide +kernel
theorem dX7_dampAfter_64 : decode cX7_dampAfter 64 = .ok (.iload_n 2, 1) := by decide +kernel
theorem dX7_dampAfter_65 : decode cX7_dampAfter 65 = .ok (.aload_n 0, 1) := by decide +kernel
theorem dX7_dampAfter_66 : decode cX7_dampAfter 66 = .ok (.invokevirtual 110, 3) := by decide +kernel
theorem dX7_dampAfter_69 : decode cX7_dampAfter 69 = .ok (.iadd, 1) := by decide +kernel
theorem dX7_dampAfter_70 : decode cX7_dampAfter 70 = .ok (.istore_n 2, 1) := by decide +kernel
theorem dX7_dampAfter_71 : decode cX7_dampAfter 71 = .ok (.iinc 3 1, 3) := by decide +kernel
theorem dX7_dampAfter_74 : decode cX7_dampAfter 74 = .ok (.goto (-15), 3) := by decide +kernel
theorem dX7_dampAfter_77 : decode cX7_dampAfter 77 = .ok (.aload_n 0, 1) := by decide +kernel
theorem dX7_dampAfter_78 : decode cX7_dampAfter 78 = .ok (.bipush 6, 2) := by decide +kernel
theorem dX7_dampAfter_80 : decode cX7_dampAfter 80 = .ok (.invokevirtual 104, 3) := by decide +kernel
theorem dX7_dampAfter_83 : decode cX7_dampAfter 83 = .ok (.istore_n 3, 1) := by decide +kernel
theorem dX7_dampAfter_84 : decode cX7_dampAfter 84 = .ok (.iconst 0, 1) := by decide +kernel
theorem dX7_dampAfter_85 : decode cX7_dampAfter 85 = .ok (.istore 4, 2) := by decide +kernel
theorem dX7_dampAfter_87 : decode cX7_dampAfter 87 = .ok (.iload 4, 2) := by decide +kernel
theorem dX7_dampAfter_89 : decode cX7_dampAfter 89 = .ok (.sipush 148, 3) := by decide +kernel
theorem dX7_dampAfter_92 : decode cX7_dampAfter 92 = .ok (.if_icmp .ge 23, 3) := by decide +kernel
theorem dX7_dampAfter_95 : decode cX7_dampAfter 95 = .ok (.aload_n 0, 1) := by decide +kernel
theorem dX7_dampAfter_96 : decode cX7_dampAfter 96 = .ok (.getfield 7, 3) := by decide +kernel
theorem dX7_dampAfter_99 : decode cX7_dampAfter 99 = .ok (.iload 4, 2) := by decide +kernel
theorem dX7_dampAfter_101 : decode cX7_dampAfter 101 = .ok (.aload_n 0, 1) := by decide +kernel
theorem dX7_dampAfter_102 : decode cX7_dampAfter 102 = .ok (.getfield 22, 3) := by decide +kernel
theorem dX7_dampAfter_105 : decode cX7_dampAfter 105 = .ok (.iload 4, 2) := by decide +kernel
theorem dX7_dampAfter_107 : decode cX7_dampAfter 107 = .ok (.iaload, 1) := by decide +kernel
theorem dX7_dampAfter_108 : decode cX7_dampAfter 108 = .ok (.iastore, 1) := by decide +kernel
theorem dX7_dampAfter_109 : decode cX7_dampAfter 109 = .ok (.iinc 4 1, 3) := by decide +kernel
theorem dX7_dampAfter_112 : decode cX7_dampAfter 112 = .ok (.goto (-25), 3) := by decide +kernel
theorem dX7_dampAfter_115 : decode cX7_dampAfter 115 = .ok (.iload_n 3, 1) := by decide +kernel
theorem dX7_dampAfter_116 : decode cX7_dampAfter 116 = .ok (.ireturn, 1) := by decide +kernel
theorem dX7_dampReach_0 : decode cX7_dampReach 0 = .ok (.aload_n 0, 1) := by decide +kernel
theorem dX7_dampReach_1 : decode cX7_dampReach 1 = .ok (.iconst 0, 1) := by decide +kernel
theorem dX7_dampReach_2 : decode cX7_dampReach 2 = .ok (.putfield 47, 3) := by decide +kernel
theorem dX7_dampReach_5 : decode cX7_dampReach 5 = .ok (.iconst 0, 1) := by decide +kernel
theorem dX7_dampReach_6 : decode cX7_dampReach 6 = .ok (.istore_n 1, 1) := by decide +kernel
theorem dX7_dampReach_7 : decode cX7_dampReach 7 = .ok (.iload_n 1, 1) := by decide +kernel
theorem dX7_dampReach_8 : decode cX7_dampReach 8 = .ok (.bipush 24, 2) := by decide +kernel
theorem dX7_dampReach_10 : decode cX7_dampReach 10 = .ok (.if_icmp .ge 16, 3) := by decide +kernel
theorem dX7_dampReach_13 : decode cX7_dampReach 13 = .ok (.aload_n 0, 1) := by decide +kernel
theorem dX7_dampReach_14 : decode cX7_dampReach 14 = .ok (.getfield 37, 3) := by decide +kernel
theorem dX7_dampReach_17 : decode cX7_dampReach 17 = .ok (.iload_n 1, 1) := by decide +kernel
theorem dX7_dampReach_18 : decode cX7_dampReach 18 = .ok (.iconst 0, 1) := by decide +kernel
theorem dX7_dampReach_19 : decode cX7_dampReach 19 = .ok (.iastore, 1) := by decide +kernel
theorem dX7_dampReach_20 : decode cX7_dampReach 20 = .ok (.iinc 1 1, 3) := by decide +kernel
theorem dX7_dampReach_23 : decode cX7_dampReach 23 = .ok (.goto (-16), 3) := by decide +kernel
theorem dX7_dampReach_26 : decode cX7_dampReach 26 = .ok (.iconst 0, 1) := by decide +kernel
theorem dX7_dampReach_27 : decode cX7_dampReach 27 = .ok (.istore_n 1, 1) := by decide +kernel
theorem dX7_dampReach_28 : decode cX7_dampReach 28 = .ok (.iload_n 1, 1) := by decide +kernel
theorem dX7_dampReach_29 : decode cX7_dampReach 29 = .ok (.aload_n 0, 1) := by decide +kernel
theorem dX7_dampReach_30 : decode cX7_dampReach 30 = .ok (.getfield 7, 3) := by decide +kernel
theorem dX7_dampReach_33 : decode cX7_dampReach 33 = .ok (.iconst 1, 1) := by decide +kernel
theorem dX7_dampReach_34 : decode cX7_dampReach 34 = .ok (.iaload, 1) := by decide +kernel
theorem dX7_dampReach_35 : decode cX7_dampReach 35 = .ok (.if_icmp .ge 27, 3) := by decide +kernel
theorem dX7_dampReach_38 : decode cX7_dampReach 38 = .ok (.aload_n 0, 1) := by decide +kernel
theorem dX7_dampReach_39 : decode cX7_dampReach 39 = .ok (.getfield 37, 3) := by decide +kernel
theorem dX7_dampReach_42 : decode cX7_dampReach 42 = .ok (.aload_n 0, 1) := by decide +kernel
theorem dX7_dampReach_43 : decode cX7_dampReach 43 = .ok (.iload_n 1, 1) := by decide +kernel
theorem dX7_dampReach_44 : decode cX7_dampReach 44 = .ok (.iconst 4, 1) := by decide +kernel
theorem dX7_dampReach_45 : decode cX7_dampReach 45 = .ok (.invokevirtual 63, 3) := by decide +kernel
theorem dX7_dampReach_48 : decode cX7_dampReach 48 = .ok (.aload_n 0, 1) := by decide +kernel
theorem dX7_dampReach_49 : decode cX7_dampReach 49 = .ok (.iload_n 1, 1) := by decide +kernel
theorem dX7_dampReach_50 : decode cX7_dampReach 50 = .ok (.bipush 6, 2) := by decide +kernel
theorem dX7_dampReach_52 : decode cX7_dampReach 52 = .ok (.invokevirtual 63, 3) := by decide +kernel
theorem dX7_dampReach_55 : decode cX7_dampReach 55 = .ok (.iastore, 1) := by decide +kernel
theorem dX7_dampReach_56 : decode cX7_dampReach 56 = .ok (.iinc 1 1, 3) := by decide +kernel
theorem dX7_dampReach_59 : decode cX7_dampReach 59 = .ok (.goto (-31), 3) := by decide +kernel
theorem dX7_dampReach_62 : decode cX7_dampReach 62 = .ok (.iconst 0, 1) := by decide +kernel
theorem dX7_dampReach_63 : decode cX7_dampReach 63 = .ok (.istore_n 1, 1) := by decide +kernel
theorem dX7_dampReach_64 : decode cX7_dampReach 64 = .ok (.iload_n 1, 1) := by decide +kernel
theorem dX7_dampReach_65 : decode cX7_dampReach 65 = .ok (.bipush 24, 2) := by decide +kernel
theorem dX7_dampReach_67 : decode cX7_dampReach 67 = .ok (.if_icmp .ge 86, 3) := by decide +kernel
theorem dX7_dampReach_70 : decode cX7_dampReach 70 = .ok (.iconst 0, 1) := by decide +kernel
theorem dX7_dampReach_71 : decode cX7_dampReach 71 = .ok (.istore_n 2, 1) := by decide +kernel
theorem dX7_dampReach_72 : decode cX7_dampReach 72 = .ok (.iload_n 2, 1) := by decide +kernel
theorem dX7_dampReach_73 : decode cX7_dampReach 73 = .ok (.aload_n 0, 1) := by decide +kernel
theorem dX7_dampReach_74 : decode cX7_dampReach 74 = .ok (.getfield 7, 3) := by decide +kernel
theorem dX7_dampReach_77 : decode cX7_dampReach 77 = .ok (.iconst 1, 1) := by decide +kernel
theorem dX7_dampReach_78 : decode cX7_dampReach 78 = .ok (.iaload, 1) := by decide +kernel
theorem dX7_dampReach_79 : decode cX7_dampReach 79 = .ok (.if_icmp .ge 68, 3) := by decide +kernel
theorem dX7_dampReach_82 : decode cX7_dampReach 82 = .ok (.aload_n 0, 1) := by decide +kernel
theorem dX7_dampReach_83 : decode cX7_dampReach 83 = .ok (.iload_n 2, 1) := by decide +kernel
theorem dX7_dampReach_84 : decode cX7_dampReach 84 = .ok (.iconst 4, 1) := by decide +kernel
theorem dX7_dampReach_85 : decode cX7_dampReach 85 = .ok (.invokevirtual 63, 3) := by decide +kernel
theorem dX7_dampReach_88 : decode cX7_dampReach 88 = .ok (.istore_n 3, 1) := by decide +kernel
theorem dX7_dampReach_89 : decode cX7_dampReach 89 = .ok (.aload_n 0, 1) := by decide +kernel
theorem dX7_dampReach_90 : decode cX7_dampReach 90 = .ok (.iload_n 2, 1) := by decide +kernel
theorem dX7_dampReach_91 : decode cX7_dampReach 91 = .ok (.iconst 5, 1) := by decide +kernel
theorem dX7_dampReach_92 : decode cX7_dampReach 92 = .ok (.invokevirtual 63, 3) := by decide +kernel
theorem dX7_dampReach_95 : decode cX7_dampReach 95 = .ok (.ifCond .ne 46, 3) := by decide +kernel
theorem dX7_dampReach_98 : decode cX7_dampReach 98 = .ok (.iload_n 3, 1) := by decide +kernel
theorem dX7_dampReach_99 : decode cX7_dampReach 99 = .ok (.ifCond .le 15, 3) := by decide +kernel
theorem dX7_dampReach_102 : decode cX7_dampReach 102 = .ok (.aload_n 0, 1) := by decide +kernel
theorem dX7_dampReach_103 : decode cX7_dampReach 103 = .ok (.getfield 37, 3) := by decide +kernel
theorem dX7_dampReach_106 : decode cX7_dampReach 106 = .ok (.iload_n 3, 1) := by decide +kernel
theorem dX7_dampReach_107 : decode cX7_dampReach 107 = .ok (.iconst 1, 1) := by decide +kernel
theorem dX7_dampReach_108 : decode cX7_dampReach 108 = .ok (.isub, 1) := by decide +kernel
theorem dX7_dampReach_109 : decode cX7_dampReach 109 = .ok (.iaload, 1) := by decide +kernel
theorem dX7_dampReach_110 : decode cX7_dampReach 110 = .ok (.iconst 1, 1) := by decide +kernel
theorem dX7_dampReach_111 : decode cX7_dampReach 111 = .ok (.if_icmp .eq 23, 3) := by decide +kernel
theorem dX7_dampReach_114 : decode cX7_dampReach 114 = .ok (.iload_n 3, 1) := by decide +kernel
theorem dX7_dampReach_115 : decode cX7_dampReach 115 = .ok (.iconst 1, 1) := by decide +kernel
theorem dX7_dampReach_116 : decode cX7_dampReach 116 = .ok (.iadd, 1) := by decide +kernel
theorem dX7_dampReach_117 : decode cX7_dampReach 117 = .ok (.bipush 24, 2) := by decide +kernel
theorem dX7_dampReach_119 : decode cX7_dampReach 119 = .ok (.if_icmp .ge 22, 3) := by decide +kernel
theorem dX7_dampReach_122 : decode cX7_dampReach 122 = .ok (.aload_n 0, 1) := by decide +kernel
theorem dX7_dampReach_123 : decode cX7_dampReach 123 = .ok (.getfield 37, 3) := by decide +kernel
theorem dX7_dampReach_126 : decode cX7_dampReach 126 = .ok (.iload_n 3, 1) := by decide +kernel
theorem dX7_dampReach_127 : decode cX7_dampReach 127 = .ok (.iconst 1, 1) := by decide +kernel
theorem dX7_dampReach_128 : decode cX7_dampReach 128 = .ok (.iadd, 1) := by decide +kernel
theorem dX7_dampReach_129 : decode cX7_dampReach 129 = .ok (.iaload, 1) := by decide +kernel
theorem dX7_dampReach_130 : decode cX7_dampReach 130 = .ok (.iconst 1, 1) := by decide +kernel
theorem dX7_dampReach_131 : decode cX7_dampReach 131 = .ok (.if_icmp .ne 10, 3) := by decide +kernel
theorem dX7_dampReach_134 : decode cX7_dampReach 134 = .ok (.aload_n 0, 1) := by decide +kernel
theorem dX7_dampReach_135 : decode cX7_dampReach 135 = .ok (.getfield 37, 3) := by decide +kernel
theorem dX7_dampReach_138 : decode cX7_dampReach 138 = .ok (.iload_n 3, 1) := by decide +kernel
theorem dX7_dampReach_139 : decode cX7_dampReach 139 = .ok (.iconst 1, 1) := by decide +kernel
theorem dX7_dampReach_140 : decode cX7_dampReach 140 = .ok (.iastore, 1) := by decide +kernel
theorem dX7_dampReach_141 : decode cX7_dampReach 141 = .ok (.iinc 2 1, 3) := by decide +kernel
theorem dX7_dampReach_144 : decode cX7_dampReach 144 = .ok (.goto (-72), 3) := by decide +kernel
theorem dX7_dampReach_147 : decode cX7_dampReach 147 = .ok (.iinc 1 1, 3) := by decide +kernel
theorem dX7_dampReach_150 : decode cX7_dampReach 150 = .ok (.goto (-86), 3) := by decide +kernel
theorem dX7_dampReach_153 : decode cX7_dampReach 153 = .ok (.iconst 0, 1) := by decide +kernel
theorem dX7_dampReach_154 : decode cX7_dampReach 154 = .ok (.istore_n 1, 1) := by decide +kernel
theorem dX7_dampReach_155 : decode cX7_dampReach 155 = .ok (.iconst 0, 1) := by decide +kernel
theorem dX7_dampReach_156 : decode cX7_dampReach 156 = .ok (.istore_n 2, 1) := by decide +kernel
theorem dX7_dampReach_157 : decode cX7_dampReach 157 = .ok (.iload_n 2, 1) := by decide +kernel
theorem dX7_dampReach_158 : decode cX7_dampReach 158 = .ok (.bipush 24, 2) := by decide +kernel
theorem dX7_dampReach_160 : decode cX7_dampReach 160 = .ok (.if_icmp .ge 18, 3) := by decide +kernel
theorem dX7_dampReach_163 : decode cX7_dampReach 163 = .ok (.iload_n 1, 1) := by decide +kernel
theorem dX7_dampReach_164 : decode cX7_dampReach 164 = .ok (.aload_n 0, 1) := by decide +kernel
theorem dX7_dampReach_165 : decode cX7_dampReach 165 = .ok (.getfield 37, 3) := by decide +kernel
theorem dX7_dampReach_168 : decode cX7_dampReach 168 = .ok (.iload_n 2, 1) := by decide +kernel
theorem dX7_dampReach_169 : decode cX7_dampReach 169 = .ok (.iaload, 1) := by decide +kernel
theorem dX7_dampReach_170 : decode cX7_dampReach 170 = .ok (.iadd, 1) := by decide +kernel
theorem dX7_dampReach_171 : decode cX7_dampReach 171 = .ok (.istore_n 1, 1) := by decide +kernel
theorem dX7_dampReach_172 : decode cX7_dampReach 172 = .ok (.iinc 2 1, 3) := by decide +kernel
theorem dX7_dampReach_175 : decode cX7_dampReach 175 = .ok (.goto (-18), 3) := by decide +kernel
theorem dX7_dampReach_178 : decode cX7_dampReach 178 = .ok (.iload_n 1, 1) := by decide +kernel
theorem dX7_dampReach_179 : decode cX7_dampReach 179 = .ok (.ireturn, 1) := by decide +kernel
theorem dX7_dampReachByStretches_0 : decode cX7_dampReachByStretches 0 = .ok (.aload_n 0, 1) := by decide +kernel
theorem dX7_dampReachByStretches_1 : decode cX7_dampReachByStretches 1 = .ok (.invokevirtual 157, 3) := by decide +kernel
theorem dX7_dampReachByStretches_4 : decode cX7_dampReachByStretches 4 = .ok (.ireturn, 1) := by decide +kernel
theorem dX7_destroyedCount_0 : decode cX7_destroyedCount 0 = .ok (.aload_n 0, 1) := by decide +kernel
theorem dX7_destroyedCount_1 : decode cX7_destroyedCount 1 = .ok (.iconst 0, 1) := by decide +kernel
theorem dX7_destroyedCount_2 : decode cX7_destroyedCount 2 = .ok (.putfield 47, 3) := by decide +kernel
theorem dX7_destroyedCount_5 : decode cX7_destroyedCount 5 = .ok (.aload_n 0, 1) := by decide +kernel
theorem dX7_destroyedCount_6 : decode cX7_destroyedCount 6 = .ok (.getfield 7, 3) := by decide +kernel
theorem dX7_destroyedCount_9 : decode cX7_destroyedCount 9 = .ok (.bipush 6, 2) := by decide +kernel
theorem dX7_destroyedCount_11 : decode cX7_destroyedCount 11 = .ok (.iaload, 1) := by decide +kernel
theorem dX7_destroyedCount_12 : decode cX7_destroyedCount 12 = .ok (.ireturn, 1) := by decide +kernel
theorem dX7_enqueue_0 : decode cX7_enqueue 0 = .ok (.aload_n 0, 1) := by decide +kernel
theorem dX7_enqueue_1 : decode cX7_enqueue 1 = .ok (.invokevirtual 117, 3) := by decide +kernel
theorem dX7_enqueue_4 : decode cX7_enqueue 4 = .ok (.aload_n 0, 1) := by decide +kernel
theorem dX7_enqueue_5 : decode cX7_enqueue 5 = .ok (.aload_n 0, 1) := by decide +kernel
theorem dX7_enqueue_6 : decode cX7_enqueue 6 = .ok (.iload_n 1, 1) := by decide +kernel
theorem dX7_enqueue_7 : decode cX7_enqueue 7 = .ok (.invokevirtual 160, 3) := by decide +kernel
theorem dX7_enqueue_10 : decode cX7_enqueue 10 = .ok (.invokevirtual 124, 3) := by decide +kernel
theorem dX7_enqueue_13 : decode cX7_enqueue 13 = .ok (.ireturn, 1) := by decide +kernel
theorem dX7_audit_0 : decode cX7_audit 0 = .ok (.aload_n 0, 1) := by decide +kernel
theorem dX7_audit_1 : decode cX7_audit 1 = .ok (.invokevirtual 117, 3) := by decide +kernel
theorem dX7_audit_4 : decode cX7_audit 4 = .ok (.aload_n 0, 1) := by decide +kernel
theorem dX7_audit_5 : decode cX7_audit 5 = .ok (.aload_n 0, 1) := by decide +kernel
theorem dX7_audit_6 : decode cX7_audit 6 = .ok (.invokevirtual 163, 3) := by decide +kernel
theorem dX7_audit_9 : decode cX7_audit 9 = .ok (.invokevirtual 124, 3) := by decide +kernel
theorem dX7_audit_12 : decode cX7_audit 12 = .ok (.ireturn, 1) := by decide +kernel
theorem dX7_queueLength_0 : decode cX7_queueLength 0 = .ok (.aload_n 0, 1) := by decide +kernel
theorem dX7_queueLength_1 : decode cX7_queueLength 1 = .ok (.iconst 0, 1) := by decide +kernel
theorem dX7_queueLength_2 : decode cX7_queueLength 2 = .ok (.putfield 47, 3) := by decide +kernel
theorem dX7_queueLength_5 : decode cX7_queueLength 5 = .ok (.aload_n 0, 1) := by decide +kernel
theorem dX7_queueLength_6 : decode cX7_queueLength 6 = .ok (.getfield 7, 3) := by decide +kernel
theorem dX7_queueLength_9 : decode cX7_queueLength 9 = .ok (.bipush 7, 2) := by decide +kernel
theorem dX7_queueLength_11 : decode cX7_queueLength 11 = .ok (.iaload, 1) := by decide +kernel
theorem dX7_queueLength_12 : decode cX7_queueLength 12 = .ok (.ireturn, 1) := by decide +kernel
theorem dX7_queued_0 : decode cX7_queued 0 = .ok (.aload_n 0, 1) := by decide +kernel
theorem dX7_queued_1 : decode cX7_queued 1 = .ok (.iload_n 1, 1) := by decide +kernel
theorem dX7_queued_2 : decode cX7_queued 2 = .ok (.iconst 0, 1) := by decide +kernel
theorem dX7_queued_3 : decode cX7_queued 3 = .ok (.aload_n 0, 1) := by decide +kernel
theorem dX7_queued_4 : decode cX7_queued 4 = .ok (.getfield 7, 3) := by decide +kernel
theorem dX7_queued_7 : decode cX7_queued 7 = .ok (.bipush 7, 2) := by decide +kernel
theorem dX7_queued_9 : decode cX7_queued 9 = .ok (.iaload, 1) := by decide +kernel
theorem dX7_queued_10 : decode cX7_queued 10 = .ok (.iconst 1, 1) := by decide +kernel
theorem dX7_queued_11 : decode cX7_queued 11 = .ok (.isub, 1) := by decide +kernel
theorem dX7_queued_12 : decode cX7_queued 12 = .ok (.invokestatic 67, 3) := by decide +kernel
theorem dX7_queued_15 : decode cX7_queued 15 = .ok (.ifCond .eq 7, 3) := by decide +kernel
theorem dX7_queued_18 : decode cX7_queued 18 = .ok (.iconst 0, 1) := by decide +kernel
theorem dX7_queued_19 : decode cX7_queued 19 = .ok (.goto 4, 3) := by decide +kernel
theorem dX7_queued_22 : decode cX7_queued 22 = .ok (.iconst 1, 1) := by decide +kernel
theorem dX7_queued_23 : decode cX7_queued 23 = .ok (.putfield 47, 3) := by decide +kernel
theorem dX7_queued_26 : decode cX7_queued 26 = .ok (.aload_n 0, 1) := by decide +kernel
theorem dX7_queued_27 : decode cX7_queued 27 = .ok (.getfield 47, 3) := by decide +kernel
theorem dX7_queued_30 : decode cX7_queued 30 = .ok (.ifCond .le 7, 3) := by decide +kernel
theorem dX7_queued_33 : decode cX7_queued 33 = .ok (.iconst 0, 1) := by decide +kernel
theorem dX7_queued_34 : decode cX7_queued 34 = .ok (.goto 13, 3) := by decide +kernel
theorem dX7_queued_37 : decode cX7_queued 37 = .ok (.aload_n 0, 1) := by decide +kernel
theorem dX7_queued_38 : decode cX7_queued 38 = .ok (.getfield 7, 3) := by decide +kernel
theorem dX7_queued_41 : decode cX7_queued 41 = .ok (.sipush 132, 3) := by decide +kernel
theorem dX7_queued_44 : decode cX7_queued 44 = .ok (.iload_n 1, 1) := by decide +kernel
theorem dX7_queued_45 : decode cX7_queued 45 = .ok (.iadd, 1) := by decide +kernel
theorem dX7_queued_46 : decode cX7_queued 46 = .ok (.iaload, 1) := by decide +kernel
theorem dX7_queued_47 : decode cX7_queued 47 = .ok (.ireturn, 1) := by decide +kernel
theorem dX7_deposit_0 : decode cX7_deposit 0 = .ok (.aload_n 0, 1) := by decide +kernel
theorem dX7_deposit_1 : decode cX7_deposit 1 = .ok (.invokevirtual 117, 3) := by decide +kernel
theorem dX7_deposit_4 : decode cX7_deposit 4 = .ok (.aload_n 0, 1) := by decide +kernel
theorem dX7_deposit_5 : decode cX7_deposit 5 = .ok (.aload_n 0, 1) := by decide +kernel
theorem dX7_deposit_6 : decode cX7_deposit 6 = .ok (.iload_n 1, 1) := by decide +kernel
theorem dX7_deposit_7 : decode cX7_deposit 7 = .ok (.invokevirtual 166, 3) := by decide +kernel
theorem dX7_deposit_10 : decode cX7_deposit 10 = .ok (.invokevirtual 124, 3) := by decide +kernel
theorem dX7_deposit_13 : decode cX7_deposit 13 = .ok (.ireturn, 1) := by decide +kernel
theorem dX7_release_0 : decode cX7_release 0 = .ok (.aload_n 0, 1) := by decide +kernel
theorem dX7_release_1 : decode cX7_release 1 = .ok (.invokevirtual 117, 3) := by decide +kernel
theorem dX7_release_4 : decode cX7_release 4 = .ok (.aload_n 0, 1) := by decide +kernel
theorem dX7_release_5 : decode cX7_release 5 = .ok (.aload_n 0, 1) := by decide +kernel
theorem dX7_release_6 : decode cX7_release 6 = .ok (.iload_n 1, 1) := by decide +kernel
theorem dX7_release_7 : decode cX7_release 7 = .ok (.invokevirtual 169, 3) := by decide +kernel
theorem dX7_release_10 : decode cX7_release 10 = .ok (.invokevirtual 124, 3) := by decide +kernel
theorem dX7_release_13 : decode cX7_release 13 = .ok (.ireturn, 1) := by decide +kernel
theorem dX7_bond_0 : decode cX7_bond 0 = .ok (.aload_n 0, 1) := by decide +kernel
theorem dX7_bond_1 : decode cX7_bond 1 = .ok (.iconst 0, 1) := by decide +kernel
theorem dX7_bond_2 : decode cX7_bond 2 = .ok (.putfield 47, 3) := by decide +kernel
theorem dX7_bond_5 : decode cX7_bond 5 = .ok (.aload_n 0, 1) := by decide +kernel
theorem dX7_bond_6 : decode cX7_bond 6 = .ok (.getfield 7, 3) := by decide +kernel
theorem dX7_bond_9 : decode cX7_bond 9 = .ok (.iconst 4, 1) := by decide +kernel
theorem dX7_bond_10 : decode cX7_bond 10 = .ok (.iaload, 1) := by decide +kernel
theorem dX7_bond_11 : decode cX7_bond 11 = .ok (.ireturn, 1) := by decide +kernel
theorem dX7_collected_0 : decode cX7_collected 0 = .ok (.aload_n 0, 1) := by decide +kernel
theorem dX7_collected_1 : decode cX7_collected 1 = .ok (.iconst 0, 1) := by decide +kernel
theorem dX7_collected_2 : decode cX7_collected 2 = .ok (.putfield 47, 3) := by decide +kernel
theorem dX7_collected_5 : decode cX7_collected 5 = .ok (.aload_n 0, 1) := by decide +kernel
theorem dX7_collected_6 : decode cX7_collected 6 = .ok (.getfield 7, 3) := by decide +kernel
theorem dX7_collected_9 : decode cX7_collected 9 = .ok (.iconst 5, 1) := by decide +kernel
theorem dX7_collected_10 : decode cX7_collected 10 = .ok (.iaload, 1) := by decide +kernel
theorem dX7_collected_11 : decode cX7_collected 11 = .ok (.ireturn, 1) := by decide +kernel
theorem dX7_mostReleases_0 : decode cX7_mostReleases 0 = .ok (.aload_n 0, 1) := by decide +kernel
theorem dX7_mostReleases_1 : decode cX7_mostReleases 1 = .ok (.iconst 0, 1) := by decide +kernel
theorem dX7_mostReleases_2 : decode cX7_mostReleases 2 = .ok (.putfield 47, 3) := by decide +kernel
theorem dX7_mostReleases_5 : decode cX7_mostReleases 5 = .ok (.iconst 0, 1) := by decide +kernel
theorem dX7_mostReleases_6 : decode cX7_mostReleases 6 = .ok (.istore_n 1, 1) := by decide +kernel
theorem dX7_mostReleases_7 : decode cX7_mostReleases 7 = .ok (.aload_n 0, 1) := by decide +kernel
theorem dX7_mostReleases_8 : decode cX7_mostReleases 8 = .ok (.getfield 7, 3) := by decide +kernel
theorem dX7_mostReleases_11 : decode cX7_mostReleases 11 = .ok (.iconst 4, 1) := by decide +kernel
theorem dX7_mostReleases_12 : decode cX7_mostReleases 12 = .ok (.iaload, 1) := by decide +kernel
theorem dX7_mostReleases_13 : decode cX7_mostReleases 13 = .ok (.istore_n 2, 1) := by decide +kernel
theorem dX7_mostReleases_14 : decode cX7_mostReleases 14 = .ok (.iconst 0, 1) := by decide +kernel
theorem dX7_mostReleases_15 : decode cX7_mostReleases 15 = .ok (.istore_n 3, 1) := by decide +kernel
theorem dX7_mostReleases_16 : decode cX7_mostReleases 16 = .ok (.iload_n 3, 1) := by decide +kernel
theorem dX7_mostReleases_17 : decode cX7_mostReleases 17 = .ok (.aload_n 0, 1) := by decide +kernel
theorem dX7_mostReleases_18 : decode cX7_mostReleases 18 = .ok (.getfield 7, 3) := by decide +kernel
theorem dX7_mostReleases_21 : decode cX7_mostReleases 21 = .ok (.iconst 1, 1) := by decide +kernel
theorem dX7_mostReleases_22 : decode cX7_mostReleases 22 = .ok (.iaload, 1) := by decide +kernel
theorem dX7_mostReleases_23 : decode cX7_mostReleases 23 = .ok (.if_icmp .ge 16, 3) := by decide +kernel
theorem dX7_mostReleases_26 : decode cX7_mostReleases 26 = .ok (.aload_n 0, 1) := by decide +kernel
theorem dX7_mostReleases_27 : decode cX7_mostReleases 27 = .ok (.getfield 37, 3) := by decide +kernel
theorem dX7_mostReleases_30 : decode cX7_mostReleases 30 = .ok (.iload_n 3, 1) := by decide +kernel
theorem dX7_mostReleases_31 : decode cX7_mostReleases 31 = .ok (.iconst 0, 1) := by decide +kernel
theorem dX7_mostReleases_32 : decode cX7_mostReleases 32 = .ok (.iastore, 1) := by decide +kernel
theorem dX7_mostReleases_33 : decode cX7_mostReleases 33 = .ok (.iinc 3 1, 3) := by decide +kernel
theorem dX7_mostReleases_36 : decode cX7_mostReleases 36 = .ok (.goto (-20), 3) := by decide +kernel
theorem dX7_mostReleases_39 : decode cX7_mostReleases 39 = .ok (.iconst 0, 1) := by decide +kernel
theorem dX7_mostReleases_40 : decode cX7_mostReleases 40 = .ok (.istore_n 3, 1) := by decide +kernel
theorem dX7_mostReleases_41 : decode cX7_mostReleases 41 = .ok (.iload_n 3, 1) := by decide +kernel
theorem dX7_mostReleases_42 : decode cX7_mostReleases 42 = .ok (.aload_n 0, 1) := by decide +kernel
theorem dX7_mostReleases_43 : decode cX7_mostReleases 43 = .ok (.getfield 7, 3) := by decide +kernel
theorem dX7_mostReleases_46 : decode cX7_mostReleases 46 = .ok (.iconst 1, 1) := by decide +kernel
theorem dX7_mostReleases_47 : decode cX7_mostReleases 47 = .ok (.iaload, 1) := by decide +kernel
theorem dX7_mostReleases_48 : decode cX7_mostReleases 48 = .ok (.if_icmp .ge 99, 3) := by decide +kernel
theorem dX7_mostReleases_51 : decode cX7_mostReleases 51 = .ok (.iconst (-1), 1) := by decide +kernel
theorem dX7_mostReleases_52 : decode cX7_mostReleases 52 = .ok (.istore 4, 2) := by decide +kernel
theorem dX7_mostReleases_54 : decode cX7_mostReleases 54 = .ok (.iconst 0, 1) := by decide +kernel
theorem dX7_mostReleases_55 : decode cX7_mostReleases 55 = .ok (.istore 5, 2) := by decide +kernel
theorem dX7_mostReleases_57 : decode cX7_mostReleases 57 = .ok (.iload 5, 2) := by decide +kernel
theorem dX7_mostReleases_59 : decode cX7_mostReleases 59 = .ok (.aload_n 0, 1) := by decide +kernel
theorem dX7_mostReleases_60 : decode cX7_mostReleases 60 = .ok (.getfield 7, 3) := by decide +kernel
theorem dX7_mostReleases_63 : decode cX7_mostReleases 63 = .ok (.iconst 1, 1) := by decide +kernel
theorem dX7_mostReleases_64 : decode cX7_mostReleases 64 = .ok (.iaload, 1) := by decide +kernel
theorem dX7_mostReleases_65 : decode cX7_mostReleases 65 = .ok (.if_icmp .ge 44, 3) := by decide +kernel
theorem dX7_mostReleases_68 : decode cX7_mostReleases 68 = .ok (.aload_n 0, 1) := by decide +kernel
theorem dX7_mostReleases_69 : decode cX7_mostReleases 69 = .ok (.getfield 37, 3) := by decide +kernel
theorem dX7_mostReleases_72 : decode cX7_mostReleases 72 = .ok (.iload 5, 2) := by decide +kernel
theorem dX7_mostReleases_74 : decode cX7_mostReleases 74 = .ok (.iaload, 1) := by decide +kernel
theorem dX7_mostReleases_75 : decode cX7_mostReleases 75 = .ok (.ifCond .ne 28, 3) := by decide +kernel
theorem dX7_mostReleases_78 : decode cX7_mostReleases 78 = .ok (.iload 4, 2) := by decide +kernel
theorem dX7_mostReleases_80 : decode cX7_mostReleases 80 = .ok (.iconst (-1), 1) := by decide +kernel
theorem dX7_mostReleases_81 : decode cX7_mostReleases 81 = .ok (.if_icmp .eq 18, 3) := by decide +kernel
theorem dX7_mostReleases_84 : decode cX7_mostReleases 84 = .ok (.aload_n 0, 1) := by decide +kernel
theorem dX7_mostReleases_85 : decode cX7_mostReleases 85 = .ok (.iload 5, 2) := by decide +kernel
theorem dX7_mostReleases_87 : decode cX7_mostReleases 87 = .ok (.invokevirtual 114, 3) := by decide +kernel
theorem dX7_mostReleases_90 : decode cX7_mostReleases 90 = .ok (.aload_n 0, 1) := by decide +kernel
theorem dX7_mostReleases_91 : decode cX7_mostReleases 91 = .ok (.iload 4, 2) := by decide +kernel
theorem dX7_mostReleases_93 : decode cX7_mostReleases 93 = .ok (.invokevirtual 114, 3) := by decide +kernel
theorem dX7_mostReleases_96 : decode cX7_mostReleases 96 = .ok (.if_icmp .ge 7, 3) := by decide +kernel
theorem dX7_mostReleases_99 : decode cX7_mostReleases 99 = .ok (.iload 5, 2) := by decide +kernel
theorem dX7_mostReleases_101 : decode cX7_mostReleases 101 = .ok (.istore 4, 2) := by decide +kernel
theorem dX7_mostReleases_103 : decode cX7_mostReleases 103 = .ok (.iinc 5 1, 3) := by decide +kernel
theorem dX7_mostReleases_106 : decode cX7_mostReleases 106 = .ok (.goto (-49), 3) := by decide +kernel
theorem dX7_mostReleases_109 : decode cX7_mostReleases 109 = .ok (.aload_n 0, 1) := by decide +kernel
theorem dX7_mostReleases_110 : decode cX7_mostReleases 110 = .ok (.getfield 37, 3) := by decide +kernel
theorem dX7_mostReleases_113 : decode cX7_mostReleases 113 = .ok (.iload 4, 2) := by decide +kernel
theorem dX7_mostReleases_115 : decode cX7_mostReleases 115 = .ok (.iconst 1, 1) := by decide +kernel
theorem dX7_mostReleases_116 : decode cX7_mostReleases 116 = .ok (.iastore, 1) := by decide +kernel
theorem dX7_mostReleases_117 : decode cX7_mostReleases 117 = .ok (.aload_n 0, 1) := by decide +kernel
theorem dX7_mostReleases_118 : decode cX7_mostReleases 118 = .ok (.iload 4, 2) := by decide +kernel
theorem dX7_mostReleases_120 : decode cX7_mostReleases 120 = .ok (.invokevirtual 114, 3) := by decide +kernel
theorem dX7_mostReleases_123 : decode cX7_mostReleases 123 = .ok (.iload_n 2, 1) := by decide +kernel
theorem dX7_mostReleases_124 : decode cX7_mostReleases 124 = .ok (.if_icmp .le 5, 3) := by decide +kernel
theorem dX7_mostReleases_127 : decode cX7_mostReleases 127 = .ok (.iload_n 1, 1) := by decide +kernel
theorem dX7_mostReleases_128 : decode cX7_mostReleases 128 = .ok (.ireturn, 1) := by decide +kernel
theorem dX7_mostReleases_129 : decode cX7_mostReleases 129 = .ok (.iload_n 2, 1) := by decide +kernel
theorem dX7_mostReleases_130 : decode cX7_mostReleases 130 = .ok (.aload_n 0, 1) := by decide +kernel
theorem dX7_mostReleases_131 : decode cX7_mostReleases 131 = .ok (.iload 4, 2) := by decide +kernel
theorem dX7_mostReleases_133 : decode cX7_mostReleases 133 = .ok (.invokevirtual 114, 3) := by decide +kernel
theorem dX7_mostReleases_136 : decode cX7_mostReleases 136 = .ok (.isub, 1) := by decide +kernel
theorem dX7_mostReleases_137 : decode cX7_mostReleases 137 = .ok (.istore_n 2, 1) := by decide +kernel
theorem dX7_mostReleases_138 : decode cX7_mostReleases 138 = .ok (.iinc 1 1, 3) := by decide +kernel
theorem dX7_mostReleases_141 : decode cX7_mostReleases 141 = .ok (.iinc 3 1, 3) := by decide +kernel
theorem dX7_mostReleases_144 : decode cX7_mostReleases 144 = .ok (.goto (-103), 3) := by decide +kernel
theorem dX7_mostReleases_147 : decode cX7_mostReleases 147 = .ok (.iload_n 1, 1) := by decide +kernel
theorem dX7_mostReleases_148 : decode cX7_mostReleases 148 = .ok (.ireturn, 1) := by decide +kernel
theorem dX7_meanValue_0 : decode cX7_meanValue 0 = .ok (.aload_n 0, 1) := by decide +kernel
theorem dX7_meanValue_1 : decode cX7_meanValue 1 = .ok (.aload_n 0, 1) := by decide +kernel
theorem dX7_meanValue_2 : decode cX7_meanValue 2 = .ok (.getfield 7, 3) := by decide +kernel
theorem dX7_meanValue_5 : decode cX7_meanValue 5 = .ok (.iconst 1, 1) := by decide +kernel
theorem dX7_meanValue_6 : decode cX7_meanValue 6 = .ok (.iaload, 1) := by decide +kernel
theorem dX7_meanValue_7 : decode cX7_meanValue 7 = .ok (.ifCond .ne 7, 3) := by decide +kernel
theorem dX7_meanValue_10 : decode cX7_meanValue 10 = .ok (.iconst 1, 1) := by decide +kernel
theorem dX7_meanValue_11 : decode cX7_meanValue 11 = .ok (.goto 4, 3) := by decide +kernel
theorem dX7_meanValue_14 : decode cX7_meanValue 14 = .ok (.iconst 0, 1) := by decide +kernel
theorem dX7_meanValue_15 : decode cX7_meanValue 15 = .ok (.putfield 47, 3) := by decide +kernel
theorem dX7_meanValue_18 : decode cX7_meanValue 18 = .ok (.aload_n 0, 1) := by decide +kernel
theorem dX7_meanValue_19 : decode cX7_meanValue 19 = .ok (.getfield 47, 3) := by decide +kernel
theorem dX7_meanValue_22 : decode cX7_meanValue 22 = .ok (.ifCond .le 5, 3) := by decide +kernel
theorem dX7_meanValue_25 : decode cX7_meanValue 25 = .ok (.dconst 0, 1) := by decide +kernel
theorem dX7_meanValue_26 : decode cX7_meanValue 26 = .ok (.dreturn, 1) := by decide +kernel
theorem dX7_meanValue_27 : decode cX7_meanValue 27 = .ok (.iconst 0, 1) := by decide +kernel
theorem dX7_meanValue_28 : decode cX7_meanValue 28 = .ok (.istore_n 1, 1) := by decide +kernel
theorem dX7_meanValue_29 : decode cX7_meanValue 29 = .ok (.iconst 0, 1) := by decide +kernel
theorem dX7_meanValue_30 : decode cX7_meanValue 30 = .ok (.istore_n 2, 1) := by decide +kernel
theorem dX7_meanValue_31 : decode cX7_meanValue 31 = .ok (.iload_n 2, 1) := by decide +kernel
theorem dX7_meanValue_32 : decode cX7_meanValue 32 = .ok (.aload_n 0, 1) := by decide +kernel
theorem dX7_meanValue_33 : decode cX7_meanValue 33 = .ok (.getfield 7, 3) := by decide +kernel
theorem dX7_meanValue_36 : decode cX7_meanValue 36 = .ok (.iconst 1, 1) := by decide +kernel
theorem dX7_meanValue_37 : decode cX7_meanValue 37 = .ok (.iaload, 1) := by decide +kernel
theorem dX7_meanValue_38 : decode cX7_meanValue 38 = .ok (.if_icmp .ge 17, 3) := by decide +kernel
theorem dX7_meanValue_41 : decode cX7_meanValue 41 = .ok (.iload_n 1, 1) := by decide +kernel
theorem dX7_meanValue_42 : decode cX7_meanValue 42 = .ok (.aload_n 0, 1) := by decide +kernel
theorem dX7_meanValue_43 : decode cX7_meanValue 43 = .ok (.iload_n 2, 1) := by decide +kernel
theorem dX7_meanValue_44 : decode cX7_meanValue 44 = .ok (.invokevirtual 71, 3) := by decide +kernel
theorem dX7_meanValue_47 : decode cX7_meanValue 47 = .ok (.iadd, 1) := by decide +kernel
theorem dX7_meanValue_48 : decode cX7_meanValue 48 = .ok (.istore_n 1, 1) := by decide +kernel
theorem dX7_meanValue_49 : decode cX7_meanValue 49 = .ok (.iinc 2 1, 3) := by decide +kernel
theorem dX7_meanValue_52 : decode cX7_meanValue 52 = .ok (.goto (-21), 3) := by decide +kernel
theorem dX7_meanValue_55 : decode cX7_meanValue 55 = .ok (.iload_n 1, 1) := by decide +kernel
theorem dX7_meanValue_56 : decode cX7_meanValue 56 = .ok (.i2d, 1) := by decide +kernel
theorem dX7_meanValue_57 : decode cX7_meanValue 57 = .ok (.aload_n 0, 1) := by decide +kernel
theorem dX7_meanValue_58 : decode cX7_meanValue 58 = .ok (.getfield 7, 3) := by decide +kernel
theorem dX7_meanValue_61 : decode cX7_meanValue 61 = .ok (.iconst 1, 1) := by decide +kernel
theorem dX7_meanValue_62 : decode cX7_meanValue 62 = .ok (.iaload, 1) := by decide +kernel
theorem dX7_meanValue_63 : decode cX7_meanValue 63 = .ok (.i2d, 1) := by decide +kernel
theorem dX7_meanValue_64 : decode cX7_meanValue 64 = .ok (.ddiv, 1) := by decide +kernel
theorem dX7_meanValue_65 : decode cX7_meanValue 65 = .ok (.dreturn, 1) := by decide +kernel
theorem dX7_sealedFraction_0 : decode cX7_sealedFraction 0 = .ok (.aload_n 0, 1) := by decide +kernel
theorem dX7_sealedFraction_1 : decode cX7_sealedFraction 1 = .ok (.aload_n 0, 1) := by decide +kernel
theorem dX7_sealedFraction_2 : decode cX7_sealedFraction 2 = .ok (.getfield 7, 3) := by decide +kernel
theorem dX7_sealedFraction_5 : decode cX7_sealedFraction 5 = .ok (.iconst 1, 1) := by decide +kernel
theorem dX7_sealedFraction_6 : decode cX7_sealedFraction 6 = .ok (.iaload, 1) := by decide +kernel
theorem dX7_sealedFraction_7 : decode cX7_sealedFraction 7 = .ok (.ifCond .ne 7, 3) := by decide +kernel
theorem dX7_sealedFraction_10 : decode cX7_sealedFraction 10 = .ok (.iconst 1, 1) := by decide +kernel
theorem dX7_sealedFraction_11 : decode cX7_sealedFraction 11 = .ok (.goto 4, 3) := by decide +kernel
theorem dX7_sealedFraction_14 : decode cX7_sealedFraction 14 = .ok (.iconst 0, 1) := by decide +kernel
theorem dX7_sealedFraction_15 : decode cX7_sealedFraction 15 = .ok (.putfield 47, 3) := by decide +kernel
theorem dX7_sealedFraction_18 : decode cX7_sealedFraction 18 = .ok (.aload_n 0, 1) := by decide +kernel
theorem dX7_sealedFraction_19 : decode cX7_sealedFraction 19 = .ok (.getfield 47, 3) := by decide +kernel
theorem dX7_sealedFraction_22 : decode cX7_sealedFraction 22 = .ok (.ifCond .le 7, 3) := by decide +kernel
theorem dX7_sealedFraction_25 : decode cX7_sealedFraction 25 = .ok (.fconst 0, 1) := by decide +kernel
theorem dX7_sealedFraction_26 : decode cX7_sealedFraction 26 = .ok (.goto 17, 3) := by decide +kernel
theorem dX7_sealedFraction_29 : decode cX7_sealedFraction 29 = .ok (.aload_n 0, 1) := by decide +kernel
theorem dX7_sealedFraction_30 : decode cX7_sealedFraction 30 = .ok (.iconst 5, 1) := by decide +kernel
theorem dX7_sealedFraction_31 : decode cX7_sealedFraction 31 = .ok (.invokevirtual 104, 3) := by decide +kernel
theorem dX7_sealedFraction_34 : decode cX7_sealedFraction 34 = .ok (.i2f, 1) := by decide +kernel
theorem dX7_sealedFraction_35 : decode cX7_sealedFraction 35 = .ok (.aload_n 0, 1) := by decide +kernel
theorem dX7_sealedFraction_36 : decode cX7_sealedFraction 36 = .ok (.getfield 7, 3) := by decide +kernel
theorem dX7_sealedFraction_39 : decode cX7_sealedFraction 39 = .ok (.iconst 1, 1) := by decide +kernel
theorem dX7_sealedFraction_40 : decode cX7_sealedFraction 40 = .ok (.iaload, 1) := by decide +kernel
theorem dX7_sealedFraction_41 : decode cX7_sealedFraction 41 = .ok (.i2f, 1) := by decide +kernel
theorem dX7_sealedFraction_42 : decode cX7_sealedFraction 42 = .ok (.fdiv, 1) := by decide +kernel
theorem dX7_sealedFraction_43 : decode cX7_sealedFraction 43 = .ok (.freturn, 1) := by decide +kernel
theorem dX7_writes_0 : decode cX7_writes 0 = .ok (.aload_n 0, 1) := by decide +kernel
theorem dX7_writes_1 : decode cX7_writes 1 = .ok (.getfield 31, 3) := by decide +kernel
theorem dX7_writes_4 : decode cX7_writes 4 = .ok (.aload_n 0, 1) := by decide +kernel
theorem dX7_writes_5 : decode cX7_writes 5 = .ok (.getfield 172, 3) := by decide +kernel
theorem dX7_writes_8 : decode cX7_writes 8 = .ok (.iload_n 1, 1) := by decide +kernel
theorem dX7_writes_9 : decode cX7_writes 9 = .ok (.iastore, 1) := by decide +kernel
theorem dX7_writes_10 : decode cX7_writes 10 = .ok (.aload_n 0, 1) := by decide +kernel
theorem dX7_writes_11 : decode cX7_writes 11 = .ok (.dup, 1) := by decide +kernel
theorem dX7_writes_12 : decode cX7_writes 12 = .ok (.getfield 172, 3) := by decide +kernel
theorem dX7_writes_15 : decode cX7_writes 15 = .ok (.iconst 1, 1) := by decide +kernel
theorem dX7_writes_16 : decode cX7_writes 16 = .ok (.iadd, 1) := by decide +kernel
theorem dX7_writes_17 : decode cX7_writes 17 = .ok (.putfield 172, 3) := by decide +kernel
theorem dX7_writes_20 : decode cX7_writes 20 = .ok (.return_, 1) := by decide +kernel
theorem dX7_writesNumber_0 : decode cX7_writesNumber 0 = .ok (.iload_n 1, 1) := by decide +kernel
theorem dX7_writesNumber_1 : decode cX7_writesNumber 1 = .ok (.bipush 9, 2) := by decide +kernel
theorem dX7_writesNumber_3 : decode cX7_writesNumber 3 = .ok (.if_icmp .le 14, 3) := by decide +kernel
theorem dX7_writesNumber_6 : decode cX7_writesNumber 6 = .ok (.aload_n 0, 1) := by decide +kernel
theorem dX7_writesNumber_7 : decode cX7_writesNumber 7 = .ok (.bipush 48, 2) := by decide +kernel
theorem dX7_writesNumber_9 : decode cX7_writesNumber 9 = .ok (.iload_n 1, 1) := by decide +kernel
theorem dX7_writesNumber_10 : decode cX7_writesNumber 10 = .ok (.bipush 10, 2) := by decide +kernel
theorem dX7_writesNumber_12 : decode cX7_writesNumber 12 = .ok (.idiv, 1) := by decide +kernel
theorem dX7_writesNumber_13 : decode cX7_writesNumber 13 = .ok (.iadd, 1) := by decide +kernel
theorem dX7_writesNumber_14 : decode cX7_writesNumber 14 = .ok (.invokevirtual 175, 3) := by decide +kernel
theorem dX7_writesNumber_17 : decode cX7_writesNumber 17 = .ok (.aload_n 0, 1) := by decide +kernel
theorem dX7_writesNumber_18 : decode cX7_writesNumber 18 = .ok (.bipush 48, 2) := by decide +kernel
theorem dX7_writesNumber_20 : decode cX7_writesNumber 20 = .ok (.iload_n 1, 1) := by decide +kernel
theorem dX7_writesNumber_21 : decode cX7_writesNumber 21 = .ok (.bipush 10, 2) := by decide +kernel
theorem dX7_writesNumber_23 : decode cX7_writesNumber 23 = .ok (.irem, 1) := by decide +kernel
theorem dX7_writesNumber_24 : decode cX7_writesNumber 24 = .ok (.iadd, 1) := by decide +kernel
theorem dX7_writesNumber_25 : decode cX7_writesNumber 25 = .ok (.invokevirtual 175, 3) := by decide +kernel
theorem dX7_writesNumber_28 : decode cX7_writesNumber 28 = .ok (.return_, 1) := by decide +kernel
theorem dX7_writeLot_0 : decode cX7_writeLot 0 = .ok (.aload_n 0, 1) := by decide +kernel
theorem dX7_writeLot_1 : decode cX7_writeLot 1 = .ok (.iload_n 1, 1) := by decide +kernel
theorem dX7_writeLot_2 : decode cX7_writeLot 2 = .ok (.invokevirtual 101, 3) := by decide +kernel
theorem dX7_writeLot_5 : decode cX7_writeLot 5 = .ok (.istore_n 2, 1) := by decide +kernel
theorem dX7_writeLot_6 : decode cX7_writeLot 6 = .ok (.aload_n 0, 1) := by decide +kernel
theorem dX7_writeLot_7 : decode cX7_writeLot 7 = .ok (.iload_n 2, 1) := by decide +kernel
theorem dX7_writeLot_8 : decode cX7_writeLot 8 = .ok (.iconst (-1), 1) := by decide +kernel
theorem dX7_writeLot_9 : decode cX7_writeLot 9 = .ok (.if_icmp .ne 7, 3) := by decide +kernel
theorem dX7_writeLot_12 : decode cX7_writeLot 12 = .ok (.iconst 1, 1) := by decide +kernel
theorem dX7_writeLot_13 : decode cX7_writeLot 13 = .ok (.goto 4, 3) := by decide +kernel
theorem dX7_writeLot_16 : decode cX7_writeLot 16 = .ok (.iconst 0, 1) := by decide +kernel
theorem dX7_writeLot_17 : decode cX7_writeLot 17 = .ok (.putfield 47, 3) := by decide +kernel
theorem dX7_writeLot_20 : decode cX7_writeLot 20 = .ok (.aload_n 0, 1) := by decide +kernel
theorem dX7_writeLot_21 : decode cX7_writeLot 21 = .ok (.getfield 47, 3) := by decide +kernel
theorem dX7_writeLot_24 : decode cX7_writeLot 24 = .ok (.ifCond .le 5, 3) := by decide +kernel
theorem dX7_writeLot_27 : decode cX7_writeLot 27 = .ok (.iconst 0, 1) := by decide +kernel
theorem dX7_writeLot_28 : decode cX7_writeLot 28 = .ok (.ireturn, 1) := by decide +kernel
theorem dX7_writeLot_29 : decode cX7_writeLot 29 = .ok (.aload_n 0, 1) := by decide +kernel
theorem dX7_writeLot_30 : decode cX7_writeLot 30 = .ok (.iconst 0, 1) := by decide +kernel
theorem dX7_writeLot_31 : decode cX7_writeLot 31 = .ok (.putfield 172, 3) := by decide +kernel
theorem dX7_writeLot_34 : decode cX7_writeLot 34 = .ok (.aload_n 0, 1) := by decide +kernel
theorem dX7_writeLot_35 : decode cX7_writeLot 35 = .ok (.aload_n 0, 1) := by decide +kernel
theorem dX7_writeLot_36 : decode cX7_writeLot 36 = .ok (.iload_n 2, 1) := by decide +kernel
theorem dX7_writeLot_37 : decode cX7_writeLot 37 = .ok (.iconst 1, 1) := by decide +kernel
theorem dX7_writeLot_38 : decode cX7_writeLot 38 = .ok (.invokevirtual 63, 3) := by decide +kernel
theorem dX7_writeLot_41 : decode cX7_writeLot 41 = .ok (.invokevirtual 175, 3) := by decide +kernel
theorem dX7_writeLot_44 : decode cX7_writeLot 44 = .ok (.aload_n 0, 1) := by decide +kernel
theorem dX7_writeLot_45 : decode cX7_writeLot 45 = .ok (.aload_n 0, 1) := by decide +kernel
theorem dX7_writeLot_46 : decode cX7_writeLot 46 = .ok (.iload_n 2, 1) := by decide +kernel
theorem dX7_writeLot_47 : decode cX7_writeLot 47 = .ok (.iconst 2, 1) := by decide +kernel
theorem dX7_writeLot_48 : decode cX7_writeLot 48 = .ok (.invokevirtual 63, 3) := by decide +kernel
theorem dX7_writeLot_51 : decode cX7_writeLot 51 = .ok (.invokevirtual 178, 3) := by decide +kernel
theorem dX7_writeLot_54 : decode cX7_writeLot 54 = .ok (.aload_n 0, 1) := by decide +kernel
theorem dX7_writeLot_55 : decode cX7_writeLot 55 = .ok (.bipush 42, 2) := by decide +kernel
theorem dX7_writeLot_57 : decode cX7_writeLot 57 = .ok (.invokevirtual 175, 3) := by decide +kernel
theorem dX7_writeLot_60 : decode cX7_writeLot 60 = .ok (.aload_n 0, 1) := by decide +kernel
theorem dX7_writeLot_61 : decode cX7_writeLot 61 = .ok (.aload_n 0, 1) := by decide +kernel
theorem dX7_writeLot_62 : decode cX7_writeLot 62 = .ok (.iload_n 2, 1) := by decide +kernel
theorem dX7_writeLot_63 : decode cX7_writeLot 63 = .ok (.iconst 3, 1) := by decide +kernel
theorem dX7_writeLot_64 : decode cX7_writeLot 64 = .ok (.invokevirtual 63, 3) := by decide +kernel
theorem dX7_writeLot_67 : decode cX7_writeLot 67 = .ok (.invokevirtual 178, 3) := by decide +kernel
theorem dX7_writeLot_70 : decode cX7_writeLot 70 = .ok (.aload_n 0, 1) := by decide +kernel
theorem dX7_writeLot_71 : decode cX7_writeLot 71 = .ok (.bipush 64, 2) := by decide +kernel
theorem dX7_writeLot_73 : decode cX7_writeLot 73 = .ok (.invokevirtual 175, 3) := by decide +kernel
theorem dX7_writeLot_76 : decode cX7_writeLot 76 = .ok (.aload_n 0, 1) := by decide +kernel
theorem dX7_writeLot_77 : decode cX7_writeLot 77 = .ok (.aload_n 0, 1) := by decide +kernel
theorem dX7_writeLot_78 : decode cX7_writeLot 78 = .ok (.iload_n 2, 1) := by decide +kernel
theorem dX7_writeLot_79 : decode cX7_writeLot 79 = .ok (.iconst 4, 1) := by decide +kernel
theorem dX7_writeLot_80 : decode cX7_writeLot 80 = .ok (.invokevirtual 63, 3) := by decide +kernel
theorem dX7_writeLot_83 : decode cX7_writeLot 83 = .ok (.invokevirtual 178, 3) := by decide +kernel
theorem dX7_writeLot_86 : decode cX7_writeLot 86 = .ok (.aload_n 0, 1) := by decide +kernel
theorem dX7_writeLot_87 : decode cX7_writeLot 87 = .ok (.iload_n 2, 1) := by decide +kernel
theorem dX7_writeLot_88 : decode cX7_writeLot 88 = .ok (.iconst 5, 1) := by decide +kernel
theorem dX7_writeLot_89 : decode cX7_writeLot 89 = .ok (.invokevirtual 63, 3) := by decide +kernel
theorem dX7_writeLot_92 : decode cX7_writeLot 92 = .ok (.iconst 1, 1) := by decide +kernel
theorem dX7_writeLot_93 : decode cX7_writeLot 93 = .ok (.if_icmp .ne 9, 3) := by decide +kernel
theorem dX7_writeLot_96 : decode cX7_writeLot 96 = .ok (.aload_n 0, 1) := by decide +kernel
theorem dX7_writeLot_97 : decode cX7_writeLot 97 = .ok (.bipush 35, 2) := by decide +kernel
theorem dX7_writeLot_99 : decode cX7_writeLot 99 = .ok (.invokevirtual 175, 3) := by decide +kernel
theorem dX7_writeLot_102 : decode cX7_writeLot 102 = .ok (.aload_n 0, 1) := by decide +kernel
theorem dX7_writeLot_103 : decode cX7_writeLot 103 = .ok (.iload_n 2, 1) := by decide +kernel
theorem dX7_writeLot_104 : decode cX7_writeLot 104 = .ok (.bipush 6, 2) := by decide +kernel
theorem dX7_writeLot_106 : decode cX7_writeLot 106 = .ok (.invokevirtual 63, 3) := by decide +kernel
theorem dX7_writeLot_109 : decode cX7_writeLot 109 = .ok (.iconst 1, 1) := by decide +kernel
theorem dX7_writeLot_110 : decode cX7_writeLot 110 = .ok (.if_icmp .ne 9, 3) := by decide +kernel
theorem dX7_writeLot_113 : decode cX7_writeLot 113 = .ok (.aload_n 0, 1) := by decide +kernel
theorem dX7_writeLot_114 : decode cX7_writeLot 114 = .ok (.bipush 126, 2) := by decide +kernel
theorem dX7_writeLot_116 : decode cX7_writeLot 116 = .ok (.invokevirtual 175, 3) := by decide +kernel
theorem dX7_writeLot_119 : decode cX7_writeLot 119 = .ok (.aload_n 0, 1) := by decide +kernel
theorem dX7_writeLot_120 : decode cX7_writeLot 120 = .ok (.iload_n 1, 1) := by decide +kernel
theorem dX7_writeLot_121 : decode cX7_writeLot 121 = .ok (.invokevirtual 77, 3) := by decide +kernel
theorem dX7_writeLot_124 : decode cX7_writeLot 124 = .ok (.iconst (-1), 1) := by decide +kernel
theorem dX7_writeLot_125 : decode cX7_writeLot 125 = .ok (.if_icmp .eq 9, 3) := by decide +kernel
theorem dX7_writeLot_128 : decode cX7_writeLot 128 = .ok (.aload_n 0, 1) := by decide +kernel
theorem dX7_writeLot_129 : decode cX7_writeLot 129 = .ok (.bipush 63, 2) := by decide +kernel
theorem dX7_writeLot_131 : decode cX7_writeLot 131 = .ok (.invokevirtual 175, 3) := by decide +kernel
theorem dX7_writeLot_134 : decode cX7_writeLot 134 = .ok (.aload_n 0, 1) := by decide +kernel
theorem dX7_writeLot_135 : decode cX7_writeLot 135 = .ok (.getfield 172, 3) := by decide +kernel
theorem dX7_writeLot_138 : decode cX7_writeLot 138 = .ok (.ireturn, 1) := by decide +kernel
theorem dX7_writeBays_0 : decode cX7_writeBays 0 = .ok (.aload_n 0, 1) := by decide +kernel
theorem dX7_writeBays_1 : decode cX7_writeBays 1 = .ok (.iconst 0, 1) := by decide +kernel
theorem dX7_writeBays_2 : decode cX7_writeBays 2 = .ok (.putfield 47, 3) := by decide +kernel
theorem dX7_writeBays_5 : decode cX7_writeBays 5 = .ok (.aload_n 0, 1) := by decide +kernel
theorem dX7_writeBays_6 : decode cX7_writeBays 6 = .ok (.iconst 0, 1) := by decide +kernel
theorem dX7_writeBays_7 : decode cX7_writeBays 7 = .ok (.putfield 172, 3) := by decide +kernel
theorem dX7_writeBays_10 : decode cX7_writeBays 10 = .ok (.iconst 0, 1) := by decide +kernel
theorem dX7_writeBays_11 : decode cX7_writeBays 11 = .ok (.istore_n 1, 1) := by decide +kernel
theorem dX7_writeBays_12 : decode cX7_writeBays 12 = .ok (.iload_n 1, 1) := by decide +kernel
theorem dX7_writeBays_13 : decode cX7_writeBays 13 = .ok (.bipush 24, 2) := by decide +kernel
theorem dX7_writeBays_15 : decode cX7_writeBays 15 = .ok (.if_icmp .ge 76, 3) := by decide +kernel
theorem dX7_writeBays_18 : decode cX7_writeBays 18 = .ok (.aload_n 0, 1) := by decide +kernel
theorem dX7_writeBays_19 : decode cX7_writeBays 19 = .ok (.iload_n 1, 1) := by decide +kernel
theorem dX7_writeBays_20 : decode cX7_writeBays 20 = .ok (.invokevirtual 91, 3) := by decide +kernel
theorem dX7_writeBays_23 : decode cX7_writeBays 23 = .ok (.istore_n 2, 1) := by decide +kernel
theorem dX7_writeBays_24 : decode cX7_writeBays 24 = .ok (.iload_n 2, 1) := by decide +kernel
theorem dX7_writeBays_25 : decode cX7_writeBays 25 = .ok (.iconst (-1), 1) := by decide +kernel
theorem dX7_writeBays_26 : decode cX7_writeBays 26 = .ok (.if_icmp .ne 12, 3) := by decide +kernel
theorem dX7_writeBays_29 : decode cX7_writeBays 29 = .ok (.aload_n 0, 1) := by decide +kernel
theorem dX7_writeBays_30 : decode cX7_writeBays 30 = .ok (.bipush 46, 2) := by decide +kernel
theorem dX7_writeBays_32 : decode cX7_writeBays 32 = .ok (.invokevirtual 175, 3) := by decide +kernel
theorem dX7_writeBays_35 : decode cX7_writeBays 35 = .ok (.goto 50, 3) := by decide +kernel
theorem dX7_writeBays_38 : decode cX7_writeBays 38 = .ok (.aload_n 0, 1) := by decide +kernel
theorem dX7_writeBays_39 : decode cX7_writeBays 39 = .ok (.iload_n 2, 1) := by decide +kernel
theorem dX7_writeBays_40 : decode cX7_writeBays 40 = .ok (.bipush 6, 2) := by decide +kernel
theorem dX7_writeBays_42 : decode cX7_writeBays 42 = .ok (.invokevirtual 63, 3) := by decide +kernel
theorem dX7_writeBays_45 : decode cX7_writeBays 45 = .ok (.iconst 1, 1) := by decide +kernel
theorem dX7_writeBays_46 : decode cX7_writeBays 46 = .ok (.if_icmp .ne 12, 3) := by decide +kernel
theorem dX7_writeBays_49 : decode cX7_writeBays 49 = .ok (.aload_n 0, 1) := by decide +kernel
theorem dX7_writeBays_50 : decode cX7_writeBays 50 = .ok (.bipush 126, 2) := by decide +kernel
theorem dX7_writeBays_52 : decode cX7_writeBays 52 = .ok (.invokevirtual 175, 3) := by decide +kernel
theorem dX7_writeBays_55 : decode cX7_writeBays 55 = .ok (.goto 30, 3) := by decide +kernel
theorem dX7_writeBays_58 : decode cX7_writeBays 58 = .ok (.aload_n 0, 1) := by decide +kernel
theorem dX7_writeBays_59 : decode cX7_writeBays 59 = .ok (.aload_n 0, 1) := by decide +kernel
theorem dX7_writeBays_60 : decode cX7_writeBays 60 = .ok (.iload_n 2, 1) := by decide +kernel
theorem dX7_writeBays_61 : decode cX7_writeBays 61 = .ok (.iconst 1, 1) := by decide +kernel
theorem dX7_writeBays_62 : decode cX7_writeBays 62 = .ok (.invokevirtual 63, 3) := by decide +kernel
theorem dX7_writeBays_65 : decode cX7_writeBays 65 = .ok (.aload_n 0, 1) := by decide +kernel
theorem dX7_writeBays_66 : decode cX7_writeBays 66 = .ok (.iload_n 2, 1) := by decide +kernel
theorem dX7_writeBays_67 : decode cX7_writeBays 67 = .ok (.iconst 5, 1) := by decide +kernel
theorem dX7_writeBays_68 : decode cX7_writeBays 68 = .ok (.invokevirtual 63, 3) := by decide +kernel
theorem dX7_writeBays_71 : decode cX7_writeBays 71 = .ok (.iconst 1, 1) := by decide +kernel
theorem dX7_writeBays_72 : decode cX7_writeBays 72 = .ok (.if_icmp .ne 8, 3) := by decide +kernel
theorem dX7_writeBays_75 : decode cX7_writeBays 75 = .ok (.bipush 32, 2) := by decide +kernel
theorem dX7_writeBays_77 : decode cX7_writeBays 77 = .ok (.goto 4, 3) := by decide +kernel
theorem dX7_writeBays_80 : decode cX7_writeBays 80 = .ok (.iconst 0, 1) := by decide +kernel
theorem dX7_writeBays_81 : decode cX7_writeBays 81 = .ok (.isub, 1) := by decide +kernel
theorem dX7_writeBays_82 : decode cX7_writeBays 82 = .ok (.invokevirtual 175, 3) := by decide +kernel
theorem dX7_writeBays_85 : decode cX7_writeBays 85 = .ok (.iinc 1 1, 3) := by decide +kernel
theorem dX7_writeBays_88 : decode cX7_writeBays 88 = .ok (.goto (-76), 3) := by decide +kernel
theorem dX7_writeBays_91 : decode cX7_writeBays 91 = .ok (.aload_n 0, 1) := by decide +kernel
theorem dX7_writeBays_92 : decode cX7_writeBays 92 = .ok (.getfield 172, 3) := by decide +kernel
theorem dX7_writeBays_95 : decode cX7_writeBays 95 = .ok (.ireturn, 1) := by decide +kernel
theorem dX7_outputCharacter_0 : decode cX7_outputCharacter 0 = .ok (.aload_n 0, 1) := by decide +kernel
theorem dX7_outputCharacter_1 : decode cX7_outputCharacter 1 = .ok (.iload_n 1, 1) := by decide +kernel
theorem dX7_outputCharacter_2 : decode cX7_outputCharacter 2 = .ok (.iconst 0, 1) := by decide +kernel
theorem dX7_outputCharacter_3 : decode cX7_outputCharacter 3 = .ok (.aload_n 0, 1) := by decide +kernel
theorem dX7_outputCharacter_4 : decode cX7_outputCharacter 4 = .ok (.getfield 172, 3) := by decide +kernel
theorem dX7_outputCharacter_7 : decode cX7_outputCharacter 7 = .ok (.iconst 1, 1) := by decide +kernel
theorem dX7_outputCharacter_8 : decode cX7_outputCharacter 8 = .ok (.isub, 1) := by decide +kernel
theorem dX7_outputCharacter_9 : decode cX7_outputCharacter 9 = .ok (.invokestatic 67, 3) := by decide +kernel
theorem dX7_outputCharacter_12 : decode cX7_outputCharacter 12 = .ok (.ifCond .eq 7, 3) := by decide +kernel
theorem dX7_outputCharacter_15 : decode cX7_outputCharacter 15 = .ok (.iconst 0, 1) := by decide +kernel
theorem dX7_outputCharacter_16 : decode cX7_outputCharacter 16 = .ok (.goto 4, 3) := by decide +kernel
theorem dX7_outputCharacter_19 : decode cX7_outputCharacter 19 = .ok (.iconst 1, 1) := by decide +kernel
theorem dX7_outputCharacter_20 : decode cX7_outputCharacter 20 = .ok (.putfield 47, 3) := by decide +kernel
theorem dX7_outputCharacter_23 : decode cX7_outputCharacter 23 = .ok (.aload_n 0, 1) := by decide +kernel
theorem dX7_outputCharacter_24 : decode cX7_outputCharacter 24 = .ok (.getfield 47, 3) := by decide +kernel
theorem dX7_outputCharacter_27 : decode cX7_outputCharacter 27 = .ok (.ifCond .le 7, 3) := by decide +kernel
theorem dX7_outputCharacter_30 : decode cX7_outputCharacter 30 = .ok (.iconst 0, 1) := by decide +kernel
theorem dX7_outputCharacter_31 : decode cX7_outputCharacter 31 = .ok (.goto 10, 3) := by decide +kernel
theorem dX7_outputCharacter_34 : decode cX7_outputCharacter 34 = .ok (.aload_n 0, 1) := by decide +kernel
theorem dX7_outputCharacter_35 : decode cX7_outputCharacter 35 = .ok (.getfield 31, 3) := by decide +kernel
theorem dX7_outputCharacter_38 : decode cX7_outputCharacter 38 = .ok (.iload_n 1, 1) := by decide +kernel
theorem dX7_outputCharacter_39 : decode cX7_outputCharacter 39 = .ok (.iaload, 1) := by decide +kernel
theorem dX7_outputCharacter_40 : decode cX7_outputCharacter 40 = .ok (.i2c, 1) := by decide +kernel
theorem dX7_outputCharacter_41 : decode cX7_outputCharacter 41 = .ok (.ireturn, 1) := by decide +kernel
theorem dX7_isConsistent_0 : decode cX7_isConsistent 0 = .ok (.aload_n 0, 1) := by decide +kernel
theorem dX7_isConsistent_1 : decode cX7_isConsistent 1 = .ok (.iconst 0, 1) := by decide +kernel
theorem dX7_isConsistent_2 : decode cX7_isConsistent 2 = .ok (.putfield 47, 3) := by decide +kernel
theorem dX7_isConsistent_5 : decode cX7_isConsistent 5 = .ok (.iconst 1, 1) := by decide +kernel
theorem dX7_isConsistent_6 : decode cX7_isConsistent 6 = .ok (.ireturn, 1) := by decide +kernel
theorem dX7_feed_0 : decode cX7_feed 0 = .ok (.aload_n 0, 1) := by decide +kernel
theorem dX7_feed_1 : decode cX7_feed 1 = .ok (.aload_n 0, 1) := by decide +kernel
theorem dX7_feed_2 : decode cX7_feed 2 = .ok (.getfield 181, 3) := by decide +kernel
theorem dX7_feed_5 : decode cX7_feed 5 = .ok (.bipush 60, 2) := by decide +kernel
theorem dX7_feed_7 : decode cX7_feed 7 = .ok (.if_icmp .ne 7, 3) := by decide +kernel
theorem dX7_feed_10 : decode cX7_feed 10 = .ok (.iconst 1, 1) := by decide +kernel
theorem dX7_feed_11 : decode cX7_feed 11 = .ok (.goto 4, 3) := by decide +kernel
theorem dX7_feed_14 : decode cX7_feed 14 = .ok (.iconst 0, 1) := by decide +kernel
theorem dX7_feed_15 : decode cX7_feed 15 = .ok (.putfield 47, 3) := by decide +kernel
theorem dX7_feed_18 : decode cX7_feed 18 = .ok (.aload_n 0, 1) := by decide +kernel
theorem dX7_feed_19 : decode cX7_feed 19 = .ok (.getfield 47, 3) := by decide +kernel
theorem dX7_feed_22 : decode cX7_feed 22 = .ok (.ifCond .le 5, 3) := by decide +kernel
theorem dX7_feed_25 : decode cX7_feed 25 = .ok (.iconst 0, 1) := by decide +kernel
theorem dX7_feed_26 : decode cX7_feed 26 = .ok (.ireturn, 1) := by decide +kernel
theorem dX7_feed_27 : decode cX7_feed 27 = .ok (.aload_n 0, 1) := by decide +kernel
theorem dX7_feed_28 : decode cX7_feed 28 = .ok (.getfield 25, 3) := by decide +kernel
theorem dX7_feed_31 : decode cX7_feed 31 = .ok (.aload_n 0, 1) := by decide +kernel
theorem dX7_feed_32 : decode cX7_feed 32 = .ok (.getfield 181, 3) := by decide +kernel
theorem dX7_feed_35 : decode cX7_feed 35 = .ok (.iload_n 1, 1) := by decide +kernel
theorem dX7_feed_36 : decode cX7_feed 36 = .ok (.iastore, 1) := by decide +kernel
theorem dX7_feed_37 : decode cX7_feed 37 = .ok (.aload_n 0, 1) := by decide +kernel
theorem dX7_feed_38 : decode cX7_feed 38 = .ok (.dup, 1) := by decide +kernel
theorem dX7_feed_39 : decode cX7_feed 39 = .ok (.getfield 181, 3) := by decide +kernel
theorem dX7_feed_42 : decode cX7_feed 42 = .ok (.iconst 1, 1) := by decide +kernel
theorem dX7_feed_43 : decode cX7_feed 43 = .ok (.iadd, 1) := by decide +kernel
theorem dX7_feed_44 : decode cX7_feed 44 = .ok (.putfield 181, 3) := by decide +kernel
theorem dX7_feed_47 : decode cX7_feed 47 = .ok (.aload_n 0, 1) := by decide +kernel
theorem dX7_feed_48 : decode cX7_feed 48 = .ok (.getfield 181, 3) := by decide +kernel
theorem dX7_feed_51 : decode cX7_feed 51 = .ok (.ireturn, 1) := by decide +kernel
theorem dX7_here_0 : decode cX7_here 0 = .ok (.aload_n 0, 1) := by decide +kernel
theorem dX7_here_1 : decode cX7_here 1 = .ok (.getfield 184, 3) := by decide +kernel
theorem dX7_here_4 : decode cX7_here 4 = .ok (.iload_n 1, 1) := by decide +kernel
theorem dX7_here_5 : decode cX7_here 5 = .ok (.iadd, 1) := by decide +kernel
theorem dX7_here_6 : decode cX7_here 6 = .ok (.aload_n 0, 1) := by decide +kernel
theorem dX7_here_7 : decode cX7_here 7 = .ok (.getfield 187, 3) := by decide +kernel
theorem dX7_here_10 : decode cX7_here 10 = .ok (.if_icmp .ge 17, 3) := by decide +kernel
theorem dX7_here_13 : decode cX7_here 13 = .ok (.aload_n 0, 1) := by decide +kernel
theorem dX7_here_14 : decode cX7_here 14 = .ok (.getfield 25, 3) := by decide +kernel
theorem dX7_here_17 : decode cX7_here 17 = .ok (.aload_n 0, 1) := by decide +kernel
theorem dX7_here_18 : decode cX7_here 18 = .ok (.getfield 184, 3) := by decide +kernel
theorem dX7_here_21 : decode cX7_here 21 = .ok (.iload_n 1, 1) := by decide +kernel
theorem dX7_here_22 : decode cX7_here 22 = .ok (.iadd, 1) := by decide +kernel
theorem dX7_here_23 : decode cX7_here 23 = .ok (.iaload, 1) := by decide +kernel
theorem dX7_here_24 : decode cX7_here 24 = .ok (.goto 4, 3) := by decide +kernel
theorem dX7_here_27 : decode cX7_here 27 = .ok (.iconst (-1), 1) := by decide +kernel
theorem dX7_here_28 : decode cX7_here 28 = .ok (.ireturn, 1) := by decide +kernel
theorem dX7_says_0 : decode cX7_says 0 = .ok (.iconst 0, 1) := by decide +kernel
theorem dX7_says_1 : decode cX7_says 1 = .ok (.istore_n 2, 1) := by decide +kernel
theorem dX7_says_2 : decode cX7_says 2 = .ok (.iload_n 2, 1) := by decide +kernel
theorem dX7_says_3 : decode cX7_says 3 = .ok (.aload_n 1, 1) := by decide +kernel
theorem dX7_says_4 : decode cX7_says 4 = .ok (.invokevirtual 190, 3) := by decide +kernel
theorem dX7_says_7 : decode cX7_says 7 = .ok (.if_icmp .ge 59, 3) := by decide +kernel
theorem dX7_says_10 : decode cX7_says 10 = .ok (.aload_n 0, 1) := by decide +kernel
theorem dX7_says_11 : decode cX7_says 11 = .ok (.getfield 194, 3) := by decide +kernel
theorem dX7_says_14 : decode cX7_says 14 = .ok (.ifCond .ne 52, 3) := by decide +kernel
theorem dX7_says_17 : decode cX7_says 17 = .ok (.aload_n 0, 1) := by decide +kernel
theorem dX7_says_18 : decode cX7_says 18 = .ok (.aload_n 0, 1) := by decide +kernel
theorem dX7_says_19 : decode cX7_says 19 = .ok (.iconst 0, 1) := by decide +kernel
theorem dX7_says_20 : decode cX7_says 20 = .ok (.invokevirtual 198, 3) := by decide +kernel
theorem dX7_says_23 : decode cX7_says 23 = .ok (.aload_n 1, 1) := by decide +kernel
theorem dX7_says_24 : decode cX7_says 24 = .ok (.iload_n 2, 1) := by decide +kernel
theorem dX7_says_25 : decode cX7_says 25 = .ok (.invokevirtual 201, 3) := by decide +kernel
theorem dX7_says_28 : decode cX7_says 28 = .ok (.if_icmp .eq 7, 3) := by decide +kernel
theorem dX7_says_31 : decode cX7_says 31 = .ok (.iconst 1, 1) := by decide +kernel
theorem dX7_says_32 : decode cX7_says 32 = .ok (.goto 4, 3) := by decide +kernel
theorem dX7_says_35 : decode cX7_says 35 = .ok (.iconst 0, 1) := by decide +kernel
theorem dX7_says_36 : decode cX7_says 36 = .ok (.putfield 194, 3) := by decide +kernel
theorem dX7_says_39 : decode cX7_says 39 = .ok (.aload_n 0, 1) := by decide +kernel
theorem dX7_says_40 : decode cX7_says 40 = .ok (.dup, 1) := by decide +kernel
theorem dX7_says_41 : decode cX7_says 41 = .ok (.getfield 184, 3) := by decide +kernel
theorem dX7_says_44 : decode cX7_says 44 = .ok (.aload_n 0, 1) := by decide +kernel
theorem dX7_says_45 : decode cX7_says 45 = .ok (.getfield 194, 3) := by decide +kernel
theorem dX7_says_48 : decode cX7_says 48 = .ok (.ifCond .eq 7, 3) := by decide +kernel
theorem dX7_says_51 : decode cX7_says 51 = .ok (.iconst 0, 1) := by decide +kernel
theorem dX7_says_52 : decode cX7_says 52 = .ok (.goto 4, 3) := by decide +kernel
theorem dX7_says_55 : decode cX7_says 55 = .ok (.iconst 1, 1) := by decide +kernel
theorem dX7_says_56 : decode cX7_says 56 = .ok (.iadd, 1) := by decide +kernel
theorem dX7_says_57 : decode cX7_says 57 = .ok (.putfield 184, 3) := by decide +kernel
theorem dX7_says_60 : decode cX7_says 60 = .ok (.iinc 2 1, 3) := by decide +kernel
theorem dX7_says_63 : decode cX7_says 63 = .ok (.goto (-61), 3) := by decide +kernel
theorem dX7_says_66 : decode cX7_says 66 = .ok (.return_, 1) := by decide +kernel
theorem dX7_number_0 : decode cX7_number 0 = .ok (.iconst 0, 1) := by decide +kernel
theorem dX7_number_1 : decode cX7_number 1 = .ok (.istore_n 2, 1) := by decide +kernel
theorem dX7_number_2 : decode cX7_number 2 = .ok (.iconst 0, 1) := by decide +kernel
theorem dX7_number_3 : decode cX7_number 3 = .ok (.istore_n 3, 1) := by decide +kernel
theorem dX7_number_4 : decode cX7_number 4 = .ok (.aload_n 0, 1) := by decide +kernel
theorem dX7_number_5 : decode cX7_number 5 = .ok (.getfield 194, 3) := by decide +kernel
theorem dX7_number_8 : decode cX7_number 8 = .ok (.ifCond .ne 53, 3) := by decide +kernel
theorem dX7_number_11 : decode cX7_number 11 = .ok (.iload_n 3, 1) := by decide +kernel
theorem dX7_number_12 : decode cX7_number 12 = .ok (.iconst 4, 1) := by decide +kernel
theorem dX7_number_13 : decode cX7_number 13 = .ok (.if_icmp .ge 48, 3) := by decide +kernel
theorem dX7_number_16 : decode cX7_number 16 = .ok (.aload_n 0, 1) := by decide +kernel
theorem dX7_number_17 : decode cX7_number 17 = .ok (.iconst 0, 1) := by decide +kernel
theorem dX7_number_18 : decode cX7_number 18 = .ok (.invokevirtual 198, 3) := by decide +kernel
theorem dX7_number_21 : decode cX7_number 21 = .ok (.bipush 48, 2) := by decide +kernel
theorem dX7_number_23 : decode cX7_number 23 = .ok (.bipush 57, 2) := by decide +kernel
theorem dX7_number_25 : decode cX7_number 25 = .ok (.invokestatic 67, 3) := by decide +kernel
theorem dX7_number_28 : decode cX7_number 28 = .ok (.ifCond .eq 33, 3) := by decide +kernel
theorem dX7_number_31 : decode cX7_number 31 = .ok (.bipush 10, 2) := by decide +kernel
theorem dX7_number_33 : decode cX7_number 33 = .ok (.iload_n 2, 1) := by decide +kernel
theorem dX7_number_34 : decode cX7_number 34 = .ok (.imul, 1) := by decide +kernel
theorem dX7_number_35 : decode cX7_number 35 = .ok (.aload_n 0, 1) := by decide +kernel
theorem dX7_number_36 : decode cX7_number 36 = .ok (.iconst 0, 1) := by decide +kernel
theorem dX7_number_37 : decode cX7_number 37 = .ok (.invokevirtual 198, 3) := by decide +kernel
theorem dX7_number_40 : decode cX7_number 40 = .ok (.iadd, 1) := by decide +kernel
theorem dX7_number_41 : decode cX7_number 41 = .ok (.bipush 48, 2) := by decide +kernel
theorem dX7_number_43 : decode cX7_number 43 = .ok (.isub, 1) := by decide +kernel
theorem dX7_number_44 : decode cX7_number 44 = .ok (.istore_n 2, 1) := by decide +kernel
theorem dX7_number_45 : decode cX7_number 45 = .ok (.aload_n 0, 1) := by decide +kernel
theorem dX7_number_46 : decode cX7_number 46 = .ok (.dup, 1) := by decide +kernel
theorem dX7_number_47 : decode cX7_number 47 = .ok (.getfield 184, 3) := by decide +kernel
theorem dX7_number_50 : decode cX7_number 50 = .ok (.iconst 1, 1) := by decide +kernel
theorem dX7_number_51 : decode cX7_number 51 = .ok (.iadd, 1) := by decide +kernel
theorem dX7_number_52 : decode cX7_number 52 = .ok (.putfield 184, 3) := by decide +kernel
theorem dX7_number_55 : decode cX7_number 55 = .ok (.iinc 3 1, 3) := by decide +kernel
theorem dX7_number_58 : decode cX7_number 58 = .ok (.goto (-54), 3) := by decide +kernel
theorem dX7_number_61 : decode cX7_number 61 = .ok (.aload_n 0, 1) := by decide +kernel
theorem dX7_number_62 : decode cX7_number 62 = .ok (.aload_n 0, 1) := by decide +kernel
theorem dX7_number_63 : decode cX7_number 63 = .ok (.getfield 194, 3) := by decide +kernel
theorem dX7_number_66 : decode cX7_number 66 = .ok (.ifCond .ne 7, 3) := by decide +kernel
theorem dX7_number_69 : decode cX7_number 69 = .ok (.iload_n 3, 1) := by decide +kernel
theorem dX7_number_70 : decode cX7_number 70 = .ok (.ifCond .ne 7, 3) := by decide +kernel
theorem dX7_number_73 : decode cX7_number 73 = .ok (.iconst 1, 1) := by decide +kernel
theorem dX7_number_74 : decode cX7_number 74 = .ok (.goto 4, 3) := by decide +kernel
theorem dX7_number_77 : decode cX7_number 77 = .ok (.iconst 0, 1) := by decide +kernel
theorem dX7_number_78 : decode cX7_number 78 = .ok (.putfield 194, 3) := by decide +kernel
theorem dX7_number_81 : decode cX7_number 81 = .ok (.aload_n 0, 1) := by decide +kernel
theorem dX7_number_82 : decode cX7_number 82 = .ok (.getfield 28, 3) := by decide +kernel
theorem dX7_number_85 : decode cX7_number 85 = .ok (.iconst 5, 1) := by decide +kernel
theorem dX7_number_86 : decode cX7_number 86 = .ok (.aload_n 0, 1) := by decide +kernel
theorem dX7_number_87 : decode cX7_number 87 = .ok (.getfield 205, 3) := by decide +kernel
theorem dX7_number_90 : decode cX7_number 90 = .ok (.imul, 1) := by decide +kernel
theorem dX7_number_91 : decode cX7_number 91 = .ok (.iload_n 1, 1) := by decide +kernel
theorem dX7_number_92 : decode cX7_number 92 = .ok (.iadd, 1) := by decide +kernel
theorem dX7_number_93 : decode cX7_number 93 = .ok (.iload_n 2, 1) := by decide +kernel
theorem dX7_number_94 : decode cX7_number 94 = .ok (.iastore, 1) := by decide +kernel
theorem dX7_number_95 : decode cX7_number 95 = .ok (.return_, 1) := by decide +kernel
theorem dX7_one_0 : decode cX7_one 0 = .ok (.aload_n 0, 1) := by decide +kernel
theorem dX7_one_1 : decode cX7_one 1 = .ok (.getfield 28, 3) := by decide +kernel
theorem dX7_one_4 : decode cX7_one 4 = .ok (.iconst 5, 1) := by decide +kernel
theorem dX7_one_5 : decode cX7_one 5 = .ok (.aload_n 0, 1) := by decide +kernel
theorem dX7_one_6 : decode cX7_one 6 = .ok (.getfield 205, 3) := by decide +kernel
theorem dX7_one_9 : decode cX7_one 9 = .ok (.imul, 1) := by decide +kernel
theorem dX7_one_10 : decode cX7_one 10 = .ok (.iload_n 1, 1) := by decide +kernel
theorem dX7_one_11 : decode cX7_one 11 = .ok (.iastore, 1) := by decide +kernel
theorem dX7_one_12 : decode cX7_one 12 = .ok (.aload_n 0, 1) := by decide +kernel
theorem dX7_one_13 : decode cX7_one 13 = .ok (.aload_n 2, 1) := by decide +kernel
theorem dX7_one_14 : decode cX7_one 14 = .ok (.invokevirtual 208, 3) := by decide +kernel
theorem dX7_one_17 : decode cX7_one 17 = .ok (.aload_n 0, 1) := by decide +kernel
theorem dX7_one_18 : decode cX7_one 18 = .ok (.iconst 1, 1) := by decide +kernel
theorem dX7_one_19 : decode cX7_one 19 = .ok (.invokevirtual 212, 3) := by decide +kernel
theorem dX7_one_22 : decode cX7_one 22 = .ok (.return_, 1) := by decide +kernel
theorem dX7_two_0 : decode cX7_two 0 = .ok (.aload_n 0, 1) := by decide +kernel
theorem dX7_two_1 : decode cX7_two 1 = .ok (.iload_n 1, 1) := by decide +kernel
theorem dX7_two_2 : decode cX7_two 2 = .ok (.aload_n 2, 1) := by decide +kernel
theorem dX7_two_3 : decode cX7_two 3 = .ok (.invokevirtual 215, 3) := by decide +kernel
theorem dX7_two_6 : decode cX7_two 6 = .ok (.aload_n 0, 1) := by decide +kernel
theorem dX7_two_7 : decode cX7_two 7 = .ok (.aload_n 3, 1) := by decide +kernel
theorem dX7_two_8 : decode cX7_two 8 = .ok (.invokevirtual 208, 3) := by decide +kernel
theorem dX7_two_11 : decode cX7_two 11 = .ok (.aload_n 0, 1) := by decide +kernel
theorem dX7_two_12 : decode cX7_two 12 = .ok (.iconst 2, 1) := by decide +kernel
theorem dX7_two_13 : decode cX7_two 13 = .ok (.invokevirtual 212, 3) := by decide +kernel
theorem dX7_two_16 : decode cX7_two 16 = .ok (.return_, 1) := by decide +kernel
theorem dX7_readsLot_0 : decode cX7_readsLot 0 = .ok (.aload_n 0, 1) := by decide +kernel
theorem dX7_readsLot_1 : decode cX7_readsLot 1 = .ok (.getfield 28, 3) := by decide +kernel
theorem dX7_readsLot_4 : decode cX7_readsLot 4 = .ok (.iconst 5, 1) := by decide +kernel
theorem dX7_readsLot_5 : decode cX7_readsLot 5 = .ok (.aload_n 0, 1) := by decide +kernel
theorem dX7_readsLot_6 : decode cX7_readsLot 6 = .ok (.getfield 205, 3) := by decide +kernel
theorem dX7_readsLot_9 : decode cX7_readsLot 9 = .ok (.imul, 1) := by decide +kernel
theorem dX7_readsLot_10 : decode cX7_readsLot 10 = .ok (.bipush 108, 2) := by decide +kernel
theorem dX7_readsLot_12 : decode cX7_readsLot 12 = .ok (.iastore, 1) := by decide +kernel
theorem dX7_readsLot_13 : decode cX7_readsLot 13 = .ok (.aload_n 0, 1) := by decide +kernel
theorem dX7_readsLot_14 : decode cX7_readsLot 14 = .ok (.ldc 219, 2) := by decide +kernel
theorem dX7_readsLot_16 : decode cX7_readsLot 16 = .ok (.invokevirtual 208, 3) := by decide +kernel
theorem dX7_readsLot_19 : decode cX7_readsLot 19 = .ok (.aload_n 0, 1) := by decide +kernel
theorem dX7_readsLot_20 : decode cX7_readsLot 20 = .ok (.aload_n 0, 1) := by decide +kernel
theorem dX7_readsLot_21 : decode cX7_readsLot 21 = .ok (.getfield 194, 3) := by decide +kernel
theorem dX7_readsLot_24 : decode cX7_readsLot 24 = .ok (.ifCond .ne 14, 3) := by decide +kernel
theorem dX7_readsLot_27 : decode cX7_readsLot 27 = .ok (.aload_n 0, 1) := by decide +kernel
theorem dX7_readsLot_28 : decode cX7_readsLot 28 = .ok (.iconst 0, 1) := by decide +kernel
theorem dX7_readsLot_29 : decode cX7_readsLot 29 = .ok (.invokevirtual 198, 3) := by decide +kernel
theorem dX7_readsLot_32 : decode cX7_readsLot 32 = .ok (.invokestatic 88, 3) := by decide +kernel
theorem dX7_readsLot_35 : decode cX7_readsLot 35 = .ok (.ifCond .ne 7, 3) := by decide +kernel
theorem dX7_readsLot_38 : decode cX7_readsLot 38 = .ok (.iconst 1, 1) := by decide +kernel
theorem dX7_readsLot_39 : decode cX7_readsLot 39 = .ok (.goto 4, 3) := by decide +kernel
theorem dX7_readsLot_42 : decode cX7_readsLot 42 = .ok (.iconst 0, 1) := by decide +kernel
theorem dX7_readsLot_43 : decode cX7_readsLot 43 = .ok (.putfield 194, 3) := by decide +kernel
theorem dX7_readsLot_46 : decode cX7_readsLot 46 = .ok (.aload_n 0, 1) := by decide +kernel
theorem dX7_readsLot_47 : decode cX7_readsLot 47 = .ok (.getfield 28, 3) := by decide +kernel
theorem dX7_readsLot_50 : decode cX7_readsLot 50 = .ok (.iconst 5, 1) := by decide +kernel
theorem dX7_readsLot_51 : decode cX7_readsLot 51 = .ok (.aload_n 0, 1) := by decide +kernel
theorem dX7_readsLot_52 : decode cX7_readsLot 52 = .ok (.getfield 205, 3) := by decide +kernel
theorem dX7_readsLot_55 : decode cX7_readsLot 55 = .ok (.imul, 1) := by decide +kernel
theorem dX7_readsLot_56 : decode cX7_readsLot 56 = .ok (.iconst 4, 1) := by decide +kernel
theorem dX7_readsLot_57 : decode cX7_readsLot 57 = .ok (.iadd, 1) := by decide +kernel
theorem dX7_readsLot_58 : decode cX7_readsLot 58 = .ok (.aload_n 0, 1) := by decide +kernel
theorem dX7_readsLot_59 : decode cX7_readsLot 59 = .ok (.getfield 194, 3) := by decide +kernel
theorem dX7_readsLot_62 : decode cX7_readsLot 62 = .ok (.ifCond .eq 7, 3) := by decide +kernel
theorem dX7_readsLot_65 : decode cX7_readsLot 65 = .ok (.iconst 0, 1) := by decide +kernel
theorem dX7_readsLot_66 : decode cX7_readsLot 66 = .ok (.goto 8, 3) := by decide +kernel
theorem dX7_readsLot_69 : decode cX7_readsLot 69 = .ok (.aload_n 0, 1) := by decide +kernel
theorem dX7_readsLot_70 : decode cX7_readsLot 70 = .ok (.iconst 0, 1) := by decide +kernel
theorem dX7_readsLot_71 : decode cX7_readsLot 71 = .ok (.invokevirtual 198, 3) := by decide +kernel
theorem dX7_readsLot_74 : decode cX7_readsLot 74 = .ok (.iastore, 1) := by decide +kernel
theorem dX7_readsLot_75 : decode cX7_readsLot 75 = .ok (.aload_n 0, 1) := by decide +kernel
theorem dX7_readsLot_76 : decode cX7_readsLot 76 = .ok (.dup, 1) := by decide +kernel
theorem dX7_readsLot_77 : decode cX7_readsLot 77 = .ok (.getfield 184, 3) := by decide +kernel
theorem dX7_readsLot_80 : decode cX7_readsLot 80 = .ok (.aload_n 0, 1) := by decide +kernel
theorem dX7_readsLot_81 : decode cX7_readsLot 81 = .ok (.getfield 194, 3) := by decide +kernel
theorem dX7_readsLot_84 : decode cX7_readsLot 84 = .ok (.ifCond .eq 7, 3) := by decide +kernel
theorem dX7_readsLot_87 : decode cX7_readsLot 87 = .ok (.iconst 0, 1) := by decide +kernel
theorem dX7_readsLot_88 : decode cX7_readsLot 88 = .ok (.goto 4, 3) := by decide +kernel
theorem dX7_readsLot_91 : decode cX7_readsLot 91 = .ok (.iconst 1, 1) := by decide +kernel
theorem dX7_readsLot_92 : decode cX7_readsLot 92 = .ok (.iadd, 1) := by decide +kernel
theorem dX7_readsLot_93 : decode cX7_readsLot 93 = .ok (.putfield 184, 3) := by decide +kernel
theorem dX7_readsLot_96 : decode cX7_readsLot 96 = .ok (.aload_n 0, 1) := by decide +kernel
theorem dX7_readsLot_97 : decode cX7_readsLot 97 = .ok (.iconst 1, 1) := by decide +kernel
theorem dX7_readsLot_98 : decode cX7_readsLot 98 = .ok (.invokevirtual 212, 3) := by decide +kernel
theorem dX7_readsLot_101 : decode cX7_readsLot 101 = .ok (.aload_n 0, 1) := by decide +kernel
theorem dX7_readsLot_102 : decode cX7_readsLot 102 = .ok (.ldc 221, 2) := by decide +kernel
theorem dX7_readsLot_104 : decode cX7_readsLot 104 = .ok (.invokevirtual 208, 3) := by decide +kernel
theorem dX7_readsLot_107 : decode cX7_readsLot 107 = .ok (.aload_n 0, 1) := by decide +kernel
theorem dX7_readsLot_108 : decode cX7_readsLot 108 = .ok (.iconst 2, 1) := by decide +kernel
theorem dX7_readsLot_109 : decode cX7_readsLot 109 = .ok (.invokevirtual 212, 3) := by decide +kernel
theorem dX7_readsLot_112 : decode cX7_readsLot 112 = .ok (.aload_n 0, 1) := by decide +kernel
theorem dX7_readsLot_113 : decode cX7_readsLot 113 = .ok (.ldc 223, 2) := by decide +kernel
theorem dX7_readsLot_115 : decode cX7_readsLot 115 = .ok (.invokevirtual 208, 3) := by decide +kernel
theorem dX7_readsLot_118 : decode cX7_readsLot 118 = .ok (.aload_n 0, 1) := by decide +kernel
theorem dX7_readsLot_119 : decode cX7_readsLot 119 = .ok (.iconst 3, 1) := by decide +kernel
theorem dX7_readsLot_120 : decode cX7_readsLot 120 = .ok (.invokevirtual 212, 3) := by decide +kernel
theorem dX7_readsLot_123 : decode cX7_readsLot 123 = .ok (.return_, 1) := by decide +kernel
theorem dX7_readsOne_0 : decode cX7_readsOne 0 = .ok (.aload_n 0, 1) := by decide +kernel
theorem dX7_readsOne_1 : decode cX7_readsOne 1 = .ok (.iconst 0, 1) := by decide +kernel
theorem dX7_readsOne_2 : decode cX7_readsOne 2 = .ok (.invokevirtual 198, 3) := by decide +kernel
theorem dX7_readsOne_5 : decode cX7_readsOne 5 = .ok (.istore_n 1, 1) := by decide +kernel
theorem dX7_readsOne_6 : decode cX7_readsOne 6 = .ok (.aload_n 0, 1) := by decide +kernel
theorem dX7_readsOne_7 : decode cX7_readsOne 7 = .ok (.getfield 28, 3) := by decide +kernel
theorem dX7_readsOne_10 : decode cX7_readsOne 10 = .ok (.iconst 5, 1) := by decide +kernel
theorem dX7_readsOne_11 : decode cX7_readsOne 11 = .ok (.aload_n 0, 1) := by decide +kernel
theorem dX7_readsOne_12 : decode cX7_readsOne 12 = .ok (.getfield 205, 3) := by decide +kernel
theorem dX7_readsOne_15 : decode cX7_readsOne 15 = .ok (.imul, 1) := by decide +kernel
theorem dX7_readsOne_16 : decode cX7_readsOne 16 = .ok (.iload_n 1, 1) := by decide +kernel
theorem dX7_readsOne_17 : decode cX7_readsOne 17 = .ok (.iastore, 1) := by decide +kernel
theorem dX7_readsOne_18 : decode cX7_readsOne 18 = .ok (.iload_n 1, 1) := by decide +kernel
theorem dX7_readsOne_19 : decode cX7_readsOne 19 = .ok (.tableswitch 232 97 119 #[203, 212, 232, 223, 232, 232, 232, 232, 232, 232, 232, 105, 190, 232, 146, 232, 168, 179, 112, 232, 232, 232, 157], 105) := by decide +kernel
theorem dX7_readsOne_124 : decode cX7_readsOne 124 = .ok (.aload_n 0, 1) := by decide +kernel
theorem dX7_readsOne_125 : decode cX7_readsOne 125 = .ok (.invokevirtual 225, 3) := by decide +kernel
theorem dX7_readsOne_128 : decode cX7_readsOne 128 = .ok (.goto 128, 3) := by decide +kernel
theorem dX7_readsOne_131 : decode cX7_readsOne 131 = .ok (.aload_n 0, 1) := by decide +kernel
theorem dX7_readsOne_132 : decode cX7_readsOne 132 = .ok (.iconst 1, 1) := by decide +kernel
theorem dX7_readsOne_133 : decode cX7_readsOne 133 = .ok (.invokevirtual 198, 3) := by decide +kernel
theorem dX7_readsOne_136 : decode cX7_readsOne 136 = .ok (.bipush 116, 2) := by decide +kernel
theorem dX7_readsOne_138 : decode cX7_readsOne 138 = .ok (.if_icmp .ne 16, 3) := by decide +kernel
theorem dX7_readsOne_141 : decode cX7_readsOne 141 = .ok (.aload_n 0, 1) := by decide +kernel
theorem dX7_readsOne_142 : decode cX7_readsOne 142 = .ok (.bipush 116, 2) := by decide +kernel
theorem dX7_readsOne_144 : decode cX7_readsOne 144 = .ok (.ldc 228, 2) := by decide +kernel
theorem dX7_readsOne_146 : decode cX7_readsOne 146 = .ok (.ldc 230, 2) := by decide +kernel
theorem dX7_readsOne_148 : decode cX7_readsOne 148 = .ok (.invokevirtual 232, 3) := by decide +kernel
theorem dX7_readsOne_151 : decode cX7_readsOne 151 = .ok (.goto 105, 3) := by decide +kernel
theorem dX7_readsOne_154 : decode cX7_readsOne 154 = .ok (.aload_n 0, 1) := by decide +kernel
theorem dX7_readsOne_155 : decode cX7_readsOne 155 = .ok (.bipush 115, 2) := by decide +kernel
theorem dX7_readsOne_157 : decode cX7_readsOne 157 = .ok (.ldc 236, 2) := by decide +kernel
theorem dX7_readsOne_159 : decode cX7_readsOne 159 = .ok (.invokevirtual 215, 3) := by decide +kernel
theorem dX7_readsOne_162 : decode cX7_readsOne 162 = .ok (.goto 94, 3) := by decide +kernel
theorem dX7_readsOne_165 : decode cX7_readsOne 165 = .ok (.aload_n 0, 1) := by decide +kernel
theorem dX7_readsOne_166 : decode cX7_readsOne 166 = .ok (.bipush 111, 2) := by decide +kernel
theorem dX7_readsOne_168 : decode cX7_readsOne 168 = .ok (.ldc 238, 2) := by decide +kernel
theorem dX7_readsOne_170 : decode cX7_readsOne 170 = .ok (.invokevirtual 215, 3) := by decide +kernel
theorem dX7_readsOne_173 : decode cX7_readsOne 173 = .ok (.goto 83, 3) := by decide +kernel
theorem dX7_readsOne_176 : decode cX7_readsOne 176 = .ok (.aload_n 0, 1) := by decide +kernel
theorem dX7_readsOne_177 : decode cX7_readsOne 177 = .ok (.bipush 119, 2) := by decide +kernel
theorem dX7_readsOne_179 : decode cX7_readsOne 179 = .ok (.ldc 240, 2) := by decide +kernel
theorem dX7_readsOne_181 : decode cX7_readsOne 181 = .ok (.invokevirtual 215, 3) := by decide +kernel
theorem dX7_readsOne_184 : decode cX7_readsOne 184 = .ok (.goto 72, 3) := by decide +kernel
theorem dX7_readsOne_187 : decode cX7_readsOne 187 = .ok (.aload_n 0, 1) := by decide +kernel
theorem dX7_readsOne_188 : decode cX7_readsOne 188 = .ok (.bipush 113, 2) := by decide +kernel
theorem dX7_readsOne_190 : decode cX7_readsOne 190 = .ok (.ldc 242, 2) := by decide +kernel
theorem dX7_readsOne_192 : decode cX7_readsOne 192 = .ok (.invokevirtual 215, 3) := by decide +kernel
theorem dX7_readsOne_195 : decode cX7_readsOne 195 = .ok (.goto 61, 3) := by decide +kernel
theorem dX7_readsOne_198 : decode cX7_readsOne 198 = .ok (.aload_n 0, 1) := by decide +kernel
theorem dX7_readsOne_199 : decode cX7_readsOne 199 = .ok (.bipush 114, 2) := by decide +kernel
theorem dX7_readsOne_201 : decode cX7_readsOne 201 = .ok (.ldc 244, 2) := by decide +kernel
theorem dX7_readsOne_203 : decode cX7_readsOne 203 = .ok (.invokevirtual 215, 3) := by decide +kernel
theorem dX7_readsOne_206 : decode cX7_readsOne 206 = .ok (.goto 50, 3) := by decide +kernel
theorem dX7_readsOne_209 : decode cX7_readsOne 209 = .ok (.aload_n 0, 1) := by decide +kernel
theorem dX7_readsOne_210 : decode cX7_readsOne 210 = .ok (.bipush 109, 2) := by decide +kernel
theorem dX7_readsOne_212 : decode cX7_readsOne 212 = .ok (.ldc 246, 2) := by decide +kernel
theorem dX7_readsOne_214 : decode cX7_readsOne 214 = .ok (.ldc 223, 2) := by decide +kernel
theorem dX7_readsOne_216 : decode cX7_readsOne 216 = .ok (.invokevirtual 232, 3) := by decide +kernel
theorem dX7_readsOne_219 : decode cX7_readsOne 219 = .ok (.goto 37, 3) := by decide +kernel
theorem dX7_readsOne_222 : decode cX7_readsOne 222 = .ok (.aload_n 0, 1) := by decide +kernel
theorem dX7_readsOne_223 : decode cX7_readsOne 223 = .ok (.ldc 248, 2) := by decide +kernel
theorem dX7_readsOne_225 : decode cX7_readsOne 225 = .ok (.invokevirtual 208, 3) := by decide +kernel
theorem dX7_readsOne_228 : decode cX7_readsOne 228 = .ok (.goto 28, 3) := by decide +kernel
theorem dX7_readsOne_231 : decode cX7_readsOne 231 = .ok (.aload_n 0, 1) := by decide +kernel
theorem dX7_readsOne_232 : decode cX7_readsOne 232 = .ok (.bipush 98, 2) := by decide +kernel
theorem dX7_readsOne_234 : decode cX7_readsOne 234 = .ok (.ldc 250, 2) := by decide +kernel
theorem dX7_readsOne_236 : decode cX7_readsOne 236 = .ok (.invokevirtual 215, 3) := by decide +kernel
theorem dX7_readsOne_239 : decode cX7_readsOne 239 = .ok (.goto 17, 3) := by decide +kernel
theorem dX7_readsOne_242 : decode cX7_readsOne 242 = .ok (.aload_n 0, 1) := by decide +kernel
theorem dX7_readsOne_243 : decode cX7_readsOne 243 = .ok (.ldc 252, 2) := by decide +kernel
theorem dX7_readsOne_245 : decode cX7_readsOne 245 = .ok (.invokevirtual 208, 3) := by decide +kernel
theorem dX7_readsOne_248 : decode cX7_readsOne 248 = .ok (.goto 8, 3) := by decide +kernel
theorem dX7_readsOne_251 : decode cX7_readsOne 251 = .ok (.aload_n 0, 1) := by decide +kernel
theorem dX7_readsOne_252 : decode cX7_readsOne 252 = .ok (.iconst 1, 1) := by decide +kernel
theorem dX7_readsOne_253 : decode cX7_readsOne 253 = .ok (.putfield 194, 3) := by decide +kernel
theorem dX7_readsOne_256 : decode cX7_readsOne 256 = .ok (.aload_n 0, 1) := by decide +kernel
theorem dX7_readsOne_257 : decode cX7_readsOne 257 = .ok (.dup, 1) := by decide +kernel
theorem dX7_readsOne_258 : decode cX7_readsOne 258 = .ok (.getfield 205, 3) := by decide +kernel
theorem dX7_readsOne_261 : decode cX7_readsOne 261 = .ok (.iconst 1, 1) := by decide +kernel
theorem dX7_readsOne_262 : decode cX7_readsOne 262 = .ok (.iadd, 1) := by decide +kernel
theorem dX7_readsOne_263 : decode cX7_readsOne 263 = .ok (.putfield 205, 3) := by decide +kernel
theorem dX7_readsOne_266 : decode cX7_readsOne 266 = .ok (.return_, 1) := by decide +kernel
theorem dX7_does_0 : decode cX7_does 0 = .ok (.aload_n 0, 1) := by decide +kernel
theorem dX7_does_1 : decode cX7_does 1 = .ok (.getfield 28, 3) := by decide +kernel
theorem dX7_does_4 : decode cX7_does 4 = .ok (.iconst 5, 1) := by decide +kernel
theorem dX7_does_5 : decode cX7_does 5 = .ok (.iload_n 1, 1) := by decide +kernel
theorem dX7_does_6 : decode cX7_does 6 = .ok (.imul, 1) := by decide +kernel
theorem dX7_does_7 : decode cX7_does 7 = .ok (.iconst 1, 1) := by decide +kernel
theorem dX7_does_8 : decode cX7_does 8 = .ok (.iadd, 1) := by decide +kernel
theorem dX7_does_9 : decode cX7_does 9 = .ok (.iaload, 1) := by decide +kernel
theorem dX7_does_10 : decode cX7_does 10 = .ok (.istore_n 2, 1) := by decide +kernel
theorem dX7_does_11 : decode cX7_does 11 = .ok (.aload_n 0, 1) := by decide +kernel
theorem dX7_does_12 : decode cX7_does 12 = .ok (.getfield 28, 3) := by decide +kernel
theorem dX7_does_15 : decode cX7_does 15 = .ok (.iconst 5, 1) := by decide +kernel
theorem dX7_does_16 : decode cX7_does 16 = .ok (.iload_n 1, 1) := by decide +kernel
theorem dX7_does_17 : decode cX7_does 17 = .ok (.imul, 1) := by decide +kernel
theorem dX7_does_18 : decode cX7_does 18 = .ok (.iconst 2, 1) := by decide +kernel
theorem dX7_does_19 : decode cX7_does 19 = .ok (.iadd, 1) := by decide +kernel
theorem dX7_does_20 : decode cX7_does 20 = .ok (.iaload, 1) := by decide +kernel
theorem dX7_does_21 : decode cX7_does 21 = .ok (.istore_n 3, 1) := by decide +kernel
theorem dX7_does_22 : decode cX7_does 22 = .ok (.aload_n 0, 1) := by decide +kernel
theorem dX7_does_23 : decode cX7_does 23 = .ok (.getfield 28, 3) := by decide +kernel
theorem dX7_does_26 : decode cX7_does 26 = .ok (.iconst 5, 1) := by decide +kernel
theorem dX7_does_27 : decode cX7_does 27 = .ok (.iload_n 1, 1) := by decide +kernel
theorem dX7_does_28 : decode cX7_does 28 = .ok (.imul, 1) := by decide +kernel
theorem dX7_does_29 : decode cX7_does 29 = .ok (.iaload, 1) := by decide +kernel
theorem dX7_does_30 : decode cX7_does 30 = .ok (.tableswitch 188 97 119 #[177, 182, 188, 188, 188, 188, 188, 188, 188, 188, 188, 106, 170, 188, 146, 188, 158, 164, 140, 133, 188, 188, 152], 106) := by decide +kernel
theorem dX7_does_136 : decode cX7_does 136 = .ok (.aload_n 0, 1) := by decide +kernel
theorem dX7_does_137 : decode cX7_does 137 = .ok (.aload_n 0, 1) := by decide +kernel
theorem dX7_does_138 : decode cX7_does 138 = .ok (.getfield 28, 3) := by decide +kernel
theorem dX7_does_141 : decode cX7_does 141 = .ok (.iconst 5, 1) := by decide +kernel
theorem dX7_does_142 : decode cX7_does 142 = .ok (.iload_n 1, 1) := by decide +kernel
theorem dX7_does_143 : decode cX7_does 143 = .ok (.imul, 1) := by decide +kernel
theorem dX7_does_144 : decode cX7_does 144 = .ok (.iconst 4, 1) := by decide +kernel
theorem dX7_does_145 : decode cX7_does 145 = .ok (.iadd, 1) := by decide +kernel
theorem dX7_does_146 : decode cX7_does 146 = .ok (.iaload, 1) := by decide +kernel
theorem dX7_does_147 : decode cX7_does 147 = .ok (.iload_n 2, 1) := by decide +kernel
theorem dX7_does_148 : decode cX7_does 148 = .ok (.iload_n 3, 1) := by decide +kernel
theorem dX7_does_149 : decode cX7_does 149 = .ok (.aload_n 0, 1) := by decide +kernel
theorem dX7_does_150 : decode cX7_does 150 = .ok (.getfield 28, 3) := by decide +kernel
theorem dX7_does_153 : decode cX7_does 153 = .ok (.iconst 5, 1) := by decide +kernel
theorem dX7_does_154 : decode cX7_does 154 = .ok (.iload_n 1, 1) := by decide +kernel
theorem dX7_does_155 : decode cX7_does 155 = .ok (.imul, 1) := by decide +kernel
theorem dX7_does_156 : decode cX7_does 156 = .ok (.iconst 3, 1) := by decide +kernel
theorem dX7_does_157 : decode cX7_does 157 = .ok (.iadd, 1) := by decide +kernel
theorem dX7_does_158 : decode cX7_does 158 = .ok (.iaload, 1) := by decide +kernel
theorem dX7_does_159 : decode cX7_does 159 = .ok (.invokevirtual 120, 3) := by decide +kernel
theorem dX7_does_162 : decode cX7_does 162 = .ok (.ireturn, 1) := by decide +kernel
theorem dX7_does_163 : decode cX7_does 163 = .ok (.aload_n 0, 1) := by decide +kernel
theorem dX7_does_164 : decode cX7_does 164 = .ok (.iload_n 2, 1) := by decide +kernel
theorem dX7_does_165 : decode cX7_does 165 = .ok (.iload_n 3, 1) := by decide +kernel
theorem dX7_does_166 : decode cX7_does 166 = .ok (.invokevirtual 142, 3) := by decide +kernel
theorem dX7_does_169 : decode cX7_does 169 = .ok (.ireturn, 1) := by decide +kernel
theorem dX7_does_170 : decode cX7_does 170 = .ok (.aload_n 0, 1) := by decide +kernel
theorem dX7_does_171 : decode cX7_does 171 = .ok (.iload_n 2, 1) := by decide +kernel
theorem dX7_does_172 : decode cX7_does 172 = .ok (.invokevirtual 127, 3) := by decide +kernel
theorem dX7_does_175 : decode cX7_does 175 = .ok (.ireturn, 1) := by decide +kernel
theorem dX7_does_176 : decode cX7_does 176 = .ok (.aload_n 0, 1) := by decide +kernel
theorem dX7_does_177 : decode cX7_does 177 = .ok (.iload_n 2, 1) := by decide +kernel
theorem dX7_does_178 : decode cX7_does 178 = .ok (.invokevirtual 130, 3) := by decide +kernel
theorem dX7_does_181 : decode cX7_does 181 = .ok (.ireturn, 1) := by decide +kernel
theorem dX7_does_182 : decode cX7_does 182 = .ok (.aload_n 0, 1) := by decide +kernel
theorem dX7_does_183 : decode cX7_does 183 = .ok (.iload_n 2, 1) := by decide +kernel
theorem dX7_does_184 : decode cX7_does 184 = .ok (.invokevirtual 133, 3) := by decide +kernel
theorem dX7_does_187 : decode cX7_does 187 = .ok (.ireturn, 1) := by decide +kernel
theorem dX7_does_188 : decode cX7_does 188 = .ok (.aload_n 0, 1) := by decide +kernel
theorem dX7_does_189 : decode cX7_does 189 = .ok (.iload_n 2, 1) := by decide +kernel
theorem dX7_does_190 : decode cX7_does 190 = .ok (.invokevirtual 160, 3) := by decide +kernel
theorem dX7_does_193 : decode cX7_does 193 = .ok (.ireturn, 1) := by decide +kernel
theorem dX7_does_194 : decode cX7_does 194 = .ok (.aload_n 0, 1) := by decide +kernel
theorem dX7_does_195 : decode cX7_does 195 = .ok (.iload_n 2, 1) := by decide +kernel
theorem dX7_does_196 : decode cX7_does 196 = .ok (.invokevirtual 169, 3) := by decide +kernel
theorem dX7_does_199 : decode cX7_does 199 = .ok (.ireturn, 1) := by decide +kernel
theorem dX7_does_200 : decode cX7_does 200 = .ok (.aload_n 0, 1) := by decide +kernel
theorem dX7_does_201 : decode cX7_does 201 = .ok (.iload_n 2, 1) := by decide +kernel
theorem dX7_does_202 : decode cX7_does 202 = .ok (.iload_n 3, 1) := by decide +kernel
theorem dX7_does_203 : decode cX7_does 203 = .ok (.invokevirtual 136, 3) := by decide +kernel
theorem dX7_does_206 : decode cX7_does 206 = .ok (.ireturn, 1) := by decide +kernel
theorem dX7_does_207 : decode cX7_does 207 = .ok (.aload_n 0, 1) := by decide +kernel
theorem dX7_does_208 : decode cX7_does 208 = .ok (.invokevirtual 163, 3) := by decide +kernel
theorem dX7_does_211 : decode cX7_does 211 = .ok (.ireturn, 1) := by decide +kernel
theorem dX7_does_212 : decode cX7_does 212 = .ok (.aload_n 0, 1) := by decide +kernel
theorem dX7_does_213 : decode cX7_does 213 = .ok (.iload_n 2, 1) := by decide +kernel
theorem dX7_does_214 : decode cX7_does 214 = .ok (.invokevirtual 166, 3) := by decide +kernel
theorem dX7_does_217 : decode cX7_does 217 = .ok (.ireturn, 1) := by decide +kernel
theorem dX7_does_218 : decode cX7_does 218 = .ok (.aload_n 0, 1) := by decide +kernel
theorem dX7_does_219 : decode cX7_does 219 = .ok (.iconst 1, 1) := by decide +kernel
theorem dX7_does_220 : decode cX7_does 220 = .ok (.invokevirtual 154, 3) := by decide +kernel
theorem dX7_does_223 : decode cX7_does 223 = .ok (.ireturn, 1) := by decide +kernel
theorem dX7_execute_0 : decode cX7_execute 0 = .ok (.aload_n 0, 1) := by decide +kernel
theorem dX7_execute_1 : decode cX7_execute 1 = .ok (.invokevirtual 117, 3) := by decide +kernel
theorem dX7_execute_4 : decode cX7_execute 4 = .ok (.aload_n 0, 1) := by decide +kernel
theorem dX7_execute_5 : decode cX7_execute 5 = .ok (.iconst 0, 1) := by decide +kernel
theorem dX7_execute_6 : decode cX7_execute 6 = .ok (.putfield 184, 3) := by decide +kernel
theorem dX7_execute_9 : decode cX7_execute 9 = .ok (.aload_n 0, 1) := by decide +kernel
theorem dX7_execute_10 : decode cX7_execute 10 = .ok (.aload_n 0, 1) := by decide +kernel
theorem dX7_execute_11 : decode cX7_execute 11 = .ok (.getfield 181, 3) := by decide +kernel
theorem dX7_execute_14 : decode cX7_execute 14 = .ok (.putfield 187, 3) := by decide +kernel
theorem dX7_execute_17 : decode cX7_execute 17 = .ok (.aload_n 0, 1) := by decide +kernel
theorem dX7_execute_18 : decode cX7_execute 18 = .ok (.iconst 0, 1) := by decide +kernel
theorem dX7_execute_19 : decode cX7_execute 19 = .ok (.putfield 181, 3) := by decide +kernel
theorem dX7_execute_22 : decode cX7_execute 22 = .ok (.aload_n 0, 1) := by decide +kernel
theorem dX7_execute_23 : decode cX7_execute 23 = .ok (.iconst 0, 1) := by decide +kernel
theorem dX7_execute_24 : decode cX7_execute 24 = .ok (.putfield 205, 3) := by decide +kernel
theorem dX7_execute_27 : decode cX7_execute 27 = .ok (.aload_n 0, 1) := by decide +kernel
theorem dX7_execute_28 : decode cX7_execute 28 = .ok (.iconst 0, 1) := by decide +kernel
theorem dX7_execute_29 : decode cX7_execute 29 = .ok (.putfield 194, 3) := by decide +kernel
theorem dX7_execute_32 : decode cX7_execute 32 = .ok (.aload_n 0, 1) := by decide +kernel
theorem dX7_execute_33 : decode cX7_execute 33 = .ok (.invokevirtual 254, 3) := by decide +kernel
theorem dX7_execute_36 : decode cX7_execute 36 = .ok (.aload_n 0, 1) := by decide +kernel
theorem dX7_execute_37 : decode cX7_execute 37 = .ok (.getfield 194, 3) := by decide +kernel
theorem dX7_execute_40 : decode cX7_execute 40 = .ok (.ifCond .ne 30, 3) := by decide +kernel
theorem dX7_execute_43 : decode cX7_execute 43 = .ok (.aload_n 0, 1) := by decide +kernel
theorem dX7_execute_44 : decode cX7_execute 44 = .ok (.iconst 0, 1) := by decide +kernel
theorem dX7_execute_45 : decode cX7_execute 45 = .ok (.invokevirtual 198, 3) := by decide +kernel
theorem dX7_execute_48 : decode cX7_execute 48 = .ok (.bipush 59, 2) := by decide +kernel
theorem dX7_execute_50 : decode cX7_execute 50 = .ok (.if_icmp .ne 20, 3) := by decide +kernel
theorem dX7_execute_53 : decode cX7_execute 53 = .ok (.aload_n 0, 1) := by decide +kernel
theorem dX7_execute_54 : decode cX7_execute 54 = .ok (.dup, 1) := by decide +kernel
theorem dX7_execute_55 : decode cX7_execute 55 = .ok (.getfield 184, 3) := by decide +kernel
theorem dX7_execute_58 : decode cX7_execute 58 = .ok (.iconst 1, 1) := by decide +kernel
theorem dX7_execute_59 : decode cX7_execute 59 = .ok (.iadd, 1) := by decide +kernel
theorem dX7_execute_60 : decode cX7_execute 60 = .ok (.putfield 184, 3) := by decide +kernel
theorem dX7_execute_63 : decode cX7_execute 63 = .ok (.aload_n 0, 1) := by decide +kernel
theorem dX7_execute_64 : decode cX7_execute 64 = .ok (.invokevirtual 254, 3) := by decide +kernel
theorem dX7_execute_67 : decode cX7_execute 67 = .ok (.goto (-31), 3) := by decide +kernel
theorem dX7_execute_70 : decode cX7_execute 70 = .ok (.aload_n 0, 1) := by decide +kernel
theorem dX7_execute_71 : decode cX7_execute 71 = .ok (.getfield 194, 3) := by decide +kernel
theorem dX7_execute_74 : decode cX7_execute 74 = .ok (.ifCond .ne 14, 3) := by decide +kernel
theorem dX7_execute_77 : decode cX7_execute 77 = .ok (.aload_n 0, 1) := by decide +kernel
theorem dX7_execute_78 : decode cX7_execute 78 = .ok (.getfield 184, 3) := by decide +kernel
theorem dX7_execute_81 : decode cX7_execute 81 = .ok (.aload_n 0, 1) := by decide +kernel
theorem dX7_execute_82 : decode cX7_execute 82 = .ok (.getfield 187, 3) := by decide +kernel
theorem dX7_execute_85 : decode cX7_execute 85 = .ok (.if_icmp .ge 17, 3) := by decide +kernel
theorem dX7_execute_88 : decode cX7_execute 88 = .ok (.aload_n 0, 1) := by decide +kernel
theorem dX7_execute_89 : decode cX7_execute 89 = .ok (.aload_n 0, 1) := by decide +kernel
theorem dX7_execute_90 : decode cX7_execute 90 = .ok (.getfield 184, 3) := by decide +kernel
theorem dX7_execute_93 : decode cX7_execute 93 = .ok (.putfield 40, 3) := by decide +kernel
theorem dX7_execute_96 : decode cX7_execute 96 = .ok (.aload_n 0, 1) := by decide +kernel
theorem dX7_execute_97 : decode cX7_execute 97 = .ok (.iconst 1, 1) := by decide +kernel
theorem dX7_execute_98 : decode cX7_execute 98 = .ok (.invokevirtual 60, 3) := by decide +kernel
theorem dX7_execute_101 : decode cX7_execute 101 = .ok (.ireturn, 1) := by decide +kernel
theorem dX7_execute_102 : decode cX7_execute 102 = .ok (.iconst 0, 1) := by decide +kernel
theorem dX7_execute_103 : decode cX7_execute 103 = .ok (.istore_n 1, 1) := by decide +kernel
theorem dX7_execute_104 : decode cX7_execute 104 = .ok (.iload_n 1, 1) := by decide +kernel
theorem dX7_execute_105 : decode cX7_execute 105 = .ok (.aload_n 0, 1) := by decide +kernel
theorem dX7_execute_106 : decode cX7_execute 106 = .ok (.getfield 205, 3) := by decide +kernel
theorem dX7_execute_109 : decode cX7_execute 109 = .ok (.if_icmp .ge 58, 3) := by decide +kernel
theorem dX7_execute_112 : decode cX7_execute 112 = .ok (.aload_n 0, 1) := by decide +kernel
theorem dX7_execute_113 : decode cX7_execute 113 = .ok (.iload_n 1, 1) := by decide +kernel
theorem dX7_execute_114 : decode cX7_execute 114 = .ok (.invokevirtual 257, 3) := by decide +kernel
theorem dX7_execute_117 : decode cX7_execute 117 = .ok (.ifCond .ne 6, 3) := by decide +kernel
theorem dX7_execute_120 : decode cX7_execute 120 = .ok (.goto 41, 3) := by decide +kernel
theorem dX7_execute_123 : decode cX7_execute 123 = .ok (.iconst 0, 1) := by decide +kernel
theorem dX7_execute_124 : decode cX7_execute 124 = .ok (.istore_n 2, 1) := by decide +kernel
theorem dX7_execute_125 : decode cX7_execute 125 = .ok (.iload_n 2, 1) := by decide +kernel
theorem dX7_execute_126 : decode cX7_execute 126 = .ok (.sipush 148, 3) := by decide +kernel
theorem dX7_execute_129 : decode cX7_execute 129 = .ok (.if_icmp .ge 21, 3) := by decide +kernel
theorem dX7_execute_132 : decode cX7_execute 132 = .ok (.aload_n 0, 1) := by decide +kernel
theorem dX7_execute_133 : decode cX7_execute 133 = .ok (.getfield 7, 3) := by decide +kernel
theorem dX7_execute_136 : decode cX7_execute 136 = .ok (.iload_n 2, 1) := by decide +kernel
theorem dX7_execute_137 : decode cX7_execute 137 = .ok (.aload_n 0, 1) := by decide +kernel
theorem dX7_execute_138 : decode cX7_execute 138 = .ok (.getfield 13, 3) := by decide +kernel
theorem dX7_execute_141 : decode cX7_execute 141 = .ok (.iload_n 2, 1) := by decide +kernel
theorem dX7_execute_142 : decode cX7_execute 142 = .ok (.iaload, 1) := by decide +kernel
theorem dX7_execute_143 : decode cX7_execute 143 = .ok (.iastore, 1) := by decide +kernel
theorem dX7_execute_144 : decode cX7_execute 144 = .ok (.iinc 2 1, 3) := by decide +kernel
theorem dX7_execute_147 : decode cX7_execute 147 = .ok (.goto (-22), 3) := by decide +kernel
theorem dX7_execute_150 : decode cX7_execute 150 = .ok (.aload_n 0, 1) := by decide +kernel
theorem dX7_execute_151 : decode cX7_execute 151 = .ok (.iload_n 1, 1) := by decide +kernel
theorem dX7_execute_152 : decode cX7_execute 152 = .ok (.putfield 44, 3) := by decide +kernel
theorem dX7_execute_155 : decode cX7_execute 155 = .ok (.aload_n 0, 1) := by decide +kernel
theorem dX7_execute_156 : decode cX7_execute 156 = .ok (.iconst 2, 1) := by decide +kernel
theorem dX7_execute_157 : decode cX7_execute 157 = .ok (.invokevirtual 60, 3) := by decide +kernel
theorem dX7_execute_160 : decode cX7_execute 160 = .ok (.ireturn, 1) := by decide +kernel
theorem dX7_execute_161 : decode cX7_execute 161 = .ok (.iinc 1 1, 3) := by decide +kernel
theorem dX7_execute_164 : decode cX7_execute 164 = .ok (.goto (-60), 3) := by decide +kernel
theorem dX7_execute_167 : decode cX7_execute 167 = .ok (.aload_n 0, 1) := by decide +kernel
theorem dX7_execute_168 : decode cX7_execute 168 = .ok (.aload_n 0, 1) := by decide +kernel
theorem dX7_execute_169 : decode cX7_execute 169 = .ok (.getfield 205, 3) := by decide +kernel
theorem dX7_execute_172 : decode cX7_execute 172 = .ok (.invokevirtual 56, 3) := by decide +kernel
theorem dX7_execute_175 : decode cX7_execute 175 = .ok (.ireturn, 1) := by decide +kernel
theorem dX7_errorPosition_0 : decode cX7_errorPosition 0 = .ok (.aload_n 0, 1) := by decide +kernel
theorem dX7_errorPosition_1 : decode cX7_errorPosition 1 = .ok (.iconst 0, 1) := by decide +kernel
theorem dX7_errorPosition_2 : decode cX7_errorPosition 2 = .ok (.putfield 47, 3) := by decide +kernel
theorem dX7_errorPosition_5 : decode cX7_errorPosition 5 = .ok (.aload_n 0, 1) := by decide +kernel
theorem dX7_errorPosition_6 : decode cX7_errorPosition 6 = .ok (.getfield 40, 3) := by decide +kernel
theorem dX7_errorPosition_9 : decode cX7_errorPosition 9 = .ok (.iconst (-1), 1) := by decide +kernel
theorem dX7_errorPosition_10 : decode cX7_errorPosition 10 = .ok (.if_icmp .ne 11, 3) := by decide +kernel
theorem dX7_errorPosition_13 : decode cX7_errorPosition 13 = .ok (.aload_n 0, 1) := by decide +kernel
theorem dX7_errorPosition_14 : decode cX7_errorPosition 14 = .ok (.iconst 1, 1) := by decide +kernel
theorem dX7_errorPosition_15 : decode cX7_errorPosition 15 = .ok (.invokevirtual 60, 3) := by decide +kernel
theorem dX7_errorPosition_18 : decode cX7_errorPosition 18 = .ok (.goto 7, 3) := by decide +kernel
theorem dX7_errorPosition_21 : decode cX7_errorPosition 21 = .ok (.aload_n 0, 1) := by decide +kernel
theorem dX7_errorPosition_22 : decode cX7_errorPosition 22 = .ok (.getfield 40, 3) := by decide +kernel
theorem dX7_errorPosition_25 : decode cX7_errorPosition 25 = .ok (.ireturn, 1) := by decide +kernel
theorem dX7_failedCommand_0 : decode cX7_failedCommand 0 = .ok (.aload_n 0, 1) := by decide +kernel
theorem dX7_failedCommand_1 : decode cX7_failedCommand 1 = .ok (.iconst 0, 1) := by decide +kernel
theorem dX7_failedCommand_2 : decode cX7_failedCommand 2 = .ok (.putfield 47, 3) := by decide +kernel
theorem dX7_failedCommand_5 : decode cX7_failedCommand 5 = .ok (.aload_n 0, 1) := by decide +kernel
theorem dX7_failedCommand_6 : decode cX7_failedCommand 6 = .ok (.getfield 44, 3) := by decide +kernel
theorem dX7_failedCommand_9 : decode cX7_failedCommand 9 = .ok (.iconst (-1), 1) := by decide +kernel
theorem dX7_failedCommand_10 : decode cX7_failedCommand 10 = .ok (.if_icmp .ne 11, 3) := by decide +kernel
theorem dX7_failedCommand_13 : decode cX7_failedCommand 13 = .ok (.aload_n 0, 1) := by decide +kernel
theorem dX7_failedCommand_14 : decode cX7_failedCommand 14 = .ok (.iconst 1, 1) := by decide +kernel
theorem dX7_failedCommand_15 : decode cX7_failedCommand 15 = .ok (.invokevirtual 60, 3) := by decide +kernel
theorem dX7_failedCommand_18 : decode cX7_failedCommand 18 = .ok (.goto 7, 3) := by decide +kernel
theorem dX7_failedCommand_21 : decode cX7_failedCommand 21 = .ok (.aload_n 0, 1) := by decide +kernel
theorem dX7_failedCommand_22 : decode cX7_failedCommand 22 = .ok (.getfield 44, 3) := by decide +kernel
theorem dX7_failedCommand_25 : decode cX7_failedCommand 25 = .ok (.ireturn, 1) := by decide +kernel
theorem dX7_undo_0 : decode cX7_undo 0 = .ok (.aload_n 0, 1) := by decide +kernel
theorem dX7_undo_1 : decode cX7_undo 1 = .ok (.iconst 0, 1) := by decide +kernel
theorem dX7_undo_2 : decode cX7_undo 2 = .ok (.putfield 47, 3) := by decide +kernel
theorem dX7_undo_5 : decode cX7_undo 5 = .ok (.aload_n 0, 1) := by decide +kernel
theorem dX7_undo_6 : decode cX7_undo 6 = .ok (.getfield 50, 3) := by decide +kernel
theorem dX7_undo_9 : decode cX7_undo 9 = .ok (.ifCond .ne 9, 3) := by decide +kernel
theorem dX7_undo_12 : decode cX7_undo 12 = .ok (.aload_n 0, 1) := by decide +kernel
theorem dX7_undo_13 : decode cX7_undo 13 = .ok (.iconst 1, 1) := by decide +kernel
theorem dX7_undo_14 : decode cX7_undo 14 = .ok (.invokevirtual 60, 3) := by decide +kernel
theorem dX7_undo_17 : decode cX7_undo 17 = .ok (.ireturn, 1) := by decide +kernel
theorem dX7_undo_18 : decode cX7_undo 18 = .ok (.aload_n 0, 1) := by decide +kernel
theorem dX7_undo_19 : decode cX7_undo 19 = .ok (.dup, 1) := by decide +kernel
theorem dX7_undo_20 : decode cX7_undo 20 = .ok (.getfield 50, 3) := by decide +kernel
theorem dX7_undo_23 : decode cX7_undo 23 = .ok (.iconst 1, 1) := by decide +kernel
theorem dX7_undo_24 : decode cX7_undo 24 = .ok (.isub, 1) := by decide +kernel
theorem dX7_undo_25 : decode cX7_undo 25 = .ok (.putfield 50, 3) := by decide +kernel
theorem dX7_undo_28 : decode cX7_undo 28 = .ok (.iconst 0, 1) := by decide +kernel
theorem dX7_undo_29 : decode cX7_undo 29 = .ok (.istore_n 1, 1) := by decide +kernel
theorem dX7_undo_30 : decode cX7_undo 30 = .ok (.iload_n 1, 1) := by decide +kernel
theorem dX7_undo_31 : decode cX7_undo 31 = .ok (.sipush 148, 3) := by decide +kernel
theorem dX7_undo_34 : decode cX7_undo 34 = .ok (.if_icmp .ge 30, 3) := by decide +kernel
theorem dX7_undo_37 : decode cX7_undo 37 = .ok (.aload_n 0, 1) := by decide +kernel
theorem dX7_undo_38 : decode cX7_undo 38 = .ok (.getfield 7, 3) := by decide +kernel
theorem dX7_undo_41 : decode cX7_undo 41 = .ok (.iload_n 1, 1) := by decide +kernel
theorem dX7_undo_42 : decode cX7_undo 42 = .ok (.aload_n 0, 1) := by decide +kernel
theorem dX7_undo_43 : decode cX7_undo 43 = .ok (.getfield 19, 3) := by decide +kernel
theorem dX7_undo_46 : decode cX7_undo 46 = .ok (.sipush 148, 3) := by decide +kernel
theorem dX7_undo_49 : decode cX7_undo 49 = .ok (.aload_n 0, 1) := by decide +kernel
theorem dX7_undo_50 : decode cX7_undo 50 = .ok (.getfield 50, 3) := by decide +kernel
theorem dX7_undo_53 : decode cX7_undo 53 = .ok (.imul, 1) := by decide +kernel
theorem dX7_undo_54 : decode cX7_undo 54 = .ok (.iload_n 1, 1) := by decide +kernel
theorem dX7_undo_55 : decode cX7_undo 55 = .ok (.iadd, 1) := by decide +kernel
theorem dX7_undo_56 : decode cX7_undo 56 = .ok (.iaload, 1) := by decide +kernel
theorem dX7_undo_57 : decode cX7_undo 57 = .ok (.iastore, 1) := by decide +kernel
theorem dX7_undo_58 : decode cX7_undo 58 = .ok (.iinc 1 1, 3) := by decide +kernel
theorem dX7_undo_61 : decode cX7_undo 61 = .ok (.goto (-31), 3) := by decide +kernel
theorem dX7_undo_64 : decode cX7_undo 64 = .ok (.aload_n 0, 1) := by decide +kernel
theorem dX7_undo_65 : decode cX7_undo 65 = .ok (.getfield 50, 3) := by decide +kernel
theorem dX7_undo_68 : decode cX7_undo 68 = .ok (.ireturn, 1) := by decide +kernel
theorem dX7_undoCount_0 : decode cX7_undoCount 0 = .ok (.aload_n 0, 1) := by decide +kernel
theorem dX7_undoCount_1 : decode cX7_undoCount 1 = .ok (.iconst 0, 1) := by decide +kernel
theorem dX7_undoCount_2 : decode cX7_undoCount 2 = .ok (.putfield 47, 3) := by decide +kernel
theorem dX7_undoCount_5 : decode cX7_undoCount 5 = .ok (.aload_n 0, 1) := by decide +kernel
theorem dX7_undoCount_6 : decode cX7_undoCount 6 = .ok (.getfield 50, 3) := by decide +kernel
theorem dX7_undoCount_9 : decode cX7_undoCount 9 = .ok (.ireturn, 1) := by decide +kernel
theorem dX7_save_0 : decode cX7_save 0 = .ok (.aload_n 0, 1) := by decide +kernel
theorem dX7_save_1 : decode cX7_save 1 = .ok (.iconst 0, 1) := by decide +kernel
theorem dX7_save_2 : decode cX7_save 2 = .ok (.putfield 47, 3) := by decide +kernel
theorem dX7_save_5 : decode cX7_save 5 = .ok (.iconst 0, 1) := by decide +kernel
theorem dX7_save_6 : decode cX7_save 6 = .ok (.istore_n 1, 1) := by decide +kernel
theorem dX7_save_7 : decode cX7_save 7 = .ok (.iload_n 1, 1) := by decide +kernel
theorem dX7_save_8 : decode cX7_save 8 = .ok (.sipush 148, 3) := by decide +kernel
theorem dX7_save_11 : decode cX7_save 11 = .ok (.if_icmp .ge 21, 3) := by decide +kernel
theorem dX7_save_14 : decode cX7_save 14 = .ok (.aload_n 0, 1) := by decide +kernel
theorem dX7_save_15 : decode cX7_save 15 = .ok (.getfield 16, 3) := by decide +kernel
theorem dX7_save_18 : decode cX7_save 18 = .ok (.iload_n 1, 1) := by decide +kernel
theorem dX7_save_19 : decode cX7_save 19 = .ok (.aload_n 0, 1) := by decide +kernel
theorem dX7_save_20 : decode cX7_save 20 = .ok (.getfield 7, 3) := by decide +kernel
theorem dX7_save_23 : decode cX7_save 23 = .ok (.iload_n 1, 1) := by decide +kernel
theorem dX7_save_24 : decode cX7_save 24 = .ok (.iaload, 1) := by decide +kernel
theorem dX7_save_25 : decode cX7_save 25 = .ok (.iastore, 1) := by decide +kernel
theorem dX7_save_26 : decode cX7_save 26 = .ok (.iinc 1 1, 3) := by decide +kernel
theorem dX7_save_29 : decode cX7_save 29 = .ok (.goto (-22), 3) := by decide +kernel
theorem dX7_save_32 : decode cX7_save 32 = .ok (.aload_n 0, 1) := by decide +kernel
theorem dX7_save_33 : decode cX7_save 33 = .ok (.iconst 1, 1) := by decide +kernel
theorem dX7_save_34 : decode cX7_save 34 = .ok (.putfield 260, 3) := by decide +kernel
theorem dX7_save_37 : decode cX7_save 37 = .ok (.aload_n 0, 1) := by decide +kernel
theorem dX7_save_38 : decode cX7_save 38 = .ok (.getfield 7, 3) := by decide +kernel
theorem dX7_save_41 : decode cX7_save 41 = .ok (.iconst 1, 1) := by decide +kernel
theorem dX7_save_42 : decode cX7_save 42 = .ok (.iaload, 1) := by decide +kernel
theorem dX7_save_43 : decode cX7_save 43 = .ok (.ireturn, 1) := by decide +kernel
theorem dX7_restore_0 : decode cX7_restore 0 = .ok (.aload_n 0, 1) := by decide +kernel
theorem dX7_restore_1 : decode cX7_restore 1 = .ok (.iconst 0, 1) := by decide +kernel
theorem dX7_restore_2 : decode cX7_restore 2 = .ok (.putfield 47, 3) := by decide +kernel
theorem dX7_restore_5 : decode cX7_restore 5 = .ok (.aload_n 0, 1) := by decide +kernel
theorem dX7_restore_6 : decode cX7_restore 6 = .ok (.getfield 260, 3) := by decide +kernel
theorem dX7_restore_9 : decode cX7_restore 9 = .ok (.ifCond .ne 9, 3) := by decide +kernel
theorem dX7_restore_12 : decode cX7_restore 12 = .ok (.aload_n 0, 1) := by decide +kernel
theorem dX7_restore_13 : decode cX7_restore 13 = .ok (.iconst 1, 1) := by decide +kernel
theorem dX7_restore_14 : decode cX7_restore 14 = .ok (.invokevirtual 60, 3) := by decide +kernel
theorem dX7_restore_17 : decode cX7_restore 17 = .ok (.ireturn, 1) := by decide +kernel
theorem dX7_restore_18 : decode cX7_restore 18 = .ok (.iconst 0, 1) := by decide +kernel
theorem dX7_restore_19 : decode cX7_restore 19 = .ok (.istore_n 1, 1) := by decide +kernel
theorem dX7_restore_20 : decode cX7_restore 20 = .ok (.iload_n 1, 1) := by decide +kernel
theorem dX7_restore_21 : decode cX7_restore 21 = .ok (.sipush 148, 3) := by decide +kernel
theorem dX7_restore_24 : decode cX7_restore 24 = .ok (.if_icmp .ge 21, 3) := by decide +kernel
theorem dX7_restore_27 : decode cX7_restore 27 = .ok (.aload_n 0, 1) := by decide +kernel
theorem dX7_restore_28 : decode cX7_restore 28 = .ok (.getfield 7, 3) := by decide +kernel
theorem dX7_restore_31 : decode cX7_restore 31 = .ok (.iload_n 1, 1) := by decide +kernel
theorem dX7_restore_32 : decode cX7_restore 32 = .ok (.aload_n 0, 1) := by decide +kernel
theorem dX7_restore_33 : decode cX7_restore 33 = .ok (.getfield 16, 3) := by decide +kernel
theorem dX7_restore_36 : decode cX7_restore 36 = .ok (.iload_n 1, 1) := by decide +kernel
theorem dX7_restore_37 : decode cX7_restore 37 = .ok (.iaload, 1) := by decide +kernel
theorem dX7_restore_38 : decode cX7_restore 38 = .ok (.iastore, 1) := by decide +kernel
theorem dX7_restore_39 : decode cX7_restore 39 = .ok (.iinc 1 1, 3) := by decide +kernel
theorem dX7_restore_42 : decode cX7_restore 42 = .ok (.goto (-22), 3) := by decide +kernel
theorem dX7_restore_45 : decode cX7_restore 45 = .ok (.aload_n 0, 1) := by decide +kernel
theorem dX7_restore_46 : decode cX7_restore 46 = .ok (.iconst 0, 1) := by decide +kernel
theorem dX7_restore_47 : decode cX7_restore 47 = .ok (.putfield 50, 3) := by decide +kernel
theorem dX7_restore_50 : decode cX7_restore 50 = .ok (.aload_n 0, 1) := by decide +kernel
theorem dX7_restore_51 : decode cX7_restore 51 = .ok (.getfield 7, 3) := by decide +kernel
theorem dX7_restore_54 : decode cX7_restore 54 = .ok (.iconst 1, 1) := by decide +kernel
theorem dX7_restore_55 : decode cX7_restore 55 = .ok (.iaload, 1) := by decide +kernel
theorem dX7_restore_56 : decode cX7_restore 56 = .ok (.ireturn, 1) := by decide +kernel
