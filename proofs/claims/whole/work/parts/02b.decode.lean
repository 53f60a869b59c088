-- decode rows, printed by the check's program
theorem dX7_init_0 : decode cX7_init 0 = .ok (.aload_n 0, 1) := by decide +kernel
theorem dX7_init_1 : decode cX7_init 1 = .ok (.invokespecial 1, 3) := by decide +kernel
theorem dX7_init_4 : decode cX7_init 4 = .ok (.aload_n 0, 1) := by decide +kernel
theorem dX7_init_5 : decode cX7_init 5 = .ok (.sipush 280, 3) := by decide +kernel
theorem dX7_init_8 : decode cX7_init 8 = .ok (.newarray .int, 2) := by decide +kernel
theorem dX7_init_10 : decode cX7_init 10 = .ok (.putfield 7, 3) := by decide +kernel
theorem dX7_init_13 : decode cX7_init 13 = .ok (.aload_n 0, 1) := by decide +kernel
theorem dX7_init_14 : decode cX7_init 14 = .ok (.sipush 280, 3) := by decide +kernel
theorem dX7_init_17 : decode cX7_init 17 = .ok (.newarray .int, 2) := by decide +kernel
theorem dX7_init_19 : decode cX7_init 19 = .ok (.putfield 13, 3) := by decide +kernel
theorem dX7_init_22 : decode cX7_init 22 = .ok (.aload_n 0, 1) := by decide +kernel
theorem dX7_init_23 : decode cX7_init 23 = .ok (.sipush 1680, 3) := by decide +kernel
theorem dX7_init_26 : decode cX7_init 26 = .ok (.newarray .int, 2) := by decide +kernel
theorem dX7_init_28 : decode cX7_init 28 = .ok (.putfield 16, 3) := by decide +kernel
theorem dX7_init_31 : decode cX7_init 31 = .ok (.aload_n 0, 1) := by decide +kernel
theorem dX7_init_32 : decode cX7_init 32 = .ok (.sipush 560, 3) := by decide +kernel
theorem dX7_init_35 : decode cX7_init 35 = .ok (.newarray .int, 2) := by decide +kernel
theorem dX7_init_37 : decode cX7_init 37 = .ok (.putfield 19, 3) := by decide +kernel
theorem dX7_init_40 : decode cX7_init 40 = .ok (.aload_n 0, 1) := by decide +kernel
theorem dX7_init_41 : decode cX7_init 41 = .ok (.iconst 2, 1) := by decide +kernel
theorem dX7_init_42 : decode cX7_init 42 = .ok (.newarray .boolean, 2) := by decide +kernel
theorem dX7_init_44 : decode cX7_init 44 = .ok (.putfield 22, 3) := by decide +kernel
theorem dX7_init_47 : decode cX7_init 47 = .ok (.aload_n 0, 1) := by decide +kernel
theorem dX7_init_48 : decode cX7_init 48 = .ok (.bipush 80, 2) := by decide +kernel
theorem dX7_init_50 : decode cX7_init 50 = .ok (.newarray .int, 2) := by decide +kernel
theorem dX7_init_52 : decode cX7_init 52 = .ok (.putfield 26, 3) := by decide +kernel
theorem dX7_init_55 : decode cX7_init 55 = .ok (.aload_n 0, 1) := by decide +kernel
theorem dX7_init_56 : decode cX7_init 56 = .ok (.sipush 240, 3) := by decide +kernel
theorem dX7_init_59 : decode cX7_init 59 = .ok (.newarray .int, 2) := by decide +kernel
theorem dX7_init_61 : decode cX7_init 61 = .ok (.putfield 29, 3) := by decide +kernel
theorem dX7_init_64 : decode cX7_init 64 = .ok (.aload_n 0, 1) := by decide +kernel
theorem dX7_init_65 : decode cX7_init 65 = .ok (.getfield 7, 3) := by decide +kernel
theorem dX7_init_68 : decode cX7_init 68 = .ok (.iconst 0, 1) := by decide +kernel
theorem dX7_init_69 : decode cX7_init 69 = .ok (.bipush 20, 2) := by decide +kernel
theorem dX7_init_71 : decode cX7_init 71 = .ok (.iastore, 1) := by decide +kernel
theorem dX7_init_72 : decode cX7_init 72 = .ok (.aload_n 0, 1) := by decide +kernel
theorem dX7_init_73 : decode cX7_init 73 = .ok (.getfield 7, 3) := by decide +kernel
theorem dX7_init_76 : decode cX7_init 76 = .ok (.iconst 1, 1) := by decide +kernel
theorem dX7_init_77 : decode cX7_init 77 = .ok (.bipush 24, 2) := by decide +kernel
theorem dX7_init_79 : decode cX7_init 79 = .ok (.iastore, 1) := by decide +kernel
theorem dX7_init_80 : decode cX7_init 80 = .ok (.aload_n 0, 1) := by decide +kernel
theorem dX7_init_81 : decode cX7_init 81 = .ok (.getfield 7, 3) := by decide +kernel
theorem dX7_init_84 : decode cX7_init 84 = .ok (.iconst 2, 1) := by decide +kernel
theorem dX7_init_85 : decode cX7_init 85 = .ok (.iconst 1, 1) := by decide +kernel
theorem dX7_init_86 : decode cX7_init 86 = .ok (.iastore, 1) := by decide +kernel
theorem dX7_init_87 : decode cX7_init 87 = .ok (.aload_n 0, 1) := by decide +kernel
theorem dX7_init_88 : decode cX7_init 88 = .ok (.getfield 7, 3) := by decide +kernel
theorem dX7_init_91 : decode cX7_init 91 = .ok (.iconst 3, 1) := by decide +kernel
theorem dX7_init_92 : decode cX7_init 92 = .ok (.iconst 3, 1) := by decide +kernel
theorem dX7_init_93 : decode cX7_init 93 = .ok (.iastore, 1) := by decide +kernel
theorem dX7_init_94 : decode cX7_init 94 = .ok (.aload_n 0, 1) := by decide +kernel
theorem dX7_init_95 : decode cX7_init 95 = .ok (.getfield 7, 3) := by decide +kernel
theorem dX7_init_98 : decode cX7_init 98 = .ok (.iconst 4, 1) := by decide +kernel
theorem dX7_init_99 : decode cX7_init 99 = .ok (.iconst 1, 1) := by decide +kernel
theorem dX7_init_100 : decode cX7_init 100 = .ok (.iastore, 1) := by decide +kernel
theorem dX7_init_101 : decode cX7_init 101 = .ok (.aload_n 0, 1) := by decide +kernel
theorem dX7_init_102 : decode cX7_init 102 = .ok (.getfield 7, 3) := by decide +kernel
theorem dX7_init_105 : decode cX7_init 105 = .ok (.iconst 5, 1) := by decide +kernel
theorem dX7_init_106 : decode cX7_init 106 = .ok (.iconst 1, 1) := by decide +kernel
theorem dX7_init_107 : decode cX7_init 107 = .ok (.iastore, 1) := by decide +kernel
theorem dX7_init_108 : decode cX7_init 108 = .ok (.return_, 1) := by decide +kernel
theorem dX7_in_0 : decode cX7_in 0 = .ok (.iload_n 0, 1) := by decide +kernel
theorem dX7_in_1 : decode cX7_in 1 = .ok (.iload_n 1, 1) := by decide +kernel
theorem dX7_in_2 : decode cX7_in 2 = .ok (.if_icmp .lt 12, 3) := by decide +kernel
theorem dX7_in_5 : decode cX7_in 5 = .ok (.iload_n 0, 1) := by decide +kernel
theorem dX7_in_6 : decode cX7_in 6 = .ok (.iload_n 2, 1) := by decide +kernel
theorem dX7_in_7 : decode cX7_in 7 = .ok (.if_icmp .gt 7, 3) := by decide +kernel
theorem dX7_in_10 : decode cX7_in 10 = .ok (.iconst 1, 1) := by decide +kernel
theorem dX7_in_11 : decode cX7_in 11 = .ok (.goto 4, 3) := by decide +kernel
theorem dX7_in_14 : decode cX7_in 14 = .ok (.iconst 0, 1) := by decide +kernel
theorem dX7_in_15 : decode cX7_in 15 = .ok (.ireturn, 1) := by decide +kernel
theorem dX7_record_0 : decode cX7_record 0 = .ok (.aload_n 0, 1) := by decide +kernel
theorem dX7_record_1 : decode cX7_record 1 = .ok (.getfield 32, 3) := by decide +kernel
theorem dX7_record_4 : decode cX7_record 4 = .ok (.ifCond .eq 4, 3) := by decide +kernel
theorem dX7_record_7 : decode cX7_record 7 = .ok (.return_, 1) := by decide +kernel
theorem dX7_record_8 : decode cX7_record 8 = .ok (.aload_n 0, 1) := by decide +kernel
theorem dX7_record_9 : decode cX7_record 9 = .ok (.getfield 36, 3) := by decide +kernel
theorem dX7_record_12 : decode cX7_record 12 = .ok (.bipush 6, 2) := by decide +kernel
theorem dX7_record_14 : decode cX7_record 14 = .ok (.if_icmp .ne 39, 3) := by decide +kernel
theorem dX7_record_17 : decode cX7_record 17 = .ok (.iconst 0, 1) := by decide +kernel
theorem dX7_record_18 : decode cX7_record 18 = .ok (.istore_n 1, 1) := by decide +kernel
theorem dX7_record_19 : decode cX7_record 19 = .ok (.iload_n 1, 1) := by decide +kernel
theorem dX7_record_20 : decode cX7_record 20 = .ok (.sipush 1400, 3) := by decide +kernel
theorem dX7_record_23 : decode cX7_record 23 = .ok (.if_icmp .ge 25, 3) := by decide +kernel
theorem dX7_record_26 : decode cX7_record 26 = .ok (.aload_n 0, 1) := by decide +kernel
theorem dX7_record_27 : decode cX7_record 27 = .ok (.getfield 16, 3) := by decide +kernel
theorem dX7_record_30 : decode cX7_record 30 = .ok (.iload_n 1, 1) := by decide +kernel
theorem dX7_record_31 : decode cX7_record 31 = .ok (.aload_n 0, 1) := by decide +kernel
theorem dX7_record_32 : decode cX7_record 32 = .ok (.getfield 16, 3) := by decide +kernel
theorem dX7_record_35 : decode cX7_record 35 = .ok (.iload_n 1, 1) := by decide +kernel
theorem dX7_record_36 : decode cX7_record 36 = .ok (.sipush 280, 3) := by decide +kernel
theorem dX7_record_39 : decode cX7_record 39 = .ok (.iadd, 1) := by decide +kernel
theorem dX7_record_40 : decode cX7_record 40 = .ok (.iaload, 1) := by decide +kernel
theorem dX7_record_41 : decode cX7_record 41 = .ok (.iastore, 1) := by decide +kernel
theorem dX7_record_42 : decode cX7_record 42 = .ok (.iinc 1 1, 3) := by decide +kernel
theorem dX7_record_45 : decode cX7_record 45 = .ok (.goto (-26), 3) := by decide +kernel
theorem dX7_record_48 : decode cX7_record 48 = .ok (.aload_n 0, 1) := by decide +kernel
theorem dX7_record_49 : decode cX7_record 49 = .ok (.iconst 5, 1) := by decide +kernel
theorem dX7_record_50 : decode cX7_record 50 = .ok (.putfield 36, 3) := by decide +kernel
theorem dX7_record_53 : decode cX7_record 53 = .ok (.iconst 0, 1) := by decide +kernel
theorem dX7_record_54 : decode cX7_record 54 = .ok (.istore_n 1, 1) := by decide +kernel
theorem dX7_record_55 : decode cX7_record 55 = .ok (.iload_n 1, 1) := by decide +kernel
theorem dX7_record_56 : decode cX7_record 56 = .ok (.sipush 280, 3) := by decide +kernel
theorem dX7_record_59 : decode cX7_record 59 = .ok (.if_icmp .ge 30, 3) := by decide +kernel
theorem dX7_record_62 : decode cX7_record 62 = .ok (.aload_n 0, 1) := by decide +kernel
theorem dX7_record_63 : decode cX7_record 63 = .ok (.getfield 16, 3) := by decide +kernel
theorem dX7_record_66 : decode cX7_record 66 = .ok (.aload_n 0, 1) := by decide +kernel
theorem dX7_record_67 : decode cX7_record 67 = .ok (.getfield 36, 3) := by decide +kernel
theorem dX7_record_70 : decode cX7_record 70 = .ok (.sipush 280, 3) := by decide +kernel
theorem dX7_record_73 : decode cX7_record 73 = .ok (.imul, 1) := by decide +kernel
theorem dX7_record_74 : decode cX7_record 74 = .ok (.iload_n 1, 1) := by decide +kernel
theorem dX7_record_75 : decode cX7_record 75 = .ok (.iadd, 1) := by decide +kernel
theorem dX7_record_76 : decode cX7_record 76 = .ok (.aload_n 0, 1) := by decide +kernel
theorem dX7_record_77 : decode cX7_record 77 = .ok (.getfield 7, 3) := by decide +kernel
theorem dX7_record_80 : decode cX7_record 80 = .ok (.iload_n 1, 1) := by decide +kernel
theorem dX7_record_81 : decode cX7_record 81 = .ok (.iaload, 1) := by decide +kernel
theorem dX7_record_82 : decode cX7_record 82 = .ok (.iastore, 1) := by decide +kernel
theorem dX7_record_83 : decode cX7_record 83 = .ok (.iinc 1 1, 3) := by decide +kernel
theorem dX7_record_86 : decode cX7_record 86 = .ok (.goto (-31), 3) := by decide +kernel
theorem dX7_record_89 : decode cX7_record 89 = .ok (.aload_n 0, 1) := by decide +kernel
theorem dX7_record_90 : decode cX7_record 90 = .ok (.dup, 1) := by decide +kernel
theorem dX7_record_91 : decode cX7_record 91 = .ok (.getfield 36, 3) := by decide +kernel
theorem dX7_record_94 : decode cX7_record 94 = .ok (.iconst 1, 1) := by decide +kernel
theorem dX7_record_95 : decode cX7_record 95 = .ok (.iadd, 1) := by decide +kernel
theorem dX7_record_96 : decode cX7_record 96 = .ok (.putfield 36, 3) := by decide +kernel
theorem dX7_record_99 : decode cX7_record 99 = .ok (.return_, 1) := by decide +kernel
theorem dX7_keep_0 : decode cX7_keep 0 = .ok (.iconst 0, 1) := by decide +kernel
theorem dX7_keep_1 : decode cX7_keep 1 = .ok (.istore_n 1, 1) := by decide +kernel
theorem dX7_keep_2 : decode cX7_keep 2 = .ok (.iload_n 1, 1) := by decide +kernel
theorem dX7_keep_3 : decode cX7_keep 3 = .ok (.sipush 280, 3) := by decide +kernel
theorem dX7_keep_6 : decode cX7_keep 6 = .ok (.if_icmp .ge 21, 3) := by decide +kernel
theorem dX7_keep_9 : decode cX7_keep 9 = .ok (.aload_n 0, 1) := by decide +kernel
theorem dX7_keep_10 : decode cX7_keep 10 = .ok (.getfield 13, 3) := by decide +kernel
theorem dX7_keep_13 : decode cX7_keep 13 = .ok (.iload_n 1, 1) := by decide +kernel
theorem dX7_keep_14 : decode cX7_keep 14 = .ok (.aload_n 0, 1) := by decide +kernel
theorem dX7_keep_15 : decode cX7_keep 15 = .ok (.getfield 7, 3) := by decide +kernel
theorem dX7_keep_18 : decode cX7_keep 18 = .ok (.iload_n 1, 1) := by decide +kernel
theorem dX7_keep_19 : decode cX7_keep 19 = .ok (.iaload, 1) := by decide +kernel
theorem dX7_keep_20 : decode cX7_keep 20 = .ok (.iastore, 1) := by decide +kernel
theorem dX7_keep_21 : decode cX7_keep 21 = .ok (.iinc 1 1, 3) := by decide +kernel
theorem dX7_keep_24 : decode cX7_keep 24 = .ok (.goto (-22), 3) := by decide +kernel
theorem dX7_keep_27 : decode cX7_keep 27 = .ok (.return_, 1) := by decide +kernel
theorem dX7_comeBack_0 : decode cX7_comeBack 0 = .ok (.iconst 0, 1) := by decide +kernel
theorem dX7_comeBack_1 : decode cX7_comeBack 1 = .ok (.istore_n 1, 1) := by decide +kernel
theorem dX7_comeBack_2 : decode cX7_comeBack 2 = .ok (.iload_n 1, 1) := by decide +kernel
theorem dX7_comeBack_3 : decode cX7_comeBack 3 = .ok (.sipush 280, 3) := by decide +kernel
theorem dX7_comeBack_6 : decode cX7_comeBack 6 = .ok (.if_icmp .ge 21, 3) := by decide +kernel
theorem dX7_comeBack_9 : decode cX7_comeBack 9 = .ok (.aload_n 0, 1) := by decide +kernel
theorem dX7_comeBack_10 : decode cX7_comeBack 10 = .ok (.getfield 7, 3) := by decide +kernel
theorem dX7_comeBack_13 : decode cX7_comeBack 13 = .ok (.iload_n 1, 1) := by decide +kernel
theorem dX7_comeBack_14 : decode cX7_comeBack 14 = .ok (.aload_n 0, 1) := by decide +kernel
theorem dX7_comeBack_15 : decode cX7_comeBack 15 = .ok (.getfield 13, 3) := by decide +kernel
theorem dX7_comeBack_18 : decode cX7_comeBack 18 = .ok (.iload_n 1, 1) := by decide +kernel
theorem dX7_comeBack_19 : decode cX7_comeBack 19 = .ok (.iaload, 1) := by decide +kernel
theorem dX7_comeBack_20 : decode cX7_comeBack 20 = .ok (.iastore, 1) := by decide +kernel
theorem dX7_comeBack_21 : decode cX7_comeBack 21 = .ok (.iinc 1 1, 3) := by decide +kernel
theorem dX7_comeBack_24 : decode cX7_comeBack 24 = .ok (.goto (-22), 3) := by decide +kernel
theorem dX7_comeBack_27 : decode cX7_comeBack 27 = .ok (.return_, 1) := by decide +kernel
theorem dX7_least_0 : decode cX7_least 0 = .ok (.iload_n 0, 1) := by decide +kernel
theorem dX7_least_1 : decode cX7_least 1 = .ok (.iconst 2, 1) := by decide +kernel
theorem dX7_least_2 : decode cX7_least 2 = .ok (.if_icmp .eq 8, 3) := by decide +kernel
theorem dX7_least_5 : decode cX7_least 5 = .ok (.iload_n 0, 1) := by decide +kernel
theorem dX7_least_6 : decode cX7_least 6 = .ok (.iconst 3, 1) := by decide +kernel
theorem dX7_least_7 : decode cX7_least 7 = .ok (.if_icmp .ne 7, 3) := by decide +kernel
theorem dX7_least_10 : decode cX7_least 10 = .ok (.iconst 1, 1) := by decide +kernel
theorem dX7_least_11 : decode cX7_least 11 = .ok (.goto 4, 3) := by decide +kernel
theorem dX7_least_14 : decode cX7_least 14 = .ok (.iconst 0, 1) := by decide +kernel
theorem dX7_least_15 : decode cX7_least 15 = .ok (.ireturn, 1) := by decide +kernel
theorem dX7_most_0 : decode cX7_most 0 = .ok (.iload_n 0, 1) := by decide +kernel
theorem dX7_most_1 : decode cX7_most 1 = .ok (.tableswitch 55 0 6 #[43, 46, 49, 52, 49, 55, 46], 43) := by decide +kernel
theorem dX7_most_44 : decode cX7_most 44 = .ok (.bipush 100, 2) := by decide +kernel
theorem dX7_most_46 : decode cX7_most 46 = .ok (.ireturn, 1) := by decide +kernel
theorem dX7_most_47 : decode cX7_most 47 = .ok (.bipush 31, 2) := by decide +kernel
theorem dX7_most_49 : decode cX7_most 49 = .ok (.ireturn, 1) := by decide +kernel
theorem dX7_most_50 : decode cX7_most 50 = .ok (.bipush 9, 2) := by decide +kernel
theorem dX7_most_52 : decode cX7_most 52 = .ok (.ireturn, 1) := by decide +kernel
theorem dX7_most_53 : decode cX7_most 53 = .ok (.bipush 8, 2) := by decide +kernel
theorem dX7_most_55 : decode cX7_most 55 = .ok (.ireturn, 1) := by decide +kernel
theorem dX7_most_56 : decode cX7_most 56 = .ok (.iconst 1, 1) := by decide +kernel
theorem dX7_most_57 : decode cX7_most 57 = .ok (.ireturn, 1) := by decide +kernel
theorem dX7_set_0 : decode cX7_set 0 = .ok (.iload_n 1, 1) := by decide +kernel
theorem dX7_set_1 : decode cX7_set 1 = .ok (.iconst 0, 1) := by decide +kernel
theorem dX7_set_2 : decode cX7_set 2 = .ok (.bipush 6, 2) := by decide +kernel
theorem dX7_set_4 : decode cX7_set 4 = .ok (.invokestatic 40, 3) := by decide +kernel
theorem dX7_set_7 : decode cX7_set 7 = .ok (.ifCond .eq 18, 3) := by decide +kernel
theorem dX7_set_10 : decode cX7_set 10 = .ok (.iload_n 2, 1) := by decide +kernel
theorem dX7_set_11 : decode cX7_set 11 = .ok (.iload_n 1, 1) := by decide +kernel
theorem dX7_set_12 : decode cX7_set 12 = .ok (.invokestatic 44, 3) := by decide +kernel
theorem dX7_set_15 : decode cX7_set 15 = .ok (.iload_n 1, 1) := by decide +kernel
theorem dX7_set_16 : decode cX7_set 16 = .ok (.invokestatic 48, 3) := by decide +kernel
theorem dX7_set_19 : decode cX7_set 19 = .ok (.invokestatic 40, 3) := by decide +kernel
theorem dX7_set_22 : decode cX7_set 22 = .ok (.ifCond .ne 6, 3) := by decide +kernel
theorem dX7_set_25 : decode cX7_set 25 = .ok (.bipush (-2), 2) := by decide +kernel
theorem dX7_set_27 : decode cX7_set 27 = .ok (.ireturn, 1) := by decide +kernel
theorem dX7_set_28 : decode cX7_set 28 = .ok (.aload_n 0, 1) := by decide +kernel
theorem dX7_set_29 : decode cX7_set 29 = .ok (.invokevirtual 51, 3) := by decide +kernel
theorem dX7_set_32 : decode cX7_set 32 = .ok (.aload_n 0, 1) := by decide +kernel
theorem dX7_set_33 : decode cX7_set 33 = .ok (.getfield 7, 3) := by decide +kernel
theorem dX7_set_36 : decode cX7_set 36 = .ok (.iload_n 1, 1) := by decide +kernel
theorem dX7_set_37 : decode cX7_set 37 = .ok (.iaload, 1) := by decide +kernel
theorem dX7_set_38 : decode cX7_set 38 = .ok (.istore_n 3, 1) := by decide +kernel
theorem dX7_set_39 : decode cX7_set 39 = .ok (.aload_n 0, 1) := by decide +kernel
theorem dX7_set_40 : decode cX7_set 40 = .ok (.getfield 7, 3) := by decide +kernel
theorem dX7_set_43 : decode cX7_set 43 = .ok (.iload_n 1, 1) := by decide +kernel
theorem dX7_set_44 : decode cX7_set 44 = .ok (.iload_n 2, 1) := by decide +kernel
theorem dX7_set_45 : decode cX7_set 45 = .ok (.iastore, 1) := by decide +kernel
theorem dX7_set_46 : decode cX7_set 46 = .ok (.iload_n 3, 1) := by decide +kernel
theorem dX7_set_47 : decode cX7_set 47 = .ok (.ireturn, 1) := by decide +kernel
theorem dX7_areSizes_0 : decode cX7_areSizes 0 = .ok (.iload_n 0, 1) := by decide +kernel
theorem dX7_areSizes_1 : decode cX7_areSizes 1 = .ok (.iconst 0, 1) := by decide +kernel
theorem dX7_areSizes_2 : decode cX7_areSizes 2 = .ok (.bipush 15, 2) := by decide +kernel
theorem dX7_areSizes_4 : decode cX7_areSizes 4 = .ok (.invokestatic 40, 3) := by decide +kernel
theorem dX7_areSizes_7 : decode cX7_areSizes 7 = .ok (.ifCond .eq 28, 3) := by decide +kernel
theorem dX7_areSizes_10 : decode cX7_areSizes 10 = .ok (.iload_n 1, 1) := by decide +kernel
theorem dX7_areSizes_11 : decode cX7_areSizes 11 = .ok (.iconst 1, 1) := by decide +kernel
theorem dX7_areSizes_12 : decode cX7_areSizes 12 = .ok (.bipush 50, 2) := by decide +kernel
theorem dX7_areSizes_14 : decode cX7_areSizes 14 = .ok (.invokestatic 40, 3) := by decide +kernel
theorem dX7_areSizes_17 : decode cX7_areSizes 17 = .ok (.ifCond .eq 18, 3) := by decide +kernel
theorem dX7_areSizes_20 : decode cX7_areSizes 20 = .ok (.iload_n 2, 1) := by decide +kernel
theorem dX7_areSizes_21 : decode cX7_areSizes 21 = .ok (.iconst 0, 1) := by decide +kernel
theorem dX7_areSizes_22 : decode cX7_areSizes 22 = .ok (.sipush 500, 3) := by decide +kernel
theorem dX7_areSizes_25 : decode cX7_areSizes 25 = .ok (.invokestatic 40, 3) := by decide +kernel
theorem dX7_areSizes_28 : decode cX7_areSizes 28 = .ok (.ifCond .eq 7, 3) := by decide +kernel
theorem dX7_areSizes_31 : decode cX7_areSizes 31 = .ok (.iconst 1, 1) := by decide +kernel
theorem dX7_areSizes_32 : decode cX7_areSizes 32 = .ok (.goto 4, 3) := by decide +kernel
theorem dX7_areSizes_35 : decode cX7_areSizes 35 = .ok (.iconst 0, 1) := by decide +kernel
theorem dX7_areSizes_36 : decode cX7_areSizes 36 = .ok (.ireturn, 1) := by decide +kernel
theorem dX7_line_0 : decode cX7_line 0 = .ok (.iload_n 1, 1) := by decide +kernel
theorem dX7_line_1 : decode cX7_line 1 = .ok (.iload_n 2, 1) := by decide +kernel
theorem dX7_line_2 : decode cX7_line 2 = .ok (.iload_n 3, 1) := by decide +kernel
theorem dX7_line_3 : decode cX7_line 3 = .ok (.invokestatic 54, 3) := by decide +kernel
theorem dX7_line_6 : decode cX7_line 6 = .ok (.ifCond .eq 13, 3) := by decide +kernel
theorem dX7_line_9 : decode cX7_line 9 = .ok (.iload 4, 2) := by decide +kernel
theorem dX7_line_11 : decode cX7_line 11 = .ok (.iconst 0, 1) := by decide +kernel
theorem dX7_line_12 : decode cX7_line 12 = .ok (.iconst 1, 1) := by decide +kernel
theorem dX7_line_13 : decode cX7_line 13 = .ok (.invokestatic 40, 3) := by decide +kernel
theorem dX7_line_16 : decode cX7_line 16 = .ok (.ifCond .ne 6, 3) := by decide +kernel
theorem dX7_line_19 : decode cX7_line 19 = .ok (.bipush (-2), 2) := by decide +kernel
theorem dX7_line_21 : decode cX7_line 21 = .ok (.ireturn, 1) := by decide +kernel
theorem dX7_line_22 : decode cX7_line 22 = .ok (.aload_n 0, 1) := by decide +kernel
theorem dX7_line_23 : decode cX7_line 23 = .ok (.getfield 7, 3) := by decide +kernel
theorem dX7_line_26 : decode cX7_line 26 = .ok (.bipush 8, 2) := by decide +kernel
theorem dX7_line_28 : decode cX7_line 28 = .ok (.iaload, 1) := by decide +kernel
theorem dX7_line_29 : decode cX7_line 29 = .ok (.bipush 12, 2) := by decide +kernel
theorem dX7_line_31 : decode cX7_line 31 = .ok (.if_icmp .ne 6, 3) := by decide +kernel
theorem dX7_line_34 : decode cX7_line 34 = .ok (.bipush (-4), 2) := by decide +kernel
theorem dX7_line_36 : decode cX7_line 36 = .ok (.ireturn, 1) := by decide +kernel
theorem dX7_line_37 : decode cX7_line 37 = .ok (.aload_n 0, 1) := by decide +kernel
theorem dX7_line_38 : decode cX7_line 38 = .ok (.invokevirtual 51, 3) := by decide +kernel
theorem dX7_line_41 : decode cX7_line 41 = .ok (.bipush 20, 2) := by decide +kernel
theorem dX7_line_43 : decode cX7_line 43 = .ok (.bipush 16, 2) := by decide +kernel
theorem dX7_line_45 : decode cX7_line 45 = .ok (.aload_n 0, 1) := by decide +kernel
theorem dX7_line_46 : decode cX7_line 46 = .ok (.getfield 7, 3) := by decide +kernel
theorem dX7_line_49 : decode cX7_line 49 = .ok (.bipush 8, 2) := by decide +kernel
theorem dX7_line_51 : decode cX7_line 51 = .ok (.iaload, 1) := by decide +kernel
theorem dX7_line_52 : decode cX7_line 52 = .ok (.imul, 1) := by decide +kernel
theorem dX7_line_53 : decode cX7_line 53 = .ok (.iadd, 1) := by decide +kernel
theorem dX7_line_54 : decode cX7_line 54 = .ok (.istore 5, 2) := by decide +kernel
theorem dX7_line_56 : decode cX7_line 56 = .ok (.aload_n 0, 1) := by decide +kernel
theorem dX7_line_57 : decode cX7_line 57 = .ok (.getfield 7, 3) := by decide +kernel
theorem dX7_line_60 : decode cX7_line 60 = .ok (.iload 5, 2) := by decide +kernel
theorem dX7_line_62 : decode cX7_line 62 = .ok (.iconst 0, 1) := by decide +kernel
theorem dX7_line_63 : decode cX7_line 63 = .ok (.iadd, 1) := by decide +kernel
theorem dX7_line_64 : decode cX7_line 64 = .ok (.iload_n 1, 1) := by decide +kernel
theorem dX7_line_65 : decode cX7_line 65 = .ok (.iastore, 1) := by decide +kernel
theorem dX7_line_66 : decode cX7_line 66 = .ok (.aload_n 0, 1) := by decide +kernel
theorem dX7_line_67 : decode cX7_line 67 = .ok (.getfield 7, 3) := by decide +kernel
theorem dX7_line_70 : decode cX7_line 70 = .ok (.iload 5, 2) := by decide +kernel
theorem dX7_line_72 : decode cX7_line 72 = .ok (.iconst 1, 1) := by decide +kernel
theorem dX7_line_73 : decode cX7_line 73 = .ok (.iadd, 1) := by decide +kernel
theorem dX7_line_74 : decode cX7_line 74 = .ok (.iload_n 2, 1) := by decide +kernel
theorem dX7_line_75 : decode cX7_line 75 = .ok (.iastore, 1) := by decide +kernel
theorem dX7_line_76 : decode cX7_line 76 = .ok (.aload_n 0, 1) := by decide +kernel
theorem dX7_line_77 : decode cX7_line 77 = .ok (.getfield 7, 3) := by decide +kernel
theorem dX7_line_80 : decode cX7_line 80 = .ok (.iload 5, 2) := by decide +kernel
theorem dX7_line_82 : decode cX7_line 82 = .ok (.iconst 2, 1) := by decide +kernel
theorem dX7_line_83 : decode cX7_line 83 = .ok (.iadd, 1) := by decide +kernel
theorem dX7_line_84 : decode cX7_line 84 = .ok (.iload_n 3, 1) := by decide +kernel
theorem dX7_line_85 : decode cX7_line 85 = .ok (.iastore, 1) := by decide +kernel
theorem dX7_line_86 : decode cX7_line 86 = .ok (.aload_n 0, 1) := by decide +kernel
theorem dX7_line_87 : decode cX7_line 87 = .ok (.getfield 7, 3) := by decide +kernel
theorem dX7_line_90 : decode cX7_line 90 = .ok (.iload 5, 2) := by decide +kernel
theorem dX7_line_92 : decode cX7_line 92 = .ok (.iconst 3, 1) := by decide +kernel
theorem dX7_line_93 : decode cX7_line 93 = .ok (.iadd, 1) := by decide +kernel
theorem dX7_line_94 : decode cX7_line 94 = .ok (.iload 4, 2) := by decide +kernel
theorem dX7_line_96 : decode cX7_line 96 = .ok (.iastore, 1) := by decide +kernel
theorem dX7_line_97 : decode cX7_line 97 = .ok (.aload_n 0, 1) := by decide +kernel
theorem dX7_line_98 : decode cX7_line 98 = .ok (.getfield 7, 3) := by decide +kernel
theorem dX7_line_101 : decode cX7_line 101 = .ok (.bipush 8, 2) := by decide +kernel
theorem dX7_line_103 : decode cX7_line 103 = .ok (.dup2, 1) := by decide +kernel
theorem dX7_line_104 : decode cX7_line 104 = .ok (.iaload, 1) := by decide +kernel
theorem dX7_line_105 : decode cX7_line 105 = .ok (.iconst 1, 1) := by decide +kernel
theorem dX7_line_106 : decode cX7_line 106 = .ok (.iadd, 1) := by decide +kernel
theorem dX7_line_107 : decode cX7_line 107 = .ok (.iastore, 1) := by decide +kernel
theorem dX7_line_108 : decode cX7_line 108 = .ok (.aload_n 0, 1) := by decide +kernel
theorem dX7_line_109 : decode cX7_line 109 = .ok (.getfield 7, 3) := by decide +kernel
theorem dX7_line_112 : decode cX7_line 112 = .ok (.bipush 8, 2) := by decide +kernel
theorem dX7_line_114 : decode cX7_line 114 = .ok (.iaload, 1) := by decide +kernel
theorem dX7_line_115 : decode cX7_line 115 = .ok (.iconst 1, 1) := by decide +kernel
theorem dX7_line_116 : decode cX7_line 116 = .ok (.isub, 1) := by decide +kernel
theorem dX7_line_117 : decode cX7_line 117 = .ok (.ireturn, 1) := by decide +kernel
theorem dX7_isLine_0 : decode cX7_isLine 0 = .ok (.iload_n 1, 1) := by decide +kernel
theorem dX7_isLine_1 : decode cX7_isLine 1 = .ok (.iconst 0, 1) := by decide +kernel
theorem dX7_isLine_2 : decode cX7_isLine 2 = .ok (.aload_n 0, 1) := by decide +kernel
theorem dX7_isLine_3 : decode cX7_isLine 3 = .ok (.getfield 7, 3) := by decide +kernel
theorem dX7_isLine_6 : decode cX7_isLine 6 = .ok (.bipush 8, 2) := by decide +kernel
theorem dX7_isLine_8 : decode cX7_isLine 8 = .ok (.iaload, 1) := by decide +kernel
theorem dX7_isLine_9 : decode cX7_isLine 9 = .ok (.iconst 1, 1) := by decide +kernel
theorem dX7_isLine_10 : decode cX7_isLine 10 = .ok (.isub, 1) := by decide +kernel
theorem dX7_isLine_11 : decode cX7_isLine 11 = .ok (.invokestatic 40, 3) := by decide +kernel
theorem dX7_isLine_14 : decode cX7_isLine 14 = .ok (.ireturn, 1) := by decide +kernel
theorem dX7_of_0 : decode cX7_of 0 = .ok (.aload_n 0, 1) := by decide +kernel
theorem dX7_of_1 : decode cX7_of 1 = .ok (.getfield 7, 3) := by decide +kernel
theorem dX7_of_4 : decode cX7_of 4 = .ok (.bipush 20, 2) := by decide +kernel
theorem dX7_of_6 : decode cX7_of 6 = .ok (.bipush 16, 2) := by decide +kernel
theorem dX7_of_8 : decode cX7_of 8 = .ok (.iload_n 1, 1) := by decide +kernel
theorem dX7_of_9 : decode cX7_of 9 = .ok (.imul, 1) := by decide +kernel
theorem dX7_of_10 : decode cX7_of 10 = .ok (.iadd, 1) := by decide +kernel
theorem dX7_of_11 : decode cX7_of 11 = .ok (.iload_n 2, 1) := by decide +kernel
theorem dX7_of_12 : decode cX7_of 12 = .ok (.iadd, 1) := by decide +kernel
theorem dX7_of_13 : decode cX7_of 13 = .ok (.iaload, 1) := by decide +kernel
theorem dX7_of_14 : decode cX7_of 14 = .ok (.ireturn, 1) := by decide +kernel
theorem dX7_book_0 : decode cX7_book 0 = .ok (.bipush 20, 2) := by decide +kernel
theorem dX7_book_2 : decode cX7_book 2 = .ok (.bipush 16, 2) := by decide +kernel
theorem dX7_book_4 : decode cX7_book 4 = .ok (.iload_n 1, 1) := by decide +kernel
theorem dX7_book_5 : decode cX7_book 5 = .ok (.imul, 1) := by decide +kernel
theorem dX7_book_6 : decode cX7_book 6 = .ok (.iadd, 1) := by decide +kernel
theorem dX7_book_7 : decode cX7_book 7 = .ok (.iload_n 2, 1) := by decide +kernel
theorem dX7_book_8 : decode cX7_book 8 = .ok (.iadd, 1) := by decide +kernel
theorem dX7_book_9 : decode cX7_book 9 = .ok (.istore 5, 2) := by decide +kernel
theorem dX7_book_11 : decode cX7_book 11 = .ok (.aload_n 0, 1) := by decide +kernel
theorem dX7_book_12 : decode cX7_book 12 = .ok (.getfield 7, 3) := by decide +kernel
theorem dX7_book_15 : decode cX7_book 15 = .ok (.iload 5, 2) := by decide +kernel
theorem dX7_book_17 : decode cX7_book 17 = .ok (.iload 4, 2) := by decide +kernel
theorem dX7_book_19 : decode cX7_book 19 = .ok (.ifCond .eq 15, 3) := by decide +kernel
theorem dX7_book_22 : decode cX7_book 22 = .ok (.aload_n 0, 1) := by decide +kernel
theorem dX7_book_23 : decode cX7_book 23 = .ok (.getfield 7, 3) := by decide +kernel
theorem dX7_book_26 : decode cX7_book 26 = .ok (.iload 5, 2) := by decide +kernel
theorem dX7_book_28 : decode cX7_book 28 = .ok (.iaload, 1) := by decide +kernel
theorem dX7_book_29 : decode cX7_book 29 = .ok (.iload_n 3, 1) := by decide +kernel
theorem dX7_book_30 : decode cX7_book 30 = .ok (.iadd, 1) := by decide +kernel
theorem dX7_book_31 : decode cX7_book 31 = .ok (.goto 4, 3) := by decide +kernel
theorem dX7_book_34 : decode cX7_book 34 = .ok (.iload_n 3, 1) := by decide +kernel
theorem dX7_book_35 : decode cX7_book 35 = .ok (.iastore, 1) := by decide +kernel
theorem dX7_book_36 : decode cX7_book 36 = .ok (.return_, 1) := by decide +kernel
theorem dX7_timer_0 : decode cX7_timer 0 = .ok (.aload_n 0, 1) := by decide +kernel
theorem dX7_timer_1 : decode cX7_timer 1 = .ok (.iload_n 1, 1) := by decide +kernel
theorem dX7_timer_2 : decode cX7_timer 2 = .ok (.invokevirtual 57, 3) := by decide +kernel
theorem dX7_timer_5 : decode cX7_timer 5 = .ok (.ifCond .ne 5, 3) := by decide +kernel
theorem dX7_timer_8 : decode cX7_timer 8 = .ok (.iconst (-1), 1) := by decide +kernel
theorem dX7_timer_9 : decode cX7_timer 9 = .ok (.ireturn, 1) := by decide +kernel
theorem dX7_timer_10 : decode cX7_timer 10 = .ok (.iload_n 2, 1) := by decide +kernel
theorem dX7_timer_11 : decode cX7_timer 11 = .ok (.iconst 1, 1) := by decide +kernel
theorem dX7_timer_12 : decode cX7_timer 12 = .ok (.sipush 200, 3) := by decide +kernel
theorem dX7_timer_15 : decode cX7_timer 15 = .ok (.invokestatic 40, 3) := by decide +kernel
theorem dX7_timer_18 : decode cX7_timer 18 = .ok (.ifCond .eq 28, 3) := by decide +kernel
theorem dX7_timer_21 : decode cX7_timer 21 = .ok (.iload_n 3, 1) := by decide +kernel
theorem dX7_timer_22 : decode cX7_timer 22 = .ok (.aload_n 0, 1) := by decide +kernel
theorem dX7_timer_23 : decode cX7_timer 23 = .ok (.getfield 7, 3) := by decide +kernel
theorem dX7_timer_26 : decode cX7_timer 26 = .ok (.bipush 7, 2) := by decide +kernel
theorem dX7_timer_28 : decode cX7_timer 28 = .ok (.iaload, 1) := by decide +kernel
theorem dX7_timer_29 : decode cX7_timer 29 = .ok (.aload_n 0, 1) := by decide +kernel
theorem dX7_timer_30 : decode cX7_timer 30 = .ok (.getfield 7, 3) := by decide +kernel
theorem dX7_timer_33 : decode cX7_timer 33 = .ok (.bipush 7, 2) := by decide +kernel
theorem dX7_timer_35 : decode cX7_timer 35 = .ok (.iaload, 1) := by decide +kernel
theorem dX7_timer_36 : decode cX7_timer 36 = .ok (.sipush 500, 3) := by decide +kernel
theorem dX7_timer_39 : decode cX7_timer 39 = .ok (.iadd, 1) := by decide +kernel
theorem dX7_timer_40 : decode cX7_timer 40 = .ok (.invokestatic 40, 3) := by decide +kernel
theorem dX7_timer_43 : decode cX7_timer 43 = .ok (.ifCond .ne 6, 3) := by decide +kernel
theorem dX7_timer_46 : decode cX7_timer 46 = .ok (.bipush (-2), 2) := by decide +kernel
theorem dX7_timer_48 : decode cX7_timer 48 = .ok (.ireturn, 1) := by decide +kernel
theorem dX7_timer_49 : decode cX7_timer 49 = .ok (.aload_n 0, 1) := by decide +kernel
theorem dX7_timer_50 : decode cX7_timer 50 = .ok (.getfield 7, 3) := by decide +kernel
theorem dX7_timer_53 : decode cX7_timer 53 = .ok (.bipush 9, 2) := by decide +kernel
theorem dX7_timer_55 : decode cX7_timer 55 = .ok (.iaload, 1) := by decide +kernel
theorem dX7_timer_56 : decode cX7_timer 56 = .ok (.bipush 6, 2) := by decide +kernel
theorem dX7_timer_58 : decode cX7_timer 58 = .ok (.if_icmp .ne 6, 3) := by decide +kernel
theorem dX7_timer_61 : decode cX7_timer 61 = .ok (.bipush (-4), 2) := by decide +kernel
theorem dX7_timer_63 : decode cX7_timer 63 = .ok (.ireturn, 1) := by decide +kernel
theorem dX7_timer_64 : decode cX7_timer 64 = .ok (.aload_n 0, 1) := by decide +kernel
theorem dX7_timer_65 : decode cX7_timer 65 = .ok (.iload_n 1, 1) := by decide +kernel
theorem dX7_timer_66 : decode cX7_timer 66 = .ok (.iconst 3, 1) := by decide +kernel
theorem dX7_timer_67 : decode cX7_timer 67 = .ok (.invokevirtual 61, 3) := by decide +kernel
theorem dX7_timer_70 : decode cX7_timer 70 = .ok (.iconst 1, 1) := by decide +kernel
theorem dX7_timer_71 : decode cX7_timer 71 = .ok (.if_icmp .ne 6, 3) := by decide +kernel
theorem dX7_timer_74 : decode cX7_timer 74 = .ok (.bipush (-5), 2) := by decide +kernel
theorem dX7_timer_76 : decode cX7_timer 76 = .ok (.ireturn, 1) := by decide +kernel
theorem dX7_timer_77 : decode cX7_timer 77 = .ok (.aload_n 0, 1) := by decide +kernel
theorem dX7_timer_78 : decode cX7_timer 78 = .ok (.invokevirtual 51, 3) := by decide +kernel
theorem dX7_timer_81 : decode cX7_timer 81 = .ok (.sipush 260, 3) := by decide +kernel
theorem dX7_timer_84 : decode cX7_timer 84 = .ok (.iconst 3, 1) := by decide +kernel
theorem dX7_timer_85 : decode cX7_timer 85 = .ok (.aload_n 0, 1) := by decide +kernel
theorem dX7_timer_86 : decode cX7_timer 86 = .ok (.getfield 7, 3) := by decide +kernel
theorem dX7_timer_89 : decode cX7_timer 89 = .ok (.bipush 9, 2) := by decide +kernel
theorem dX7_timer_91 : decode cX7_timer 91 = .ok (.iaload, 1) := by decide +kernel
theorem dX7_timer_92 : decode cX7_timer 92 = .ok (.imul, 1) := by decide +kernel
theorem dX7_timer_93 : decode cX7_timer 93 = .ok (.iadd, 1) := by decide +kernel
theorem dX7_timer_94 : decode cX7_timer 94 = .ok (.istore 4, 2) := by decide +kernel
theorem dX7_timer_96 : decode cX7_timer 96 = .ok (.aload_n 0, 1) := by decide +kernel
theorem dX7_timer_97 : decode cX7_timer 97 = .ok (.getfield 7, 3) := by decide +kernel
theorem dX7_timer_100 : decode cX7_timer 100 = .ok (.iload 4, 2) := by decide +kernel
theorem dX7_timer_102 : decode cX7_timer 102 = .ok (.iload_n 1, 1) := by decide +kernel
theorem dX7_timer_103 : decode cX7_timer 103 = .ok (.iastore, 1) := by decide +kernel
theorem dX7_timer_104 : decode cX7_timer 104 = .ok (.aload_n 0, 1) := by decide +kernel
theorem dX7_timer_105 : decode cX7_timer 105 = .ok (.getfield 7, 3) := by decide +kernel
theorem dX7_timer_108 : decode cX7_timer 108 = .ok (.iload 4, 2) := by decide +kernel
theorem dX7_timer_110 : decode cX7_timer 110 = .ok (.iconst 1, 1) := by decide +kernel
theorem dX7_timer_111 : decode cX7_timer 111 = .ok (.iadd, 1) := by decide +kernel
theorem dX7_timer_112 : decode cX7_timer 112 = .ok (.iload_n 2, 1) := by decide +kernel
theorem dX7_timer_113 : decode cX7_timer 113 = .ok (.iastore, 1) := by decide +kernel
theorem dX7_timer_114 : decode cX7_timer 114 = .ok (.aload_n 0, 1) := by decide +kernel
theorem dX7_timer_115 : decode cX7_timer 115 = .ok (.getfield 7, 3) := by decide +kernel
theorem dX7_timer_118 : decode cX7_timer 118 = .ok (.iload 4, 2) := by decide +kernel
theorem dX7_timer_120 : decode cX7_timer 120 = .ok (.iconst 2, 1) := by decide +kernel
theorem dX7_timer_121 : decode cX7_timer 121 = .ok (.iadd, 1) := by decide +kernel
theorem dX7_timer_122 : decode cX7_timer 122 = .ok (.iload_n 3, 1) := by decide +kernel
theorem dX7_timer_123 : decode cX7_timer 123 = .ok (.iastore, 1) := by decide +kernel
theorem dX7_timer_124 : decode cX7_timer 124 = .ok (.aload_n 0, 1) := by decide +kernel
theorem dX7_timer_125 : decode cX7_timer 125 = .ok (.getfield 7, 3) := by decide +kernel
theorem dX7_timer_128 : decode cX7_timer 128 = .ok (.bipush 9, 2) := by decide +kernel
theorem dX7_timer_130 : decode cX7_timer 130 = .ok (.dup2, 1) := by decide +kernel
theorem dX7_timer_131 : decode cX7_timer 131 = .ok (.iaload, 1) := by decide +kernel
theorem dX7_timer_132 : decode cX7_timer 132 = .ok (.iconst 1, 1) := by decide +kernel
theorem dX7_timer_133 : decode cX7_timer 133 = .ok (.iadd, 1) := by decide +kernel
theorem dX7_timer_134 : decode cX7_timer 134 = .ok (.iastore, 1) := by decide +kernel
theorem dX7_timer_135 : decode cX7_timer 135 = .ok (.aload_n 0, 1) := by decide +kernel
theorem dX7_timer_136 : decode cX7_timer 136 = .ok (.getfield 7, 3) := by decide +kernel
theorem dX7_timer_139 : decode cX7_timer 139 = .ok (.bipush 9, 2) := by decide +kernel
theorem dX7_timer_141 : decode cX7_timer 141 = .ok (.iaload, 1) := by decide +kernel
theorem dX7_timer_142 : decode cX7_timer 142 = .ok (.iconst 1, 1) := by decide +kernel
theorem dX7_timer_143 : decode cX7_timer 143 = .ok (.isub, 1) := by decide +kernel
theorem dX7_timer_144 : decode cX7_timer 144 = .ok (.ireturn, 1) := by decide +kernel
theorem dX7_stop_0 : decode cX7_stop 0 = .ok (.iload_n 1, 1) := by decide +kernel
theorem dX7_stop_1 : decode cX7_stop 1 = .ok (.iconst 0, 1) := by decide +kernel
theorem dX7_stop_2 : decode cX7_stop 2 = .ok (.aload_n 0, 1) := by decide +kernel
theorem dX7_stop_3 : decode cX7_stop 3 = .ok (.getfield 7, 3) := by decide +kernel
theorem dX7_stop_6 : decode cX7_stop 6 = .ok (.bipush 9, 2) := by decide +kernel
theorem dX7_stop_8 : decode cX7_stop 8 = .ok (.iaload, 1) := by decide +kernel
theorem dX7_stop_9 : decode cX7_stop 9 = .ok (.iconst 1, 1) := by decide +kernel
theorem dX7_stop_10 : decode cX7_stop 10 = .ok (.isub, 1) := by decide +kernel
theorem dX7_stop_11 : decode cX7_stop 11 = .ok (.invokestatic 40, 3) := by decide +kernel
theorem dX7_stop_14 : decode cX7_stop 14 = .ok (.ifCond .ne 5, 3) := by decide +kernel
theorem dX7_stop_17 : decode cX7_stop 17 = .ok (.iconst (-1), 1) := by decide +kernel
theorem dX7_stop_18 : decode cX7_stop 18 = .ok (.ireturn, 1) := by decide +kernel
theorem dX7_stop_19 : decode cX7_stop 19 = .ok (.aload_n 0, 1) := by decide +kernel
theorem dX7_stop_20 : decode cX7_stop 20 = .ok (.invokevirtual 51, 3) := by decide +kernel
theorem dX7_stop_23 : decode cX7_stop 23 = .ok (.aload_n 0, 1) := by decide +kernel
theorem dX7_stop_24 : decode cX7_stop 24 = .ok (.getfield 7, 3) := by decide +kernel
theorem dX7_stop_27 : decode cX7_stop 27 = .ok (.bipush 9, 2) := by decide +kernel
theorem dX7_stop_29 : decode cX7_stop 29 = .ok (.dup2, 1) := by decide +kernel
theorem dX7_stop_30 : decode cX7_stop 30 = .ok (.iaload, 1) := by decide +kernel
theorem dX7_stop_31 : decode cX7_stop 31 = .ok (.iconst 1, 1) := by decide +kernel
theorem dX7_stop_32 : decode cX7_stop 32 = .ok (.isub, 1) := by decide +kernel
theorem dX7_stop_33 : decode cX7_stop 33 = .ok (.iastore, 1) := by decide +kernel
theorem dX7_stop_34 : decode cX7_stop 34 = .ok (.sipush 260, 3) := by decide +kernel
theorem dX7_stop_37 : decode cX7_stop 37 = .ok (.iconst 3, 1) := by decide +kernel
theorem dX7_stop_38 : decode cX7_stop 38 = .ok (.iload_n 1, 1) := by decide +kernel
theorem dX7_stop_39 : decode cX7_stop 39 = .ok (.imul, 1) := by decide +kernel
theorem dX7_stop_40 : decode cX7_stop 40 = .ok (.iadd, 1) := by decide +kernel
theorem dX7_stop_41 : decode cX7_stop 41 = .ok (.istore_n 2, 1) := by decide +kernel
theorem dX7_stop_42 : decode cX7_stop 42 = .ok (.iload_n 2, 1) := by decide +kernel
theorem dX7_stop_43 : decode cX7_stop 43 = .ok (.sipush 260, 3) := by decide +kernel
theorem dX7_stop_46 : decode cX7_stop 46 = .ok (.iconst 3, 1) := by decide +kernel
theorem dX7_stop_47 : decode cX7_stop 47 = .ok (.aload_n 0, 1) := by decide +kernel
theorem dX7_stop_48 : decode cX7_stop 48 = .ok (.getfield 7, 3) := by decide +kernel
theorem dX7_stop_51 : decode cX7_stop 51 = .ok (.bipush 9, 2) := by decide +kernel
theorem dX7_stop_53 : decode cX7_stop 53 = .ok (.iaload, 1) := by decide +kernel
theorem dX7_stop_54 : decode cX7_stop 54 = .ok (.imul, 1) := by decide +kernel
theorem dX7_stop_55 : decode cX7_stop 55 = .ok (.iadd, 1) := by decide +kernel
theorem dX7_stop_56 : decode cX7_stop 56 = .ok (.if_icmp .ge 23, 3) := by decide +kernel
theorem dX7_stop_59 : decode cX7_stop 59 = .ok (.aload_n 0, 1) := by decide +kernel
theorem dX7_stop_60 : decode cX7_stop 60 = .ok (.getfield 7, 3) := by decide +kernel
theorem dX7_stop_63 : decode cX7_stop 63 = .ok (.iload_n 2, 1) := by decide +kernel
theorem dX7_stop_64 : decode cX7_stop 64 = .ok (.aload_n 0, 1) := by decide +kernel
theorem dX7_stop_65 : decode cX7_stop 65 = .ok (.getfield 7, 3) := by decide +kernel
theorem dX7_stop_68 : decode cX7_stop 68 = .ok (.iload_n 2, 1) := by decide +kernel
theorem dX7_stop_69 : decode cX7_stop 69 = .ok (.iconst 3, 1) := by decide +kernel
theorem dX7_stop_70 : decode cX7_stop 70 = .ok (.iadd, 1) := by decide +kernel
theorem dX7_stop_71 : decode cX7_stop 71 = .ok (.iaload, 1) := by decide +kernel
theorem dX7_stop_72 : decode cX7_stop 72 = .ok (.iastore, 1) := by decide +kernel
theorem dX7_stop_73 : decode cX7_stop 73 = .ok (.iinc 2 1, 3) := by decide +kernel
theorem dX7_stop_76 : decode cX7_stop 76 = .ok (.goto (-34), 3) := by decide +kernel
theorem dX7_stop_79 : decode cX7_stop 79 = .ok (.aload_n 0, 1) := by decide +kernel
theorem dX7_stop_80 : decode cX7_stop 80 = .ok (.getfield 7, 3) := by decide +kernel
theorem dX7_stop_83 : decode cX7_stop 83 = .ok (.bipush 9, 2) := by decide +kernel
theorem dX7_stop_85 : decode cX7_stop 85 = .ok (.iaload, 1) := by decide +kernel
theorem dX7_stop_86 : decode cX7_stop 86 = .ok (.ireturn, 1) := by decide +kernel
theorem dX7_waits_0 : decode cX7_waits 0 = .ok (.aload_n 0, 1) := by decide +kernel
theorem dX7_waits_1 : decode cX7_waits 1 = .ok (.iload_n 1, 1) := by decide +kernel
theorem dX7_waits_2 : decode cX7_waits 2 = .ok (.iconst 5, 1) := by decide +kernel
theorem dX7_waits_3 : decode cX7_waits 3 = .ok (.invokevirtual 61, 3) := by decide +kernel
theorem dX7_waits_6 : decode cX7_waits 6 = .ok (.iconst 1, 1) := by decide +kernel
theorem dX7_waits_7 : decode cX7_waits 7 = .ok (.if_icmp .ne 7, 3) := by decide +kernel
theorem dX7_waits_10 : decode cX7_waits 10 = .ok (.iconst 1, 1) := by decide +kernel
theorem dX7_waits_11 : decode cX7_waits 11 = .ok (.goto 4, 3) := by decide +kernel
theorem dX7_waits_14 : decode cX7_waits 14 = .ok (.iconst 0, 1) := by decide +kernel
theorem dX7_waits_15 : decode cX7_waits 15 = .ok (.ireturn, 1) := by decide +kernel
theorem dX7_turn_0 : decode cX7_turn 0 = .ok (.aload_n 0, 1) := by decide +kernel
theorem dX7_turn_1 : decode cX7_turn 1 = .ok (.iload_n 1, 1) := by decide +kernel
theorem dX7_turn_2 : decode cX7_turn 2 = .ok (.iconst 5, 1) := by decide +kernel
theorem dX7_turn_3 : decode cX7_turn 3 = .ok (.iload_n 2, 1) := by decide +kernel
theorem dX7_turn_4 : decode cX7_turn 4 = .ok (.iconst 0, 1) := by decide +kernel
theorem dX7_turn_5 : decode cX7_turn 5 = .ok (.invokevirtual 65, 3) := by decide +kernel
theorem dX7_turn_8 : decode cX7_turn 8 = .ok (.aload_n 0, 1) := by decide +kernel
theorem dX7_turn_9 : decode cX7_turn 9 = .ok (.iload_n 1, 1) := by decide +kernel
theorem dX7_turn_10 : decode cX7_turn 10 = .ok (.bipush 6, 2) := by decide +kernel
theorem dX7_turn_12 : decode cX7_turn 12 = .ok (.iconst 0, 1) := by decide +kernel
theorem dX7_turn_13 : decode cX7_turn 13 = .ok (.iconst 0, 1) := by decide +kernel
theorem dX7_turn_14 : decode cX7_turn 14 = .ok (.invokevirtual 65, 3) := by decide +kernel
theorem dX7_turn_17 : decode cX7_turn 17 = .ok (.return_, 1) := by decide +kernel
theorem dX7_edge_0 : decode cX7_edge 0 = .ok (.aload_n 0, 1) := by decide +kernel
theorem dX7_edge_1 : decode cX7_edge 1 = .ok (.iload_n 1, 1) := by decide +kernel
theorem dX7_edge_2 : decode cX7_edge 2 = .ok (.bipush 8, 2) := by decide +kernel
theorem dX7_edge_4 : decode cX7_edge 4 = .ok (.iconst 1, 1) := by decide +kernel
theorem dX7_edge_5 : decode cX7_edge 5 = .ok (.iconst 1, 1) := by decide +kernel
theorem dX7_edge_6 : decode cX7_edge 6 = .ok (.invokevirtual 65, 3) := by decide +kernel
theorem dX7_edge_9 : decode cX7_edge 9 = .ok (.aload_n 0, 1) := by decide +kernel
theorem dX7_edge_10 : decode cX7_edge 10 = .ok (.iload_n 1, 1) := by decide +kernel
theorem dX7_edge_11 : decode cX7_edge 11 = .ok (.invokevirtual 69, 3) := by decide +kernel
theorem dX7_edge_14 : decode cX7_edge 14 = .ok (.ifCond .ne 22, 3) := by decide +kernel
theorem dX7_edge_17 : decode cX7_edge 17 = .ok (.aload_n 0, 1) := by decide +kernel
theorem dX7_edge_18 : decode cX7_edge 18 = .ok (.iload_n 1, 1) := by decide +kernel
theorem dX7_edge_19 : decode cX7_edge 19 = .ok (.iconst 4, 1) := by decide +kernel
theorem dX7_edge_20 : decode cX7_edge 20 = .ok (.invokevirtual 61, 3) := by decide +kernel
theorem dX7_edge_23 : decode cX7_edge 23 = .ok (.iconst 1, 1) := by decide +kernel
theorem dX7_edge_24 : decode cX7_edge 24 = .ok (.if_icmp .ne 23, 3) := by decide +kernel
theorem dX7_edge_27 : decode cX7_edge 27 = .ok (.aload_n 0, 1) := by decide +kernel
theorem dX7_edge_28 : decode cX7_edge 28 = .ok (.getfield 7, 3) := by decide +kernel
theorem dX7_edge_31 : decode cX7_edge 31 = .ok (.iconst 5, 1) := by decide +kernel
theorem dX7_edge_32 : decode cX7_edge 32 = .ok (.iaload, 1) := by decide +kernel
theorem dX7_edge_33 : decode cX7_edge 33 = .ok (.ifCond .ne 14, 3) := by decide +kernel
theorem dX7_edge_36 : decode cX7_edge 36 = .ok (.aload_n 0, 1) := by decide +kernel
theorem dX7_edge_37 : decode cX7_edge 37 = .ok (.iload_n 1, 1) := by decide +kernel
theorem dX7_edge_38 : decode cX7_edge 38 = .ok (.bipush 9, 2) := by decide +kernel
theorem dX7_edge_40 : decode cX7_edge 40 = .ok (.iconst 1, 1) := by decide +kernel
theorem dX7_edge_41 : decode cX7_edge 41 = .ok (.iconst 1, 1) := by decide +kernel
theorem dX7_edge_42 : decode cX7_edge 42 = .ok (.invokevirtual 65, 3) := by decide +kernel
theorem dX7_edge_45 : decode cX7_edge 45 = .ok (.iconst 0, 1) := by decide +kernel
theorem dX7_edge_46 : decode cX7_edge 46 = .ok (.ireturn, 1) := by decide +kernel
theorem dX7_edge_47 : decode cX7_edge 47 = .ok (.aload_n 0, 1) := by decide +kernel
theorem dX7_edge_48 : decode cX7_edge 48 = .ok (.iload_n 1, 1) := by decide +kernel
theorem dX7_edge_49 : decode cX7_edge 49 = .ok (.iconst 1, 1) := by decide +kernel
theorem dX7_edge_50 : decode cX7_edge 50 = .ok (.invokevirtual 72, 3) := by decide +kernel
theorem dX7_edge_53 : decode cX7_edge 53 = .ok (.iconst 1, 1) := by decide +kernel
theorem dX7_edge_54 : decode cX7_edge 54 = .ok (.ireturn, 1) := by decide +kernel
theorem dX7_raise_0 : decode cX7_raise 0 = .ok (.aload_n 0, 1) := by decide +kernel
theorem dX7_raise_1 : decode cX7_raise 1 = .ok (.iload_n 1, 1) := by decide +kernel
theorem dX7_raise_2 : decode cX7_raise 2 = .ok (.invokevirtual 57, 3) := by decide +kernel
theorem dX7_raise_5 : decode cX7_raise 5 = .ok (.ifCond .ne 5, 3) := by decide +kernel
theorem dX7_raise_8 : decode cX7_raise 8 = .ok (.iconst (-1), 1) := by decide +kernel
theorem dX7_raise_9 : decode cX7_raise 9 = .ok (.ireturn, 1) := by decide +kernel
theorem dX7_raise_10 : decode cX7_raise 10 = .ok (.aload_n 0, 1) := by decide +kernel
theorem dX7_raise_11 : decode cX7_raise 11 = .ok (.iload_n 1, 1) := by decide +kernel
theorem dX7_raise_12 : decode cX7_raise 12 = .ok (.iconst 3, 1) := by decide +kernel
theorem dX7_raise_13 : decode cX7_raise 13 = .ok (.invokevirtual 61, 3) := by decide +kernel
theorem dX7_raise_16 : decode cX7_raise 16 = .ok (.iconst 1, 1) := by decide +kernel
theorem dX7_raise_17 : decode cX7_raise 17 = .ok (.if_icmp .ne 6, 3) := by decide +kernel
theorem dX7_raise_20 : decode cX7_raise 20 = .ok (.bipush (-5), 2) := by decide +kernel
theorem dX7_raise_22 : decode cX7_raise 22 = .ok (.ireturn, 1) := by decide +kernel
theorem dX7_raise_23 : decode cX7_raise 23 = .ok (.aload_n 0, 1) := by decide +kernel
theorem dX7_raise_24 : decode cX7_raise 24 = .ok (.invokevirtual 51, 3) := by decide +kernel
theorem dX7_raise_27 : decode cX7_raise 27 = .ok (.aload_n 0, 1) := by decide +kernel
theorem dX7_raise_28 : decode cX7_raise 28 = .ok (.iload_n 1, 1) := by decide +kernel
theorem dX7_raise_29 : decode cX7_raise 29 = .ok (.invokevirtual 76, 3) := by decide +kernel
theorem dX7_raise_32 : decode cX7_raise 32 = .ok (.ifCond .eq 7, 3) := by decide +kernel
theorem dX7_raise_35 : decode cX7_raise 35 = .ok (.iconst 1, 1) := by decide +kernel
theorem dX7_raise_36 : decode cX7_raise 36 = .ok (.goto 4, 3) := by decide +kernel
theorem dX7_raise_39 : decode cX7_raise 39 = .ok (.iconst 0, 1) := by decide +kernel
theorem dX7_raise_40 : decode cX7_raise 40 = .ok (.ireturn, 1) := by decide +kernel
theorem dX7_placeOf_0 : decode cX7_placeOf 0 = .ok (.bipush (-6), 2) := by decide +kernel
theorem dX7_placeOf_2 : decode cX7_placeOf 2 = .ok (.istore_n 2, 1) := by decide +kernel
theorem dX7_placeOf_3 : decode cX7_placeOf 3 = .ok (.iconst 0, 1) := by decide +kernel
theorem dX7_placeOf_4 : decode cX7_placeOf 4 = .ok (.istore_n 3, 1) := by decide +kernel
theorem dX7_placeOf_5 : decode cX7_placeOf 5 = .ok (.iload_n 3, 1) := by decide +kernel
theorem dX7_placeOf_6 : decode cX7_placeOf 6 = .ok (.aload_n 0, 1) := by decide +kernel
theorem dX7_placeOf_7 : decode cX7_placeOf 7 = .ok (.getfield 7, 3) := by decide +kernel
theorem dX7_placeOf_10 : decode cX7_placeOf 10 = .ok (.bipush 10, 2) := by decide +kernel
theorem dX7_placeOf_12 : decode cX7_placeOf 12 = .ok (.iaload, 1) := by decide +kernel
theorem dX7_placeOf_13 : decode cX7_placeOf 13 = .ok (.if_icmp .ge 31, 3) := by decide +kernel
theorem dX7_placeOf_16 : decode cX7_placeOf 16 = .ok (.aload_n 0, 1) := by decide +kernel
theorem dX7_placeOf_17 : decode cX7_placeOf 17 = .ok (.getfield 7, 3) := by decide +kernel
theorem dX7_placeOf_20 : decode cX7_placeOf 20 = .ok (.sipush 220, 3) := by decide +kernel
theorem dX7_placeOf_23 : decode cX7_placeOf 23 = .ok (.iconst 4, 1) := by decide +kernel
theorem dX7_placeOf_24 : decode cX7_placeOf 24 = .ok (.iload_n 3, 1) := by decide +kernel
theorem dX7_placeOf_25 : decode cX7_placeOf 25 = .ok (.imul, 1) := by decide +kernel
theorem dX7_placeOf_26 : decode cX7_placeOf 26 = .ok (.iadd, 1) := by decide +kernel
theorem dX7_placeOf_27 : decode cX7_placeOf 27 = .ok (.iaload, 1) := by decide +kernel
theorem dX7_placeOf_28 : decode cX7_placeOf 28 = .ok (.iload_n 1, 1) := by decide +kernel
theorem dX7_placeOf_29 : decode cX7_placeOf 29 = .ok (.if_icmp .ne 7, 3) := by decide +kernel
theorem dX7_placeOf_32 : decode cX7_placeOf 32 = .ok (.iload_n 3, 1) := by decide +kernel
theorem dX7_placeOf_33 : decode cX7_placeOf 33 = .ok (.goto 4, 3) := by decide +kernel
theorem dX7_placeOf_36 : decode cX7_placeOf 36 = .ok (.iload_n 2, 1) := by decide +kernel
theorem dX7_placeOf_37 : decode cX7_placeOf 37 = .ok (.istore_n 2, 1) := by decide +kernel
theorem dX7_placeOf_38 : decode cX7_placeOf 38 = .ok (.iinc 3 1, 3) := by decide +kernel
theorem dX7_placeOf_41 : decode cX7_placeOf 41 = .ok (.goto (-36), 3) := by decide +kernel
theorem dX7_placeOf_44 : decode cX7_placeOf 44 = .ok (.iload_n 2, 1) := by decide +kernel
theorem dX7_placeOf_45 : decode cX7_placeOf 45 = .ok (.ireturn, 1) := by decide +kernel
theorem dX7_look_0 : decode cX7_look 0 = .ok (.aload_n 0, 1) := by decide +kernel
theorem dX7_look_1 : decode cX7_look 1 = .ok (.iload_n 1, 1) := by decide +kernel
theorem dX7_look_2 : decode cX7_look 2 = .ok (.bipush 7, 2) := by decide +kernel
theorem dX7_look_4 : decode cX7_look 4 = .ok (.invokevirtual 61, 3) := by decide +kernel
theorem dX7_look_7 : decode cX7_look 7 = .ok (.ifCond .eq 15, 3) := by decide +kernel
theorem dX7_look_10 : decode cX7_look 10 = .ok (.aload_n 0, 1) := by decide +kernel
theorem dX7_look_11 : decode cX7_look 11 = .ok (.iload_n 1, 1) := by decide +kernel
theorem dX7_look_12 : decode cX7_look 12 = .ok (.invokevirtual 79, 3) := by decide +kernel
theorem dX7_look_15 : decode cX7_look 15 = .ok (.ifCond .ge 7, 3) := by decide +kernel
theorem dX7_look_18 : decode cX7_look 18 = .ok (.iconst 1, 1) := by decide +kernel
theorem dX7_look_19 : decode cX7_look 19 = .ok (.goto 4, 3) := by decide +kernel
theorem dX7_look_22 : decode cX7_look 22 = .ok (.iconst 0, 1) := by decide +kernel
theorem dX7_look_23 : decode cX7_look 23 = .ok (.istore_n 2, 1) := by decide +kernel
theorem dX7_look_24 : decode cX7_look 24 = .ok (.iload_n 2, 1) := by decide +kernel
theorem dX7_look_25 : decode cX7_look 25 = .ok (.aload_n 0, 1) := by decide +kernel
theorem dX7_look_26 : decode cX7_look 26 = .ok (.iload_n 1, 1) := by decide +kernel
theorem dX7_look_27 : decode cX7_look 27 = .ok (.invokevirtual 69, 3) := by decide +kernel
theorem dX7_look_30 : decode cX7_look 30 = .ok (.if_icmp .eq 17, 3) := by decide +kernel
theorem dX7_look_33 : decode cX7_look 33 = .ok (.aload_n 0, 1) := by decide +kernel
theorem dX7_look_34 : decode cX7_look 34 = .ok (.iload_n 1, 1) := by decide +kernel
theorem dX7_look_35 : decode cX7_look 35 = .ok (.iload_n 2, 1) := by decide +kernel
theorem dX7_look_36 : decode cX7_look 36 = .ok (.ifCond .eq 7, 3) := by decide +kernel
theorem dX7_look_39 : decode cX7_look 39 = .ok (.iconst 1, 1) := by decide +kernel
theorem dX7_look_40 : decode cX7_look 40 = .ok (.goto 4, 3) := by decide +kernel
theorem dX7_look_43 : decode cX7_look 43 = .ok (.iconst 0, 1) := by decide +kernel
theorem dX7_look_44 : decode cX7_look 44 = .ok (.invokevirtual 72, 3) := by decide +kernel
theorem dX7_look_47 : decode cX7_look 47 = .ok (.return_, 1) := by decide +kernel
theorem dX7_hold_0 : decode cX7_hold 0 = .ok (.aload_n 0, 1) := by decide +kernel
theorem dX7_hold_1 : decode cX7_hold 1 = .ok (.iload_n 1, 1) := by decide +kernel
theorem dX7_hold_2 : decode cX7_hold 2 = .ok (.invokevirtual 57, 3) := by decide +kernel
theorem dX7_hold_5 : decode cX7_hold 5 = .ok (.ifCond .ne 5, 3) := by decide +kernel
theorem dX7_hold_8 : decode cX7_hold 8 = .ok (.iconst (-1), 1) := by decide +kernel
theorem dX7_hold_9 : decode cX7_hold 9 = .ok (.ireturn, 1) := by decide +kernel
theorem dX7_hold_10 : decode cX7_hold 10 = .ok (.iload_n 2, 1) := by decide +kernel
theorem dX7_hold_11 : decode cX7_hold 11 = .ok (.iconst 0, 1) := by decide +kernel
theorem dX7_hold_12 : decode cX7_hold 12 = .ok (.iconst 3, 1) := by decide +kernel
theorem dX7_hold_13 : decode cX7_hold 13 = .ok (.invokestatic 40, 3) := by decide +kernel
theorem dX7_hold_16 : decode cX7_hold 16 = .ok (.ifCond .eq 12, 3) := by decide +kernel
theorem dX7_hold_19 : decode cX7_hold 19 = .ok (.iload_n 3, 1) := by decide +kernel
theorem dX7_hold_20 : decode cX7_hold 20 = .ok (.iconst 0, 1) := by decide +kernel
theorem dX7_hold_21 : decode cX7_hold 21 = .ok (.iconst 1, 1) := by decide +kernel
theorem dX7_hold_22 : decode cX7_hold 22 = .ok (.invokestatic 40, 3) := by decide +kernel
theorem dX7_hold_25 : decode cX7_hold 25 = .ok (.ifCond .ne 6, 3) := by decide +kernel
theorem dX7_hold_28 : decode cX7_hold 28 = .ok (.bipush (-2), 2) := by decide +kernel
theorem dX7_hold_30 : decode cX7_hold 30 = .ok (.ireturn, 1) := by decide +kernel
theorem dX7_hold_31 : decode cX7_hold 31 = .ok (.aload_n 0, 1) := by decide +kernel
theorem dX7_hold_32 : decode cX7_hold 32 = .ok (.iload_n 1, 1) := by decide +kernel
theorem dX7_hold_33 : decode cX7_hold 33 = .ok (.iconst 3, 1) := by decide +kernel
theorem dX7_hold_34 : decode cX7_hold 34 = .ok (.invokevirtual 61, 3) := by decide +kernel
theorem dX7_hold_37 : decode cX7_hold 37 = .ok (.ifCond .ne 6, 3) := by decide +kernel
theorem dX7_hold_40 : decode cX7_hold 40 = .ok (.bipush (-5), 2) := by decide +kernel
theorem dX7_hold_42 : decode cX7_hold 42 = .ok (.ireturn, 1) := by decide +kernel
theorem dX7_hold_43 : decode cX7_hold 43 = .ok (.aload_n 0, 1) := by decide +kernel
theorem dX7_hold_44 : decode cX7_hold 44 = .ok (.invokevirtual 51, 3) := by decide +kernel
theorem dX7_hold_47 : decode cX7_hold 47 = .ok (.aload_n 0, 1) := by decide +kernel
theorem dX7_hold_48 : decode cX7_hold 48 = .ok (.iload_n 1, 1) := by decide +kernel
theorem dX7_hold_49 : decode cX7_hold 49 = .ok (.bipush 7, 2) := by decide +kernel
theorem dX7_hold_51 : decode cX7_hold 51 = .ok (.aload_n 0, 1) := by decide +kernel
theorem dX7_hold_52 : decode cX7_hold 52 = .ok (.iload_n 1, 1) := by decide +kernel
theorem dX7_hold_53 : decode cX7_hold 53 = .ok (.bipush 7, 2) := by decide +kernel
theorem dX7_hold_55 : decode cX7_hold 55 = .ok (.invokevirtual 61, 3) := by decide +kernel
theorem dX7_hold_58 : decode cX7_hold 58 = .ok (.iconst 1, 1) := by decide +kernel
theorem dX7_hold_59 : decode cX7_hold 59 = .ok (.iload_n 2, 1) := by decide +kernel
theorem dX7_hold_60 : decode cX7_hold 60 = .ok (.ishl, 1) := by decide +kernel
theorem dX7_hold_61 : decode cX7_hold 61 = .ok (.iconst (-1), 1) := by decide +kernel
theorem dX7_hold_62 : decode cX7_hold 62 = .ok (.ixor, 1) := by decide +kernel
theorem dX7_hold_63 : decode cX7_hold 63 = .ok (.iand, 1) := by decide +kernel
theorem dX7_hold_64 : decode cX7_hold 64 = .ok (.iload_n 3, 1) := by decide +kernel
theorem dX7_hold_65 : decode cX7_hold 65 = .ok (.iload_n 2, 1) := by decide +kernel
theorem dX7_hold_66 : decode cX7_hold 66 = .ok (.ishl, 1) := by decide +kernel
theorem dX7_hold_67 : decode cX7_hold 67 = .ok (.ior, 1) := by decide +kernel
theorem dX7_hold_68 : decode cX7_hold 68 = .ok (.iconst 0, 1) := by decide +kernel
theorem dX7_hold_69 : decode cX7_hold 69 = .ok (.invokevirtual 65, 3) := by decide +kernel
theorem dX7_hold_72 : decode cX7_hold 72 = .ok (.aload_n 0, 1) := by decide +kernel
theorem dX7_hold_73 : decode cX7_hold 73 = .ok (.iload_n 1, 1) := by decide +kernel
theorem dX7_hold_74 : decode cX7_hold 74 = .ok (.invokevirtual 82, 3) := by decide +kernel
theorem dX7_hold_77 : decode cX7_hold 77 = .ok (.aload_n 0, 1) := by decide +kernel
theorem dX7_hold_78 : decode cX7_hold 78 = .ok (.iload_n 1, 1) := by decide +kernel
theorem dX7_hold_79 : decode cX7_hold 79 = .ok (.bipush 7, 2) := by decide +kernel
theorem dX7_hold_81 : decode cX7_hold 81 = .ok (.invokevirtual 61, 3) := by decide +kernel
theorem dX7_hold_84 : decode cX7_hold 84 = .ok (.ireturn, 1) := by decide +kernel
theorem dX7_mask_0 : decode cX7_mask 0 = .ok (.aload_n 0, 1) := by decide +kernel
theorem dX7_mask_1 : decode cX7_mask 1 = .ok (.iload_n 1, 1) := by decide +kernel
theorem dX7_mask_2 : decode cX7_mask 2 = .ok (.invokevirtual 57, 3) := by decide +kernel
theorem dX7_mask_5 : decode cX7_mask 5 = .ok (.ifCond .ne 5, 3) := by decide +kernel
theorem dX7_mask_8 : decode cX7_mask 8 = .ok (.iconst (-1), 1) := by decide +kernel
theorem dX7_mask_9 : decode cX7_mask 9 = .ok (.ireturn, 1) := by decide +kernel
theorem dX7_mask_10 : decode cX7_mask 10 = .ok (.iload_n 2, 1) := by decide +kernel
theorem dX7_mask_11 : decode cX7_mask 11 = .ok (.iconst 0, 1) := by decide +kernel
theorem dX7_mask_12 : decode cX7_mask 12 = .ok (.iconst 1, 1) := by decide +kernel
theorem dX7_mask_13 : decode cX7_mask 13 = .ok (.invokestatic 40, 3) := by decide +kernel
theorem dX7_mask_16 : decode cX7_mask 16 = .ok (.ifCond .ne 6, 3) := by decide +kernel
theorem dX7_mask_19 : decode cX7_mask 19 = .ok (.bipush (-2), 2) := by decide +kernel
theorem dX7_mask_21 : decode cX7_mask 21 = .ok (.ireturn, 1) := by decide +kernel
theorem dX7_mask_22 : decode cX7_mask 22 = .ok (.aload_n 0, 1) := by decide +kernel
theorem dX7_mask_23 : decode cX7_mask 23 = .ok (.invokevirtual 51, 3) := by decide +kernel
theorem dX7_mask_26 : decode cX7_mask 26 = .ok (.aload_n 0, 1) := by decide +kernel
theorem dX7_mask_27 : decode cX7_mask 27 = .ok (.iload_n 1, 1) := by decide +kernel
theorem dX7_mask_28 : decode cX7_mask 28 = .ok (.iconst 4, 1) := by decide +kernel
theorem dX7_mask_29 : decode cX7_mask 29 = .ok (.invokevirtual 61, 3) := by decide +kernel
theorem dX7_mask_32 : decode cX7_mask 32 = .ok (.istore_n 3, 1) := by decide +kernel
theorem dX7_mask_33 : decode cX7_mask 33 = .ok (.aload_n 0, 1) := by decide +kernel
theorem dX7_mask_34 : decode cX7_mask 34 = .ok (.iload_n 1, 1) := by decide +kernel
theorem dX7_mask_35 : decode cX7_mask 35 = .ok (.iconst 4, 1) := by decide +kernel
theorem dX7_mask_36 : decode cX7_mask 36 = .ok (.iload_n 2, 1) := by decide +kernel
theorem dX7_mask_37 : decode cX7_mask 37 = .ok (.iconst 0, 1) := by decide +kernel
theorem dX7_mask_38 : decode cX7_mask 38 = .ok (.invokevirtual 65, 3) := by decide +kernel
theorem dX7_mask_41 : decode cX7_mask 41 = .ok (.iload_n 3, 1) := by decide +kernel
theorem dX7_mask_42 : decode cX7_mask 42 = .ok (.ireturn, 1) := by decide +kernel
theorem dX7_change_0 : decode cX7_change 0 = .ok (.aload_n 0, 1) := by decide +kernel
theorem dX7_change_1 : decode cX7_change 1 = .ok (.iload_n 1, 1) := by decide +kernel
theorem dX7_change_2 : decode cX7_change 2 = .ok (.invokevirtual 57, 3) := by decide +kernel
theorem dX7_change_5 : decode cX7_change 5 = .ok (.ifCond .ne 5, 3) := by decide +kernel
theorem dX7_change_8 : decode cX7_change 8 = .ok (.iconst (-1), 1) := by decide +kernel
theorem dX7_change_9 : decode cX7_change 9 = .ok (.ireturn, 1) := by decide +kernel
theorem dX7_change_10 : decode cX7_change 10 = .ok (.iload_n 2, 1) := by decide +kernel
theorem dX7_change_11 : decode cX7_change 11 = .ok (.iload_n 3, 1) := by decide +kernel
theorem dX7_change_12 : decode cX7_change 12 = .ok (.iload 4, 2) := by decide +kernel
theorem dX7_change_14 : decode cX7_change 14 = .ok (.invokestatic 54, 3) := by decide +kernel
theorem dX7_change_17 : decode cX7_change 17 = .ok (.ifCond .ne 6, 3) := by decide +kernel
theorem dX7_change_20 : decode cX7_change 20 = .ok (.bipush (-2), 2) := by decide +kernel
theorem dX7_change_22 : decode cX7_change 22 = .ok (.ireturn, 1) := by decide +kernel
theorem dX7_change_23 : decode cX7_change 23 = .ok (.aload_n 0, 1) := by decide +kernel
theorem dX7_change_24 : decode cX7_change 24 = .ok (.invokevirtual 51, 3) := by decide +kernel
theorem dX7_change_27 : decode cX7_change 27 = .ok (.aload_n 0, 1) := by decide +kernel
theorem dX7_change_28 : decode cX7_change 28 = .ok (.iload_n 1, 1) := by decide +kernel
theorem dX7_change_29 : decode cX7_change 29 = .ok (.iconst 0, 1) := by decide +kernel
theorem dX7_change_30 : decode cX7_change 30 = .ok (.invokevirtual 61, 3) := by decide +kernel
theorem dX7_change_33 : decode cX7_change 33 = .ok (.istore 5, 2) := by decide +kernel
theorem dX7_change_35 : decode cX7_change 35 = .ok (.aload_n 0, 1) := by decide +kernel
theorem dX7_change_36 : decode cX7_change 36 = .ok (.iload_n 1, 1) := by decide +kernel
theorem dX7_change_37 : decode cX7_change 37 = .ok (.iconst 0, 1) := by decide +kernel
theorem dX7_change_38 : decode cX7_change 38 = .ok (.iload_n 2, 1) := by decide +kernel
theorem dX7_change_39 : decode cX7_change 39 = .ok (.iconst 0, 1) := by decide +kernel
theorem dX7_change_40 : decode cX7_change 40 = .ok (.invokevirtual 65, 3) := by decide +kernel
theorem dX7_change_43 : decode cX7_change 43 = .ok (.aload_n 0, 1) := by decide +kernel
theorem dX7_change_44 : decode cX7_change 44 = .ok (.iload_n 1, 1) := by decide +kernel
theorem dX7_change_45 : decode cX7_change 45 = .ok (.iconst 1, 1) := by decide +kernel
theorem dX7_change_46 : decode cX7_change 46 = .ok (.iload_n 3, 1) := by decide +kernel
theorem dX7_change_47 : decode cX7_change 47 = .ok (.iconst 0, 1) := by decide +kernel
theorem dX7_change_48 : decode cX7_change 48 = .ok (.invokevirtual 65, 3) := by decide +kernel
theorem dX7_change_51 : decode cX7_change 51 = .ok (.aload_n 0, 1) := by decide +kernel
theorem dX7_change_52 : decode cX7_change 52 = .ok (.iload_n 1, 1) := by decide +kernel
theorem dX7_change_53 : decode cX7_change 53 = .ok (.iconst 2, 1) := by decide +kernel
theorem dX7_change_54 : decode cX7_change 54 = .ok (.iload 4, 2) := by decide +kernel
theorem dX7_change_56 : decode cX7_change 56 = .ok (.iconst 0, 1) := by decide +kernel
theorem dX7_change_57 : decode cX7_change 57 = .ok (.invokevirtual 65, 3) := by decide +kernel
theorem dX7_change_60 : decode cX7_change 60 = .ok (.iload 5, 2) := by decide +kernel
theorem dX7_change_62 : decode cX7_change 62 = .ok (.ireturn, 1) := by decide +kernel
theorem dX7_present_0 : decode cX7_present 0 = .ok (.aload_n 0, 1) := by decide +kernel
theorem dX7_present_1 : decode cX7_present 1 = .ok (.iload_n 1, 1) := by decide +kernel
theorem dX7_present_2 : decode cX7_present 2 = .ok (.iconst 0, 1) := by decide +kernel
theorem dX7_present_3 : decode cX7_present 3 = .ok (.invokevirtual 61, 3) := by decide +kernel
theorem dX7_present_6 : decode cX7_present 6 = .ok (.istore_n 2, 1) := by decide +kernel
theorem dX7_present_7 : decode cX7_present 7 = .ok (.aload_n 0, 1) := by decide +kernel
theorem dX7_present_8 : decode cX7_present 8 = .ok (.iload_n 1, 1) := by decide +kernel
theorem dX7_present_9 : decode cX7_present 9 = .ok (.invokevirtual 69, 3) := by decide +kernel
theorem dX7_present_12 : decode cX7_present 12 = .ok (.ifCond .eq 22, 3) := by decide +kernel
theorem dX7_present_15 : decode cX7_present 15 = .ok (.aload_n 0, 1) := by decide +kernel
theorem dX7_present_16 : decode cX7_present 16 = .ok (.getfield 7, 3) := by decide +kernel
theorem dX7_present_19 : decode cX7_present 19 = .ok (.iconst 0, 1) := by decide +kernel
theorem dX7_present_20 : decode cX7_present 20 = .ok (.iaload, 1) := by decide +kernel
theorem dX7_present_21 : decode cX7_present 21 = .ok (.ifCond .eq 13, 3) := by decide +kernel
theorem dX7_present_24 : decode cX7_present 24 = .ok (.iload_n 2, 1) := by decide +kernel
theorem dX7_present_25 : decode cX7_present 25 = .ok (.aload_n 0, 1) := by decide +kernel
theorem dX7_present_26 : decode cX7_present 26 = .ok (.getfield 7, 3) := by decide +kernel
theorem dX7_present_29 : decode cX7_present 29 = .ok (.iconst 1, 1) := by decide +kernel
theorem dX7_present_30 : decode cX7_present 30 = .ok (.iaload, 1) := by decide +kernel
theorem dX7_present_31 : decode cX7_present 31 = .ok (.if_icmp .lt 5, 3) := by decide +kernel
theorem dX7_present_34 : decode cX7_present 34 = .ok (.iload_n 2, 1) := by decide +kernel
theorem dX7_present_35 : decode cX7_present 35 = .ok (.ireturn, 1) := by decide +kernel
theorem dX7_present_36 : decode cX7_present 36 = .ok (.iload_n 2, 1) := by decide +kernel
theorem dX7_present_37 : decode cX7_present 37 = .ok (.aload_n 0, 1) := by decide +kernel
theorem dX7_present_38 : decode cX7_present 38 = .ok (.iload_n 1, 1) := by decide +kernel
theorem dX7_present_39 : decode cX7_present 39 = .ok (.bipush 6, 2) := by decide +kernel
theorem dX7_present_41 : decode cX7_present 41 = .ok (.invokevirtual 61, 3) := by decide +kernel
theorem dX7_present_44 : decode cX7_present 44 = .ok (.aload_n 0, 1) := by decide +kernel
theorem dX7_present_45 : decode cX7_present 45 = .ok (.getfield 7, 3) := by decide +kernel
theorem dX7_present_48 : decode cX7_present 48 = .ok (.iconst 0, 1) := by decide +kernel
theorem dX7_present_49 : decode cX7_present 49 = .ok (.iaload, 1) := by decide +kernel
theorem dX7_present_50 : decode cX7_present 50 = .ok (.idiv, 1) := by decide +kernel
theorem dX7_present_51 : decode cX7_present 51 = .ok (.iadd, 1) := by decide +kernel
theorem dX7_present_52 : decode cX7_present 52 = .ok (.istore_n 3, 1) := by decide +kernel
theorem dX7_present_53 : decode cX7_present 53 = .ok (.iload_n 3, 1) := by decide +kernel
theorem dX7_present_54 : decode cX7_present 54 = .ok (.aload_n 0, 1) := by decide +kernel
theorem dX7_present_55 : decode cX7_present 55 = .ok (.getfield 7, 3) := by decide +kernel
theorem dX7_present_58 : decode cX7_present 58 = .ok (.iconst 1, 1) := by decide +kernel
theorem dX7_present_59 : decode cX7_present 59 = .ok (.iaload, 1) := by decide +kernel
theorem dX7_present_60 : decode cX7_present 60 = .ok (.if_icmp .le 12, 3) := by decide +kernel
theorem dX7_present_63 : decode cX7_present 63 = .ok (.aload_n 0, 1) := by decide +kernel
theorem dX7_present_64 : decode cX7_present 64 = .ok (.getfield 7, 3) := by decide +kernel
theorem dX7_present_67 : decode cX7_present 67 = .ok (.iconst 1, 1) := by decide +kernel
theorem dX7_present_68 : decode cX7_present 68 = .ok (.iaload, 1) := by decide +kernel
theorem dX7_present_69 : decode cX7_present 69 = .ok (.goto 4, 3) := by decide +kernel
theorem dX7_present_72 : decode cX7_present 72 = .ok (.iload_n 3, 1) := by decide +kernel
theorem dX7_present_73 : decode cX7_present 73 = .ok (.ireturn, 1) := by decide +kernel
theorem dX7_found_0 : decode cX7_found 0 = .ok (.bipush (-6), 2) := by decide +kernel
theorem dX7_found_2 : decode cX7_found 2 = .ok (.istore_n 1, 1) := by decide +kernel
theorem dX7_found_3 : decode cX7_found 3 = .ok (.iconst 0, 1) := by decide +kernel
theorem dX7_found_4 : decode cX7_found 4 = .ok (.istore_n 2, 1) := by decide +kernel
theorem dX7_found_5 : decode cX7_found 5 = .ok (.iload_n 2, 1) := by decide +kernel
theorem dX7_found_6 : decode cX7_found 6 = .ok (.aload_n 0, 1) := by decide +kernel
theorem dX7_found_7 : decode cX7_found 7 = .ok (.getfield 7, 3) := by decide +kernel
theorem dX7_found_10 : decode cX7_found 10 = .ok (.bipush 8, 2) := by decide +kernel
theorem dX7_found_12 : decode cX7_found 12 = .ok (.iaload, 1) := by decide +kernel
theorem dX7_found_13 : decode cX7_found 13 = .ok (.if_icmp .ge 112, 3) := by decide +kernel
theorem dX7_found_16 : decode cX7_found 16 = .ok (.aload_n 0, 1) := by decide +kernel
theorem dX7_found_17 : decode cX7_found 17 = .ok (.iload_n 2, 1) := by decide +kernel
theorem dX7_found_18 : decode cX7_found 18 = .ok (.invokevirtual 69, 3) := by decide +kernel
theorem dX7_found_21 : decode cX7_found 21 = .ok (.ifCond .eq 98, 3) := by decide +kernel
theorem dX7_found_24 : decode cX7_found 24 = .ok (.aload_n 0, 1) := by decide +kernel
theorem dX7_found_25 : decode cX7_found 25 = .ok (.iload_n 2, 1) := by decide +kernel
theorem dX7_found_26 : decode cX7_found 26 = .ok (.invokevirtual 79, 3) := by decide +kernel
theorem dX7_found_29 : decode cX7_found 29 = .ok (.ifCond .ge 90, 3) := by decide +kernel
theorem dX7_found_32 : decode cX7_found 32 = .ok (.aload_n 0, 1) := by decide +kernel
theorem dX7_found_33 : decode cX7_found 33 = .ok (.iload_n 2, 1) := by decide +kernel
theorem dX7_found_34 : decode cX7_found 34 = .ok (.iconst 4, 1) := by decide +kernel
theorem dX7_found_35 : decode cX7_found 35 = .ok (.invokevirtual 61, 3) := by decide +kernel
theorem dX7_found_38 : decode cX7_found 38 = .ok (.ifCond .ne 81, 3) := by decide +kernel
theorem dX7_found_41 : decode cX7_found 41 = .ok (.aload_n 0, 1) := by decide +kernel
theorem dX7_found_42 : decode cX7_found 42 = .ok (.iload_n 2, 1) := by decide +kernel
theorem dX7_found_43 : decode cX7_found 43 = .ok (.invokevirtual 86, 3) := by decide +kernel
theorem dX7_found_46 : decode cX7_found 46 = .ok (.aload_n 0, 1) := by decide +kernel
theorem dX7_found_47 : decode cX7_found 47 = .ok (.getfield 7, 3) := by decide +kernel
theorem dX7_found_50 : decode cX7_found 50 = .ok (.bipush 6, 2) := by decide +kernel
theorem dX7_found_52 : decode cX7_found 52 = .ok (.iaload, 1) := by decide +kernel
theorem dX7_found_53 : decode cX7_found 53 = .ok (.if_icmp .lt 66, 3) := by decide +kernel
theorem dX7_found_56 : decode cX7_found 56 = .ok (.iload_n 1, 1) := by decide +kernel
theorem dX7_found_57 : decode cX7_found 57 = .ok (.ifCond .lt 46, 3) := by decide +kernel
theorem dX7_found_60 : decode cX7_found 60 = .ok (.aload_n 0, 1) := by decide +kernel
theorem dX7_found_61 : decode cX7_found 61 = .ok (.iload_n 2, 1) := by decide +kernel
theorem dX7_found_62 : decode cX7_found 62 = .ok (.invokevirtual 86, 3) := by decide +kernel
theorem dX7_found_65 : decode cX7_found 65 = .ok (.aload_n 0, 1) := by decide +kernel
theorem dX7_found_66 : decode cX7_found 66 = .ok (.iload_n 1, 1) := by decide +kernel
theorem dX7_found_67 : decode cX7_found 67 = .ok (.invokevirtual 86, 3) := by decide +kernel
theorem dX7_found_70 : decode cX7_found 70 = .ok (.if_icmp .gt 33, 3) := by decide +kernel
theorem dX7_found_73 : decode cX7_found 73 = .ok (.aload_n 0, 1) := by decide +kernel
theorem dX7_found_74 : decode cX7_found 74 = .ok (.iload_n 2, 1) := by decide +kernel
theorem dX7_found_75 : decode cX7_found 75 = .ok (.invokevirtual 86, 3) := by decide +kernel
theorem dX7_found_78 : decode cX7_found 78 = .ok (.aload_n 0, 1) := by decide +kernel
theorem dX7_found_79 : decode cX7_found 79 = .ok (.iload_n 1, 1) := by decide +kernel
theorem dX7_found_80 : decode cX7_found 80 = .ok (.invokevirtual 86, 3) := by decide +kernel
theorem dX7_found_83 : decode cX7_found 83 = .ok (.if_icmp .ne 24, 3) := by decide +kernel
theorem dX7_found_86 : decode cX7_found 86 = .ok (.aload_n 0, 1) := by decide +kernel
theorem dX7_found_87 : decode cX7_found 87 = .ok (.iload_n 2, 1) := by decide +kernel
theorem dX7_found_88 : decode cX7_found 88 = .ok (.bipush 6, 2) := by decide +kernel
theorem dX7_found_90 : decode cX7_found 90 = .ok (.invokevirtual 61, 3) := by decide +kernel
theorem dX7_found_93 : decode cX7_found 93 = .ok (.aload_n 0, 1) := by decide +kernel
theorem dX7_found_94 : decode cX7_found 94 = .ok (.iload_n 1, 1) := by decide +kernel
theorem dX7_found_95 : decode cX7_found 95 = .ok (.bipush 6, 2) := by decide +kernel
theorem dX7_found_97 : decode cX7_found 97 = .ok (.invokevirtual 61, 3) := by decide +kernel
theorem dX7_found_100 : decode cX7_found 100 = .ok (.if_icmp .le 7, 3) := by decide +kernel
theorem dX7_found_103 : decode cX7_found 103 = .ok (.iconst 1, 1) := by decide +kernel
theorem dX7_found_104 : decode cX7_found 104 = .ok (.goto 4, 3) := by decide +kernel
theorem dX7_found_107 : decode cX7_found 107 = .ok (.iconst 0, 1) := by decide +kernel
theorem dX7_found_108 : decode cX7_found 108 = .ok (.istore_n 3, 1) := by decide +kernel
theorem dX7_found_109 : decode cX7_found 109 = .ok (.iload_n 3, 1) := by decide +kernel
theorem dX7_found_110 : decode cX7_found 110 = .ok (.ifCond .eq 7, 3) := by decide +kernel
theorem dX7_found_113 : decode cX7_found 113 = .ok (.iload_n 2, 1) := by decide +kernel
theorem dX7_found_114 : decode cX7_found 114 = .ok (.goto 4, 3) := by decide +kernel
theorem dX7_found_117 : decode cX7_found 117 = .ok (.iload_n 1, 1) := by decide +kernel
theorem dX7_found_118 : decode cX7_found 118 = .ok (.istore_n 1, 1) := by decide +kernel
theorem dX7_found_119 : decode cX7_found 119 = .ok (.iinc 2 1, 3) := by decide +kernel
theorem dX7_found_122 : decode cX7_found 122 = .ok (.goto (-117), 3) := by decide +kernel
theorem dX7_found_125 : decode cX7_found 125 = .ok (.iload_n 1, 1) := by decide +kernel
theorem dX7_found_126 : decode cX7_found 126 = .ok (.ireturn, 1) := by decide +kernel
theorem dX7_begin_0 : decode cX7_begin 0 = .ok (.aload_n 0, 1) := by decide +kernel
theorem dX7_begin_1 : decode cX7_begin 1 = .ok (.iload_n 1, 1) := by decide +kernel
theorem dX7_begin_2 : decode cX7_begin 2 = .ok (.bipush 6, 2) := by decide +kernel
theorem dX7_begin_4 : decode cX7_begin 4 = .ok (.invokevirtual 61, 3) := by decide +kernel
theorem dX7_begin_7 : decode cX7_begin 7 = .ok (.istore_n 2, 1) := by decide +kernel
theorem dX7_begin_8 : decode cX7_begin 8 = .ok (.sipush 220, 3) := by decide +kernel
theorem dX7_begin_11 : decode cX7_begin 11 = .ok (.iconst 4, 1) := by decide +kernel
theorem dX7_begin_12 : decode cX7_begin 12 = .ok (.aload_n 0, 1) := by decide +kernel
theorem dX7_begin_13 : decode cX7_begin 13 = .ok (.getfield 7, 3) := by decide +kernel
theorem dX7_begin_16 : decode cX7_begin 16 = .ok (.bipush 10, 2) := by decide +kernel
theorem dX7_begin_18 : decode cX7_begin 18 = .ok (.iaload, 1) := by decide +kernel
theorem dX7_begin_19 : decode cX7_begin 19 = .ok (.imul, 1) := by decide +kernel
theorem dX7_begin_20 : decode cX7_begin 20 = .ok (.iadd, 1) := by decide +kernel
theorem dX7_begin_21 : decode cX7_begin 21 = .ok (.istore_n 3, 1) := by decide +kernel
theorem dX7_begin_22 : decode cX7_begin 22 = .ok (.aload_n 0, 1) := by decide +kernel
theorem dX7_begin_23 : decode cX7_begin 23 = .ok (.getfield 7, 3) := by decide +kernel
theorem dX7_begin_26 : decode cX7_begin 26 = .ok (.iload_n 3, 1) := by decide +kernel
theorem dX7_begin_27 : decode cX7_begin 27 = .ok (.iload_n 1, 1) := by decide +kernel
theorem dX7_begin_28 : decode cX7_begin 28 = .ok (.iastore, 1) := by decide +kernel
theorem dX7_begin_29 : decode cX7_begin 29 = .ok (.aload_n 0, 1) := by decide +kernel
theorem dX7_begin_30 : decode cX7_begin 30 = .ok (.getfield 7, 3) := by decide +kernel
theorem dX7_begin_33 : decode cX7_begin 33 = .ok (.iload_n 3, 1) := by decide +kernel
theorem dX7_begin_34 : decode cX7_begin 34 = .ok (.iconst 1, 1) := by decide +kernel
theorem dX7_begin_35 : decode cX7_begin 35 = .ok (.iadd, 1) := by decide +kernel
theorem dX7_begin_36 : decode cX7_begin 36 = .ok (.aload_n 0, 1) := by decide +kernel
theorem dX7_begin_37 : decode cX7_begin 37 = .ok (.iload_n 1, 1) := by decide +kernel
theorem dX7_begin_38 : decode cX7_begin 38 = .ok (.invokevirtual 86, 3) := by decide +kernel
theorem dX7_begin_41 : decode cX7_begin 41 = .ok (.iastore, 1) := by decide +kernel
theorem dX7_begin_42 : decode cX7_begin 42 = .ok (.aload_n 0, 1) := by decide +kernel
theorem dX7_begin_43 : decode cX7_begin 43 = .ok (.getfield 7, 3) := by decide +kernel
theorem dX7_begin_46 : decode cX7_begin 46 = .ok (.iload_n 3, 1) := by decide +kernel
theorem dX7_begin_47 : decode cX7_begin 47 = .ok (.iconst 2, 1) := by decide +kernel
theorem dX7_begin_48 : decode cX7_begin 48 = .ok (.iadd, 1) := by decide +kernel
theorem dX7_begin_49 : decode cX7_begin 49 = .ok (.aload_n 0, 1) := by decide +kernel
theorem dX7_begin_50 : decode cX7_begin 50 = .ok (.iload_n 1, 1) := by decide +kernel
theorem dX7_begin_51 : decode cX7_begin 51 = .ok (.iconst 1, 1) := by decide +kernel
theorem dX7_begin_52 : decode cX7_begin 52 = .ok (.invokevirtual 61, 3) := by decide +kernel
theorem dX7_begin_55 : decode cX7_begin 55 = .ok (.aload_n 0, 1) := by decide +kernel
theorem dX7_begin_56 : decode cX7_begin 56 = .ok (.getfield 7, 3) := by decide +kernel
theorem dX7_begin_59 : decode cX7_begin 59 = .ok (.iconst 4, 1) := by decide +kernel
theorem dX7_begin_60 : decode cX7_begin 60 = .ok (.iaload, 1) := by decide +kernel
theorem dX7_begin_61 : decode cX7_begin 61 = .ok (.iadd, 1) := by decide +kernel
theorem dX7_begin_62 : decode cX7_begin 62 = .ok (.iastore, 1) := by decide +kernel
theorem dX7_begin_63 : decode cX7_begin 63 = .ok (.aload_n 0, 1) := by decide +kernel
theorem dX7_begin_64 : decode cX7_begin 64 = .ok (.getfield 7, 3) := by decide +kernel
theorem dX7_begin_67 : decode cX7_begin 67 = .ok (.iload_n 3, 1) := by decide +kernel
theorem dX7_begin_68 : decode cX7_begin 68 = .ok (.iconst 3, 1) := by decide +kernel
theorem dX7_begin_69 : decode cX7_begin 69 = .ok (.iadd, 1) := by decide +kernel
theorem dX7_begin_70 : decode cX7_begin 70 = .ok (.aload_n 0, 1) := by decide +kernel
theorem dX7_begin_71 : decode cX7_begin 71 = .ok (.getfield 7, 3) := by decide +kernel
theorem dX7_begin_74 : decode cX7_begin 74 = .ok (.bipush 7, 2) := by decide +kernel
theorem dX7_begin_76 : decode cX7_begin 76 = .ok (.iaload, 1) := by decide +kernel
theorem dX7_begin_77 : decode cX7_begin 77 = .ok (.iastore, 1) := by decide +kernel
theorem dX7_begin_78 : decode cX7_begin 78 = .ok (.aload_n 0, 1) := by decide +kernel
theorem dX7_begin_79 : decode cX7_begin 79 = .ok (.getfield 7, 3) := by decide +kernel
theorem dX7_begin_82 : decode cX7_begin 82 = .ok (.bipush 13, 2) := by decide +kernel
theorem dX7_begin_84 : decode cX7_begin 84 = .ok (.dup2, 1) := by decide +kernel
theorem dX7_begin_85 : decode cX7_begin 85 = .ok (.iaload, 1) := by decide +kernel
theorem dX7_begin_86 : decode cX7_begin 86 = .ok (.aload_n 0, 1) := by decide +kernel
theorem dX7_begin_87 : decode cX7_begin 87 = .ok (.getfield 7, 3) := by decide +kernel
theorem dX7_begin_90 : decode cX7_begin 90 = .ok (.bipush 10, 2) := by decide +kernel
theorem dX7_begin_92 : decode cX7_begin 92 = .ok (.iaload, 1) := by decide +kernel
theorem dX7_begin_93 : decode cX7_begin 93 = .ok (.ifCond .le 7, 3) := by decide +kernel
theorem dX7_begin_96 : decode cX7_begin 96 = .ok (.iconst 1, 1) := by decide +kernel
theorem dX7_begin_97 : decode cX7_begin 97 = .ok (.goto 4, 3) := by decide +kernel
theorem dX7_begin_100 : decode cX7_begin 100 = .ok (.iconst 0, 1) := by decide +kernel
theorem dX7_begin_101 : decode cX7_begin 101 = .ok (.iadd, 1) := by decide +kernel
theorem dX7_begin_102 : decode cX7_begin 102 = .ok (.iastore, 1) := by decide +kernel
theorem dX7_begin_103 : decode cX7_begin 103 = .ok (.aload_n 0, 1) := by decide +kernel
theorem dX7_begin_104 : decode cX7_begin 104 = .ok (.getfield 7, 3) := by decide +kernel
theorem dX7_begin_107 : decode cX7_begin 107 = .ok (.bipush 10, 2) := by decide +kernel
theorem dX7_begin_109 : decode cX7_begin 109 = .ok (.dup2, 1) := by decide +kernel
theorem dX7_begin_110 : decode cX7_begin 110 = .ok (.iaload, 1) := by decide +kernel
theorem dX7_begin_111 : decode cX7_begin 111 = .ok (.iconst 1, 1) := by decide +kernel
theorem dX7_begin_112 : decode cX7_begin 112 = .ok (.iadd, 1) := by decide +kernel
theorem dX7_begin_113 : decode cX7_begin 113 = .ok (.iastore, 1) := by decide +kernel
theorem dX7_begin_114 : decode cX7_begin 114 = .ok (.aload_n 0, 1) := by decide +kernel
theorem dX7_begin_115 : decode cX7_begin 115 = .ok (.getfield 7, 3) := by decide +kernel
theorem dX7_begin_118 : decode cX7_begin 118 = .ok (.bipush 12, 2) := by decide +kernel
theorem dX7_begin_120 : decode cX7_begin 120 = .ok (.aload_n 0, 1) := by decide +kernel
theorem dX7_begin_121 : decode cX7_begin 121 = .ok (.getfield 7, 3) := by decide +kernel
theorem dX7_begin_124 : decode cX7_begin 124 = .ok (.bipush 10, 2) := by decide +kernel
theorem dX7_begin_126 : decode cX7_begin 126 = .ok (.iaload, 1) := by decide +kernel
theorem dX7_begin_127 : decode cX7_begin 127 = .ok (.aload_n 0, 1) := by decide +kernel
theorem dX7_begin_128 : decode cX7_begin 128 = .ok (.getfield 7, 3) := by decide +kernel
theorem dX7_begin_131 : decode cX7_begin 131 = .ok (.bipush 12, 2) := by decide +kernel
theorem dX7_begin_133 : decode cX7_begin 133 = .ok (.iaload, 1) := by decide +kernel
theorem dX7_begin_134 : decode cX7_begin 134 = .ok (.if_icmp .le 13, 3) := by decide +kernel
theorem dX7_begin_137 : decode cX7_begin 137 = .ok (.aload_n 0, 1) := by decide +kernel
theorem dX7_begin_138 : decode cX7_begin 138 = .ok (.getfield 7, 3) := by decide +kernel
theorem dX7_begin_141 : decode cX7_begin 141 = .ok (.bipush 10, 2) := by decide +kernel
theorem dX7_begin_143 : decode cX7_begin 143 = .ok (.iaload, 1) := by decide +kernel
theorem dX7_begin_144 : decode cX7_begin 144 = .ok (.goto 10, 3) := by decide +kernel
theorem dX7_begin_147 : decode cX7_begin 147 = .ok (.aload_n 0, 1) := by decide +kernel
theorem dX7_begin_148 : decode cX7_begin 148 = .ok (.getfield 7, 3) := by decide +kernel
theorem dX7_begin_151 : decode cX7_begin 151 = .ok (.bipush 12, 2) := by decide +kernel
theorem dX7_begin_153 : decode cX7_begin 153 = .ok (.iaload, 1) := by decide +kernel
theorem dX7_begin_154 : decode cX7_begin 154 = .ok (.iastore, 1) := by decide +kernel
theorem dX7_begin_155 : decode cX7_begin 155 = .ok (.aload_n 0, 1) := by decide +kernel
theorem dX7_begin_156 : decode cX7_begin 156 = .ok (.iload_n 1, 1) := by decide +kernel
theorem dX7_begin_157 : decode cX7_begin 157 = .ok (.bipush 10, 2) := by decide +kernel
theorem dX7_begin_159 : decode cX7_begin 159 = .ok (.iconst 1, 1) := by decide +kernel
theorem dX7_begin_160 : decode cX7_begin 160 = .ok (.iconst 1, 1) := by decide +kernel
theorem dX7_begin_161 : decode cX7_begin 161 = .ok (.invokevirtual 65, 3) := by decide +kernel
theorem dX7_begin_164 : decode cX7_begin 164 = .ok (.aload_n 0, 1) := by decide +kernel
theorem dX7_begin_165 : decode cX7_begin 165 = .ok (.iload_n 1, 1) := by decide +kernel
theorem dX7_begin_166 : decode cX7_begin 166 = .ok (.bipush 13, 2) := by decide +kernel
theorem dX7_begin_168 : decode cX7_begin 168 = .ok (.iload_n 2, 1) := by decide +kernel
theorem dX7_begin_169 : decode cX7_begin 169 = .ok (.iconst 1, 1) := by decide +kernel
theorem dX7_begin_170 : decode cX7_begin 170 = .ok (.invokevirtual 65, 3) := by decide +kernel
theorem dX7_begin_173 : decode cX7_begin 173 = .ok (.aload_n 0, 1) := by decide +kernel
theorem dX7_begin_174 : decode cX7_begin 174 = .ok (.iload_n 1, 1) := by decide +kernel
theorem dX7_begin_175 : decode cX7_begin 175 = .ok (.bipush 12, 2) := by decide +kernel
theorem dX7_begin_177 : decode cX7_begin 177 = .ok (.iload_n 2, 1) := by decide +kernel
theorem dX7_begin_178 : decode cX7_begin 178 = .ok (.aload_n 0, 1) := by decide +kernel
theorem dX7_begin_179 : decode cX7_begin 179 = .ok (.iload_n 1, 1) := by decide +kernel
theorem dX7_begin_180 : decode cX7_begin 180 = .ok (.bipush 12, 2) := by decide +kernel
theorem dX7_begin_182 : decode cX7_begin 182 = .ok (.invokevirtual 61, 3) := by decide +kernel
theorem dX7_begin_185 : decode cX7_begin 185 = .ok (.if_icmp .le 7, 3) := by decide +kernel
theorem dX7_begin_188 : decode cX7_begin 188 = .ok (.iload_n 2, 1) := by decide +kernel
theorem dX7_begin_189 : decode cX7_begin 189 = .ok (.goto 10, 3) := by decide +kernel
theorem dX7_begin_192 : decode cX7_begin 192 = .ok (.aload_n 0, 1) := by decide +kernel
theorem dX7_begin_193 : decode cX7_begin 193 = .ok (.iload_n 1, 1) := by decide +kernel
theorem dX7_begin_194 : decode cX7_begin 194 = .ok (.bipush 12, 2) := by decide +kernel
theorem dX7_begin_196 : decode cX7_begin 196 = .ok (.invokevirtual 61, 3) := by decide +kernel
theorem dX7_begin_199 : decode cX7_begin 199 = .ok (.iconst 0, 1) := by decide +kernel
theorem dX7_begin_200 : decode cX7_begin 200 = .ok (.invokevirtual 65, 3) := by decide +kernel
theorem dX7_begin_203 : decode cX7_begin 203 = .ok (.aload_n 0, 1) := by decide +kernel
theorem dX7_begin_204 : decode cX7_begin 204 = .ok (.iload_n 1, 1) := by decide +kernel
theorem dX7_begin_205 : decode cX7_begin 205 = .ok (.bipush 14, 2) := by decide +kernel
theorem dX7_begin_207 : decode cX7_begin 207 = .ok (.aload_n 0, 1) := by decide +kernel
theorem dX7_begin_208 : decode cX7_begin 208 = .ok (.iload_n 1, 1) := by decide +kernel
theorem dX7_begin_209 : decode cX7_begin 209 = .ok (.iconst 2, 1) := by decide +kernel
theorem dX7_begin_210 : decode cX7_begin 210 = .ok (.invokevirtual 61, 3) := by decide +kernel
theorem dX7_begin_213 : decode cX7_begin 213 = .ok (.ifCond .le 17, 3) := by decide +kernel
theorem dX7_begin_216 : decode cX7_begin 216 = .ok (.iload_n 2, 1) := by decide +kernel
theorem dX7_begin_217 : decode cX7_begin 217 = .ok (.aload_n 0, 1) := by decide +kernel
theorem dX7_begin_218 : decode cX7_begin 218 = .ok (.iload_n 1, 1) := by decide +kernel
theorem dX7_begin_219 : decode cX7_begin 219 = .ok (.iconst 2, 1) := by decide +kernel
theorem dX7_begin_220 : decode cX7_begin 220 = .ok (.invokevirtual 61, 3) := by decide +kernel
theorem dX7_begin_223 : decode cX7_begin 223 = .ok (.if_icmp .le 7, 3) := by decide +kernel
theorem dX7_begin_226 : decode cX7_begin 226 = .ok (.iconst 1, 1) := by decide +kernel
theorem dX7_begin_227 : decode cX7_begin 227 = .ok (.goto 4, 3) := by decide +kernel
theorem dX7_begin_230 : decode cX7_begin 230 = .ok (.iconst 0, 1) := by decide +kernel
theorem dX7_begin_231 : decode cX7_begin 231 = .ok (.iconst 1, 1) := by decide +kernel
theorem dX7_begin_232 : decode cX7_begin 232 = .ok (.invokevirtual 65, 3) := by decide +kernel
theorem dX7_begin_235 : decode cX7_begin 235 = .ok (.aload_n 0, 1) := by decide +kernel
theorem dX7_begin_236 : decode cX7_begin 236 = .ok (.iload_n 1, 1) := by decide +kernel
theorem dX7_begin_237 : decode cX7_begin 237 = .ok (.iconst 0, 1) := by decide +kernel
theorem dX7_begin_238 : decode cX7_begin 238 = .ok (.invokevirtual 72, 3) := by decide +kernel
theorem dX7_begin_241 : decode cX7_begin 241 = .ok (.return_, 1) := by decide +kernel
theorem dX7_end_0 : decode cX7_end 0 = .ok (.aload_n 0, 1) := by decide +kernel
theorem dX7_end_1 : decode cX7_end 1 = .ok (.getfield 7, 3) := by decide +kernel
theorem dX7_end_4 : decode cX7_end 4 = .ok (.bipush 10, 2) := by decide +kernel
theorem dX7_end_6 : decode cX7_end 6 = .ok (.dup2, 1) := by decide +kernel
theorem dX7_end_7 : decode cX7_end 7 = .ok (.iaload, 1) := by decide +kernel
theorem dX7_end_8 : decode cX7_end 8 = .ok (.iconst 1, 1) := by decide +kernel
theorem dX7_end_9 : decode cX7_end 9 = .ok (.isub, 1) := by decide +kernel
theorem dX7_end_10 : decode cX7_end 10 = .ok (.iastore, 1) := by decide +kernel
theorem dX7_end_11 : decode cX7_end 11 = .ok (.aload_n 0, 1) := by decide +kernel
theorem dX7_end_12 : decode cX7_end 12 = .ok (.iload_n 1, 1) := by decide +kernel
theorem dX7_end_13 : decode cX7_end 13 = .ok (.bipush 11, 2) := by decide +kernel
theorem dX7_end_15 : decode cX7_end 15 = .ok (.iconst 1, 1) := by decide +kernel
theorem dX7_end_16 : decode cX7_end 16 = .ok (.iconst 1, 1) := by decide +kernel
theorem dX7_end_17 : decode cX7_end 17 = .ok (.invokevirtual 65, 3) := by decide +kernel
theorem dX7_end_20 : decode cX7_end 20 = .ok (.aload_n 0, 1) := by decide +kernel
theorem dX7_end_21 : decode cX7_end 21 = .ok (.iload_n 1, 1) := by decide +kernel
theorem dX7_end_22 : decode cX7_end 22 = .ok (.iconst 3, 1) := by decide +kernel
theorem dX7_end_23 : decode cX7_end 23 = .ok (.invokevirtual 61, 3) := by decide +kernel
theorem dX7_end_26 : decode cX7_end 26 = .ok (.iconst 1, 1) := by decide +kernel
theorem dX7_end_27 : decode cX7_end 27 = .ok (.if_icmp .ne 29, 3) := by decide +kernel
theorem dX7_end_30 : decode cX7_end 30 = .ok (.aload_n 0, 1) := by decide +kernel
theorem dX7_end_31 : decode cX7_end 31 = .ok (.iload_n 1, 1) := by decide +kernel
theorem dX7_end_32 : decode cX7_end 32 = .ok (.bipush 7, 2) := by decide +kernel
theorem dX7_end_34 : decode cX7_end 34 = .ok (.invokevirtual 61, 3) := by decide +kernel
theorem dX7_end_37 : decode cX7_end 37 = .ok (.istore_n 2, 1) := by decide +kernel
theorem dX7_end_38 : decode cX7_end 38 = .ok (.aload_n 0, 1) := by decide +kernel
theorem dX7_end_39 : decode cX7_end 39 = .ok (.iload_n 1, 1) := by decide +kernel
theorem dX7_end_40 : decode cX7_end 40 = .ok (.bipush 7, 2) := by decide +kernel
theorem dX7_end_42 : decode cX7_end 42 = .ok (.iload_n 2, 1) := by decide +kernel
theorem dX7_end_43 : decode cX7_end 43 = .ok (.iload_n 2, 1) := by decide +kernel
theorem dX7_end_44 : decode cX7_end 44 = .ok (.iconst 1, 1) := by decide +kernel
theorem dX7_end_45 : decode cX7_end 45 = .ok (.isub, 1) := by decide +kernel
theorem dX7_end_46 : decode cX7_end 46 = .ok (.iand, 1) := by decide +kernel
theorem dX7_end_47 : decode cX7_end 47 = .ok (.iconst 0, 1) := by decide +kernel
theorem dX7_end_48 : decode cX7_end 48 = .ok (.invokevirtual 65, 3) := by decide +kernel
theorem dX7_end_51 : decode cX7_end 51 = .ok (.aload_n 0, 1) := by decide +kernel
theorem dX7_end_52 : decode cX7_end 52 = .ok (.iload_n 1, 1) := by decide +kernel
theorem dX7_end_53 : decode cX7_end 53 = .ok (.invokevirtual 82, 3) := by decide +kernel
theorem dX7_end_56 : decode cX7_end 56 = .ok (.return_, 1) := by decide +kernel
theorem dX7_pass_0 : decode cX7_pass 0 = .ok (.sipush 260, 3) := by decide +kernel
theorem dX7_pass_3 : decode cX7_pass 3 = .ok (.istore_n 1, 1) := by decide +kernel
theorem dX7_pass_4 : decode cX7_pass 4 = .ok (.iload_n 1, 1) := by decide +kernel
theorem dX7_pass_5 : decode cX7_pass 5 = .ok (.sipush 260, 3) := by decide +kernel
theorem dX7_pass_8 : decode cX7_pass 8 = .ok (.iconst 3, 1) := by decide +kernel
theorem dX7_pass_9 : decode cX7_pass 9 = .ok (.aload_n 0, 1) := by decide +kernel
theorem dX7_pass_10 : decode cX7_pass 10 = .ok (.getfield 7, 3) := by decide +kernel
theorem dX7_pass_13 : decode cX7_pass 13 = .ok (.bipush 9, 2) := by decide +kernel
theorem dX7_pass_15 : decode cX7_pass 15 = .ok (.iaload, 1) := by decide +kernel
theorem dX7_pass_16 : decode cX7_pass 16 = .ok (.imul, 1) := by decide +kernel
theorem dX7_pass_17 : decode cX7_pass 17 = .ok (.iadd, 1) := by decide +kernel
theorem dX7_pass_18 : decode cX7_pass 18 = .ok (.if_icmp .ge 57, 3) := by decide +kernel
theorem dX7_pass_21 : decode cX7_pass 21 = .ok (.aload_n 0, 1) := by decide +kernel
theorem dX7_pass_22 : decode cX7_pass 22 = .ok (.getfield 7, 3) := by decide +kernel
theorem dX7_pass_25 : decode cX7_pass 25 = .ok (.iload_n 1, 1) := by decide +kernel
theorem dX7_pass_26 : decode cX7_pass 26 = .ok (.iconst 2, 1) := by decide +kernel
theorem dX7_pass_27 : decode cX7_pass 27 = .ok (.iadd, 1) := by decide +kernel
theorem dX7_pass_28 : decode cX7_pass 28 = .ok (.iaload, 1) := by decide +kernel
theorem dX7_pass_29 : decode cX7_pass 29 = .ok (.aload_n 0, 1) := by decide +kernel
theorem dX7_pass_30 : decode cX7_pass 30 = .ok (.getfield 7, 3) := by decide +kernel
theorem dX7_pass_33 : decode cX7_pass 33 = .ok (.bipush 7, 2) := by decide +kernel
theorem dX7_pass_35 : decode cX7_pass 35 = .ok (.iaload, 1) := by decide +kernel
theorem dX7_pass_36 : decode cX7_pass 36 = .ok (.if_icmp .gt 33, 3) := by decide +kernel
theorem dX7_pass_39 : decode cX7_pass 39 = .ok (.aload_n 0, 1) := by decide +kernel
theorem dX7_pass_40 : decode cX7_pass 40 = .ok (.aload_n 0, 1) := by decide +kernel
theorem dX7_pass_41 : decode cX7_pass 41 = .ok (.getfield 7, 3) := by decide +kernel
theorem dX7_pass_44 : decode cX7_pass 44 = .ok (.iload_n 1, 1) := by decide +kernel
theorem dX7_pass_45 : decode cX7_pass 45 = .ok (.iaload, 1) := by decide +kernel
theorem dX7_pass_46 : decode cX7_pass 46 = .ok (.invokevirtual 76, 3) := by decide +kernel
theorem dX7_pass_49 : decode cX7_pass 49 = .ok (.pop, 1) := by decide +kernel
theorem dX7_pass_50 : decode cX7_pass 50 = .ok (.aload_n 0, 1) := by decide +kernel
theorem dX7_pass_51 : decode cX7_pass 51 = .ok (.getfield 7, 3) := by decide +kernel
theorem dX7_pass_54 : decode cX7_pass 54 = .ok (.iload_n 1, 1) := by decide +kernel
theorem dX7_pass_55 : decode cX7_pass 55 = .ok (.iconst 2, 1) := by decide +kernel
theorem dX7_pass_56 : decode cX7_pass 56 = .ok (.iadd, 1) := by decide +kernel
theorem dX7_pass_57 : decode cX7_pass 57 = .ok (.dup2, 1) := by decide +kernel
theorem dX7_pass_58 : decode cX7_pass 58 = .ok (.iaload, 1) := by decide +kernel
theorem dX7_pass_59 : decode cX7_pass 59 = .ok (.aload_n 0, 1) := by decide +kernel
theorem dX7_pass_60 : decode cX7_pass 60 = .ok (.getfield 7, 3) := by decide +kernel
theorem dX7_pass_63 : decode cX7_pass 63 = .ok (.iload_n 1, 1) := by decide +kernel
theorem dX7_pass_64 : decode cX7_pass 64 = .ok (.iconst 1, 1) := by decide +kernel
theorem dX7_pass_65 : decode cX7_pass 65 = .ok (.iadd, 1) := by decide +kernel
theorem dX7_pass_66 : decode cX7_pass 66 = .ok (.iaload, 1) := by decide +kernel
theorem dX7_pass_67 : decode cX7_pass 67 = .ok (.iadd, 1) := by decide +kernel
theorem dX7_pass_68 : decode cX7_pass 68 = .ok (.iastore, 1) := by decide +kernel
theorem dX7_pass_69 : decode cX7_pass 69 = .ok (.iinc 1 3, 3) := by decide +kernel
theorem dX7_pass_72 : decode cX7_pass 72 = .ok (.goto (-68), 3) := by decide +kernel
theorem dX7_pass_75 : decode cX7_pass 75 = .ok (.aload_n 0, 1) := by decide +kernel
theorem dX7_pass_76 : decode cX7_pass 76 = .ok (.invokevirtual 89, 3) := by decide +kernel
theorem dX7_pass_79 : decode cX7_pass 79 = .ok (.istore_n 1, 1) := by decide +kernel
theorem dX7_pass_80 : decode cX7_pass 80 = .ok (.iload_n 1, 1) := by decide +kernel
theorem dX7_pass_81 : decode cX7_pass 81 = .ok (.ifCond .lt 23, 3) := by decide +kernel
theorem dX7_pass_84 : decode cX7_pass 84 = .ok (.aload_n 0, 1) := by decide +kernel
theorem dX7_pass_85 : decode cX7_pass 85 = .ok (.getfield 7, 3) := by decide +kernel
theorem dX7_pass_88 : decode cX7_pass 88 = .ok (.bipush 10, 2) := by decide +kernel
theorem dX7_pass_90 : decode cX7_pass 90 = .ok (.iaload, 1) := by decide +kernel
theorem dX7_pass_91 : decode cX7_pass 91 = .ok (.aload_n 0, 1) := by decide +kernel
theorem dX7_pass_92 : decode cX7_pass 92 = .ok (.getfield 7, 3) := by decide +kernel
theorem dX7_pass_95 : decode cX7_pass 95 = .ok (.iconst 3, 1) := by decide +kernel
theorem dX7_pass_96 : decode cX7_pass 96 = .ok (.iaload, 1) := by decide +kernel
theorem dX7_pass_97 : decode cX7_pass 97 = .ok (.if_icmp .ge 7, 3) := by decide +kernel
theorem dX7_pass_100 : decode cX7_pass 100 = .ok (.iconst 1, 1) := by decide +kernel
theorem dX7_pass_101 : decode cX7_pass 101 = .ok (.goto 4, 3) := by decide +kernel
theorem dX7_pass_104 : decode cX7_pass 104 = .ok (.iconst 0, 1) := by decide +kernel
theorem dX7_pass_105 : decode cX7_pass 105 = .ok (.istore_n 2, 1) := by decide +kernel
theorem dX7_pass_106 : decode cX7_pass 106 = .ok (.iload_n 2, 1) := by decide +kernel
theorem dX7_pass_107 : decode cX7_pass 107 = .ok (.ifCond .eq 53, 3) := by decide +kernel
theorem dX7_pass_110 : decode cX7_pass 110 = .ok (.aload_n 0, 1) := by decide +kernel
theorem dX7_pass_111 : decode cX7_pass 111 = .ok (.getfield 7, 3) := by decide +kernel
theorem dX7_pass_114 : decode cX7_pass 114 = .ok (.bipush 10, 2) := by decide +kernel
theorem dX7_pass_116 : decode cX7_pass 116 = .ok (.iaload, 1) := by decide +kernel
theorem dX7_pass_117 : decode cX7_pass 117 = .ok (.ifCond .eq 38, 3) := by decide +kernel
theorem dX7_pass_120 : decode cX7_pass 120 = .ok (.aload_n 0, 1) := by decide +kernel
theorem dX7_pass_121 : decode cX7_pass 121 = .ok (.iload_n 1, 1) := by decide +kernel
theorem dX7_pass_122 : decode cX7_pass 122 = .ok (.invokevirtual 86, 3) := by decide +kernel
theorem dX7_pass_125 : decode cX7_pass 125 = .ok (.aload_n 0, 1) := by decide +kernel
theorem dX7_pass_126 : decode cX7_pass 126 = .ok (.getfield 7, 3) := by decide +kernel
theorem dX7_pass_129 : decode cX7_pass 129 = .ok (.sipush 220, 3) := by decide +kernel
theorem dX7_pass_132 : decode cX7_pass 132 = .ok (.iconst 4, 1) := by decide +kernel
theorem dX7_pass_133 : decode cX7_pass 133 = .ok (.aload_n 0, 1) := by decide +kernel
theorem dX7_pass_134 : decode cX7_pass 134 = .ok (.getfield 7, 3) := by decide +kernel
theorem dX7_pass_137 : decode cX7_pass 137 = .ok (.bipush 10, 2) := by decide +kernel
theorem dX7_pass_139 : decode cX7_pass 139 = .ok (.iaload, 1) := by decide +kernel
theorem dX7_pass_140 : decode cX7_pass 140 = .ok (.imul, 1) := by decide +kernel
theorem dX7_pass_141 : decode cX7_pass 141 = .ok (.iadd, 1) := by decide +kernel
theorem dX7_pass_142 : decode cX7_pass 142 = .ok (.iconst 3, 1) := by decide +kernel
theorem dX7_pass_143 : decode cX7_pass 143 = .ok (.isub, 1) := by decide +kernel
theorem dX7_pass_144 : decode cX7_pass 144 = .ok (.iaload, 1) := by decide +kernel
theorem dX7_pass_145 : decode cX7_pass 145 = .ok (.aload_n 0, 1) := by decide +kernel
theorem dX7_pass_146 : decode cX7_pass 146 = .ok (.getfield 7, 3) := by decide +kernel
theorem dX7_pass_149 : decode cX7_pass 149 = .ok (.iconst 2, 1) := by decide +kernel
theorem dX7_pass_150 : decode cX7_pass 150 = .ok (.iaload, 1) := by decide +kernel
theorem dX7_pass_151 : decode cX7_pass 151 = .ok (.iadd, 1) := by decide +kernel
theorem dX7_pass_152 : decode cX7_pass 152 = .ok (.if_icmp .lt 8, 3) := by decide +kernel
theorem dX7_pass_155 : decode cX7_pass 155 = .ok (.aload_n 0, 1) := by decide +kernel
theorem dX7_pass_156 : decode cX7_pass 156 = .ok (.iload_n 1, 1) := by decide +kernel
theorem dX7_pass_157 : decode cX7_pass 157 = .ok (.invokevirtual 93, 3) := by decide +kernel
theorem dX7_pass_160 : decode cX7_pass 160 = .ok (.aload_n 0, 1) := by decide +kernel
theorem dX7_pass_161 : decode cX7_pass 161 = .ok (.getfield 7, 3) := by decide +kernel
theorem dX7_pass_164 : decode cX7_pass 164 = .ok (.bipush 10, 2) := by decide +kernel
theorem dX7_pass_166 : decode cX7_pass 166 = .ok (.iaload, 1) := by decide +kernel
theorem dX7_pass_167 : decode cX7_pass 167 = .ok (.ifCond .le 63, 3) := by decide +kernel
theorem dX7_pass_170 : decode cX7_pass 170 = .ok (.sipush 220, 3) := by decide +kernel
theorem dX7_pass_173 : decode cX7_pass 173 = .ok (.iconst 4, 1) := by decide +kernel
theorem dX7_pass_174 : decode cX7_pass 174 = .ok (.aload_n 0, 1) := by decide +kernel
theorem dX7_pass_175 : decode cX7_pass 175 = .ok (.getfield 7, 3) := by decide +kernel
theorem dX7_pass_178 : decode cX7_pass 178 = .ok (.bipush 10, 2) := by decide +kernel
theorem dX7_pass_180 : decode cX7_pass 180 = .ok (.iaload, 1) := by decide +kernel
theorem dX7_pass_181 : decode cX7_pass 181 = .ok (.imul, 1) := by decide +kernel
theorem dX7_pass_182 : decode cX7_pass 182 = .ok (.iadd, 1) := by decide +kernel
theorem dX7_pass_183 : decode cX7_pass 183 = .ok (.iconst 4, 1) := by decide +kernel
theorem dX7_pass_184 : decode cX7_pass 184 = .ok (.isub, 1) := by decide +kernel
theorem dX7_pass_185 : decode cX7_pass 185 = .ok (.istore_n 3, 1) := by decide +kernel
theorem dX7_pass_186 : decode cX7_pass 186 = .ok (.aload_n 0, 1) := by decide +kernel
theorem dX7_pass_187 : decode cX7_pass 187 = .ok (.getfield 7, 3) := by decide +kernel
theorem dX7_pass_190 : decode cX7_pass 190 = .ok (.iload_n 3, 1) := by decide +kernel
theorem dX7_pass_191 : decode cX7_pass 191 = .ok (.iconst 2, 1) := by decide +kernel
theorem dX7_pass_192 : decode cX7_pass 192 = .ok (.iadd, 1) := by decide +kernel
theorem dX7_pass_193 : decode cX7_pass 193 = .ok (.dup2, 1) := by decide +kernel
theorem dX7_pass_194 : decode cX7_pass 194 = .ok (.iaload, 1) := by decide +kernel
theorem dX7_pass_195 : decode cX7_pass 195 = .ok (.iconst 1, 1) := by decide +kernel
theorem dX7_pass_196 : decode cX7_pass 196 = .ok (.isub, 1) := by decide +kernel
theorem dX7_pass_197 : decode cX7_pass 197 = .ok (.iastore, 1) := by decide +kernel
theorem dX7_pass_198 : decode cX7_pass 198 = .ok (.aload_n 0, 1) := by decide +kernel
theorem dX7_pass_199 : decode cX7_pass 199 = .ok (.getfield 7, 3) := by decide +kernel
theorem dX7_pass_202 : decode cX7_pass 202 = .ok (.bipush 11, 2) := by decide +kernel
theorem dX7_pass_204 : decode cX7_pass 204 = .ok (.dup2, 1) := by decide +kernel
theorem dX7_pass_205 : decode cX7_pass 205 = .ok (.iaload, 1) := by decide +kernel
theorem dX7_pass_206 : decode cX7_pass 206 = .ok (.iconst 1, 1) := by decide +kernel
theorem dX7_pass_207 : decode cX7_pass 207 = .ok (.iadd, 1) := by decide +kernel
theorem dX7_pass_208 : decode cX7_pass 208 = .ok (.iastore, 1) := by decide +kernel
theorem dX7_pass_209 : decode cX7_pass 209 = .ok (.aload_n 0, 1) := by decide +kernel
theorem dX7_pass_210 : decode cX7_pass 210 = .ok (.getfield 7, 3) := by decide +kernel
theorem dX7_pass_213 : decode cX7_pass 213 = .ok (.iload_n 3, 1) := by decide +kernel
theorem dX7_pass_214 : decode cX7_pass 214 = .ok (.iconst 2, 1) := by decide +kernel
theorem dX7_pass_215 : decode cX7_pass 215 = .ok (.iadd, 1) := by decide +kernel
theorem dX7_pass_216 : decode cX7_pass 216 = .ok (.iaload, 1) := by decide +kernel
theorem dX7_pass_217 : decode cX7_pass 217 = .ok (.ifCond .ne 13, 3) := by decide +kernel
theorem dX7_pass_220 : decode cX7_pass 220 = .ok (.aload_n 0, 1) := by decide +kernel
theorem dX7_pass_221 : decode cX7_pass 221 = .ok (.aload_n 0, 1) := by decide +kernel
theorem dX7_pass_222 : decode cX7_pass 222 = .ok (.getfield 7, 3) := by decide +kernel
theorem dX7_pass_225 : decode cX7_pass 225 = .ok (.iload_n 3, 1) := by decide +kernel
theorem dX7_pass_226 : decode cX7_pass 226 = .ok (.iaload, 1) := by decide +kernel
theorem dX7_pass_227 : decode cX7_pass 227 = .ok (.invokevirtual 96, 3) := by decide +kernel
theorem dX7_pass_230 : decode cX7_pass 230 = .ok (.iconst 0, 1) := by decide +kernel
theorem dX7_pass_231 : decode cX7_pass 231 = .ok (.istore_n 3, 1) := by decide +kernel
theorem dX7_pass_232 : decode cX7_pass 232 = .ok (.iload_n 3, 1) := by decide +kernel
theorem dX7_pass_233 : decode cX7_pass 233 = .ok (.aload_n 0, 1) := by decide +kernel
theorem dX7_pass_234 : decode cX7_pass 234 = .ok (.getfield 7, 3) := by decide +kernel
theorem dX7_pass_237 : decode cX7_pass 237 = .ok (.bipush 8, 2) := by decide +kernel
theorem dX7_pass_239 : decode cX7_pass 239 = .ok (.iaload, 1) := by decide +kernel
theorem dX7_pass_240 : decode cX7_pass 240 = .ok (.if_icmp .ge 30, 3) := by decide +kernel
theorem dX7_pass_243 : decode cX7_pass 243 = .ok (.aload_n 0, 1) := by decide +kernel
theorem dX7_pass_244 : decode cX7_pass 244 = .ok (.iload_n 3, 1) := by decide +kernel
theorem dX7_pass_245 : decode cX7_pass 245 = .ok (.bipush 6, 2) := by decide +kernel
theorem dX7_pass_247 : decode cX7_pass 247 = .ok (.aload_n 0, 1) := by decide +kernel
theorem dX7_pass_248 : decode cX7_pass 248 = .ok (.iload_n 3, 1) := by decide +kernel
theorem dX7_pass_249 : decode cX7_pass 249 = .ok (.invokevirtual 69, 3) := by decide +kernel
theorem dX7_pass_252 : decode cX7_pass 252 = .ok (.ifCond .eq 7, 3) := by decide +kernel
theorem dX7_pass_255 : decode cX7_pass 255 = .ok (.iconst 1, 1) := by decide +kernel
theorem dX7_pass_256 : decode cX7_pass 256 = .ok (.goto 4, 3) := by decide +kernel
theorem dX7_pass_259 : decode cX7_pass 259 = .ok (.iconst 0, 1) := by decide +kernel
theorem dX7_pass_260 : decode cX7_pass 260 = .ok (.iconst 1, 1) := by decide +kernel
theorem dX7_pass_261 : decode cX7_pass 261 = .ok (.invokevirtual 65, 3) := by decide +kernel
theorem dX7_pass_264 : decode cX7_pass 264 = .ok (.iinc 3 1, 3) := by decide +kernel
theorem dX7_pass_267 : decode cX7_pass 267 = .ok (.goto (-35), 3) := by decide +kernel
theorem dX7_pass_270 : decode cX7_pass 270 = .ok (.aload_n 0, 1) := by decide +kernel
theorem dX7_pass_271 : decode cX7_pass 271 = .ok (.getfield 7, 3) := by decide +kernel
theorem dX7_pass_274 : decode cX7_pass 274 = .ok (.bipush 7, 2) := by decide +kernel
theorem dX7_pass_276 : decode cX7_pass 276 = .ok (.dup2, 1) := by decide +kernel
theorem dX7_pass_277 : decode cX7_pass 277 = .ok (.iaload, 1) := by decide +kernel
theorem dX7_pass_278 : decode cX7_pass 278 = .ok (.iconst 1, 1) := by decide +kernel
theorem dX7_pass_279 : decode cX7_pass 279 = .ok (.iadd, 1) := by decide +kernel
theorem dX7_pass_280 : decode cX7_pass 280 = .ok (.iastore, 1) := by decide +kernel
theorem dX7_pass_281 : decode cX7_pass 281 = .ok (.return_, 1) := by decide +kernel
theorem dX7_ticks_0 : decode cX7_ticks 0 = .ok (.iload_n 1, 1) := by decide +kernel
theorem dX7_ticks_1 : decode cX7_ticks 1 = .ok (.iconst 1, 1) := by decide +kernel
theorem dX7_ticks_2 : decode cX7_ticks 2 = .ok (.sipush 500, 3) := by decide +kernel
theorem dX7_ticks_5 : decode cX7_ticks 5 = .ok (.invokestatic 40, 3) := by decide +kernel
theorem dX7_ticks_8 : decode cX7_ticks 8 = .ok (.ifCond .ne 6, 3) := by decide +kernel
theorem dX7_ticks_11 : decode cX7_ticks 11 = .ok (.bipush (-2), 2) := by decide +kernel
theorem dX7_ticks_13 : decode cX7_ticks 13 = .ok (.ireturn, 1) := by decide +kernel
theorem dX7_ticks_14 : decode cX7_ticks 14 = .ok (.aload_n 0, 1) := by decide +kernel
theorem dX7_ticks_15 : decode cX7_ticks 15 = .ok (.invokevirtual 51, 3) := by decide +kernel
theorem dX7_ticks_18 : decode cX7_ticks 18 = .ok (.iconst 0, 1) := by decide +kernel
theorem dX7_ticks_19 : decode cX7_ticks 19 = .ok (.istore_n 2, 1) := by decide +kernel
theorem dX7_ticks_20 : decode cX7_ticks 20 = .ok (.iload_n 2, 1) := by decide +kernel
theorem dX7_ticks_21 : decode cX7_ticks 21 = .ok (.iload_n 1, 1) := by decide +kernel
theorem dX7_ticks_22 : decode cX7_ticks 22 = .ok (.if_icmp .ge 13, 3) := by decide +kernel
theorem dX7_ticks_25 : decode cX7_ticks 25 = .ok (.aload_n 0, 1) := by decide +kernel
theorem dX7_ticks_26 : decode cX7_ticks 26 = .ok (.invokevirtual 99, 3) := by decide +kernel
theorem dX7_ticks_29 : decode cX7_ticks 29 = .ok (.iinc 2 1, 3) := by decide +kernel
theorem dX7_ticks_32 : decode cX7_ticks 32 = .ok (.goto (-12), 3) := by decide +kernel
theorem dX7_ticks_35 : decode cX7_ticks 35 = .ok (.aload_n 0, 1) := by decide +kernel
theorem dX7_ticks_36 : decode cX7_ticks 36 = .ok (.getfield 7, 3) := by decide +kernel
theorem dX7_ticks_39 : decode cX7_ticks 39 = .ok (.bipush 7, 2) := by decide +kernel
theorem dX7_ticks_41 : decode cX7_ticks 41 = .ok (.iaload, 1) := by decide +kernel
theorem dX7_ticks_42 : decode cX7_ticks 42 = .ok (.ireturn, 1) := by decide +kernel
theorem dX7_ofLine_0 : decode cX7_ofLine 0 = .ok (.aload_n 0, 1) := by decide +kernel
theorem dX7_ofLine_1 : decode cX7_ofLine 1 = .ok (.iload_n 1, 1) := by decide +kernel
theorem dX7_ofLine_2 : decode cX7_ofLine 2 = .ok (.invokevirtual 57, 3) := by decide +kernel
theorem dX7_ofLine_5 : decode cX7_ofLine 5 = .ok (.ifCond .ne 5, 3) := by decide +kernel
theorem dX7_ofLine_8 : decode cX7_ofLine 8 = .ok (.iconst (-1), 1) := by decide +kernel
theorem dX7_ofLine_9 : decode cX7_ofLine 9 = .ok (.ireturn, 1) := by decide +kernel
theorem dX7_ofLine_10 : decode cX7_ofLine 10 = .ok (.iload_n 2, 1) := by decide +kernel
theorem dX7_ofLine_11 : decode cX7_ofLine 11 = .ok (.tableswitch 58 6 8 #[25, 46, 52], 25) := by decide +kernel
theorem dX7_ofLine_36 : decode cX7_ofLine 36 = .ok (.aload_n 0, 1) := by decide +kernel
theorem dX7_ofLine_37 : decode cX7_ofLine 37 = .ok (.iload_n 1, 1) := by decide +kernel
theorem dX7_ofLine_38 : decode cX7_ofLine 38 = .ok (.invokevirtual 69, 3) := by decide +kernel
theorem dX7_ofLine_41 : decode cX7_ofLine 41 = .ok (.ifCond .eq 13, 3) := by decide +kernel
theorem dX7_ofLine_44 : decode cX7_ofLine 44 = .ok (.aload_n 0, 1) := by decide +kernel
theorem dX7_ofLine_45 : decode cX7_ofLine 45 = .ok (.iload_n 1, 1) := by decide +kernel
theorem dX7_ofLine_46 : decode cX7_ofLine 46 = .ok (.bipush 6, 2) := by decide +kernel
theorem dX7_ofLine_48 : decode cX7_ofLine 48 = .ok (.invokevirtual 61, 3) := by decide +kernel
theorem dX7_ofLine_51 : decode cX7_ofLine 51 = .ok (.goto 5, 3) := by decide +kernel
theorem dX7_ofLine_54 : decode cX7_ofLine 54 = .ok (.bipush (-6), 2) := by decide +kernel
theorem dX7_ofLine_56 : decode cX7_ofLine 56 = .ok (.ireturn, 1) := by decide +kernel
theorem dX7_ofLine_57 : decode cX7_ofLine 57 = .ok (.aload_n 0, 1) := by decide +kernel
theorem dX7_ofLine_58 : decode cX7_ofLine 58 = .ok (.iload_n 1, 1) := by decide +kernel
theorem dX7_ofLine_59 : decode cX7_ofLine 59 = .ok (.invokevirtual 86, 3) := by decide +kernel
theorem dX7_ofLine_62 : decode cX7_ofLine 62 = .ok (.ireturn, 1) := by decide +kernel
theorem dX7_ofLine_63 : decode cX7_ofLine 63 = .ok (.aload_n 0, 1) := by decide +kernel
theorem dX7_ofLine_64 : decode cX7_ofLine 64 = .ok (.iload_n 1, 1) := by decide +kernel
theorem dX7_ofLine_65 : decode cX7_ofLine 65 = .ok (.invokevirtual 79, 3) := by decide +kernel
theorem dX7_ofLine_68 : decode cX7_ofLine 68 = .ok (.ireturn, 1) := by decide +kernel
theorem dX7_ofLine_69 : decode cX7_ofLine 69 = .ok (.iload_n 2, 1) := by decide +kernel
theorem dX7_ofLine_70 : decode cX7_ofLine 70 = .ok (.iconst 0, 1) := by decide +kernel
theorem dX7_ofLine_71 : decode cX7_ofLine 71 = .ok (.iconst 5, 1) := by decide +kernel
theorem dX7_ofLine_72 : decode cX7_ofLine 72 = .ok (.invokestatic 40, 3) := by decide +kernel
theorem dX7_ofLine_75 : decode cX7_ofLine 75 = .ok (.ifCond .eq 12, 3) := by decide +kernel
theorem dX7_ofLine_78 : decode cX7_ofLine 78 = .ok (.aload_n 0, 1) := by decide +kernel
theorem dX7_ofLine_79 : decode cX7_ofLine 79 = .ok (.iload_n 1, 1) := by decide +kernel
theorem dX7_ofLine_80 : decode cX7_ofLine 80 = .ok (.iload_n 2, 1) := by decide +kernel
theorem dX7_ofLine_81 : decode cX7_ofLine 81 = .ok (.invokevirtual 61, 3) := by decide +kernel
theorem dX7_ofLine_84 : decode cX7_ofLine 84 = .ok (.goto 27, 3) := by decide +kernel
theorem dX7_ofLine_87 : decode cX7_ofLine 87 = .ok (.iload_n 2, 1) := by decide +kernel
theorem dX7_ofLine_88 : decode cX7_ofLine 88 = .ok (.bipush 9, 2) := by decide +kernel
theorem dX7_ofLine_90 : decode cX7_ofLine 90 = .ok (.bipush 16, 2) := by decide +kernel
theorem dX7_ofLine_92 : decode cX7_ofLine 92 = .ok (.invokestatic 40, 3) := by decide +kernel
theorem dX7_ofLine_95 : decode cX7_ofLine 95 = .ok (.ifCond .eq 14, 3) := by decide +kernel
theorem dX7_ofLine_98 : decode cX7_ofLine 98 = .ok (.aload_n 0, 1) := by decide +kernel
theorem dX7_ofLine_99 : decode cX7_ofLine 99 = .ok (.iload_n 1, 1) := by decide +kernel
theorem dX7_ofLine_100 : decode cX7_ofLine 100 = .ok (.iload_n 2, 1) := by decide +kernel
theorem dX7_ofLine_101 : decode cX7_ofLine 101 = .ok (.iconst 2, 1) := by decide +kernel
theorem dX7_ofLine_102 : decode cX7_ofLine 102 = .ok (.isub, 1) := by decide +kernel
theorem dX7_ofLine_103 : decode cX7_ofLine 103 = .ok (.invokevirtual 61, 3) := by decide +kernel
theorem dX7_ofLine_106 : decode cX7_ofLine 106 = .ok (.goto 5, 3) := by decide +kernel
theorem dX7_ofLine_109 : decode cX7_ofLine 109 = .ok (.bipush (-2), 2) := by decide +kernel
theorem dX7_ofLine_111 : decode cX7_ofLine 111 = .ok (.ireturn, 1) := by decide +kernel
theorem dX7_ofNest_0 : decode cX7_ofNest 0 = .ok (.iload_n 1, 1) := by decide +kernel
theorem dX7_ofNest_1 : decode cX7_ofNest 1 = .ok (.iconst 0, 1) := by decide +kernel
theorem dX7_ofNest_2 : decode cX7_ofNest 2 = .ok (.aload_n 0, 1) := by decide +kernel
theorem dX7_ofNest_3 : decode cX7_ofNest 3 = .ok (.getfield 7, 3) := by decide +kernel
theorem dX7_ofNest_6 : decode cX7_ofNest 6 = .ok (.bipush 10, 2) := by decide +kernel
theorem dX7_ofNest_8 : decode cX7_ofNest 8 = .ok (.iaload, 1) := by decide +kernel
theorem dX7_ofNest_9 : decode cX7_ofNest 9 = .ok (.iconst 1, 1) := by decide +kernel
theorem dX7_ofNest_10 : decode cX7_ofNest 10 = .ok (.isub, 1) := by decide +kernel
theorem dX7_ofNest_11 : decode cX7_ofNest 11 = .ok (.invokestatic 40, 3) := by decide +kernel
theorem dX7_ofNest_14 : decode cX7_ofNest 14 = .ok (.ifCond .ne 5, 3) := by decide +kernel
theorem dX7_ofNest_17 : decode cX7_ofNest 17 = .ok (.iconst (-1), 1) := by decide +kernel
theorem dX7_ofNest_18 : decode cX7_ofNest 18 = .ok (.ireturn, 1) := by decide +kernel
theorem dX7_ofNest_19 : decode cX7_ofNest 19 = .ok (.iload_n 2, 1) := by decide +kernel
theorem dX7_ofNest_20 : decode cX7_ofNest 20 = .ok (.iconst 0, 1) := by decide +kernel
theorem dX7_ofNest_21 : decode cX7_ofNest 21 = .ok (.iconst 3, 1) := by decide +kernel
theorem dX7_ofNest_22 : decode cX7_ofNest 22 = .ok (.invokestatic 40, 3) := by decide +kernel
theorem dX7_ofNest_25 : decode cX7_ofNest 25 = .ok (.ifCond .eq 20, 3) := by decide +kernel
theorem dX7_ofNest_28 : decode cX7_ofNest 28 = .ok (.aload_n 0, 1) := by decide +kernel
theorem dX7_ofNest_29 : decode cX7_ofNest 29 = .ok (.getfield 7, 3) := by decide +kernel
theorem dX7_ofNest_32 : decode cX7_ofNest 32 = .ok (.sipush 220, 3) := by decide +kernel
theorem dX7_ofNest_35 : decode cX7_ofNest 35 = .ok (.iconst 4, 1) := by decide +kernel
theorem dX7_ofNest_36 : decode cX7_ofNest 36 = .ok (.iload_n 1, 1) := by decide +kernel
theorem dX7_ofNest_37 : decode cX7_ofNest 37 = .ok (.imul, 1) := by decide +kernel
theorem dX7_ofNest_38 : decode cX7_ofNest 38 = .ok (.iadd, 1) := by decide +kernel
theorem dX7_ofNest_39 : decode cX7_ofNest 39 = .ok (.iload_n 2, 1) := by decide +kernel
theorem dX7_ofNest_40 : decode cX7_ofNest 40 = .ok (.iadd, 1) := by decide +kernel
theorem dX7_ofNest_41 : decode cX7_ofNest 41 = .ok (.iaload, 1) := by decide +kernel
theorem dX7_ofNest_42 : decode cX7_ofNest 42 = .ok (.goto 5, 3) := by decide +kernel
theorem dX7_ofNest_45 : decode cX7_ofNest 45 = .ok (.bipush (-2), 2) := by decide +kernel
theorem dX7_ofNest_47 : decode cX7_ofNest 47 = .ok (.ireturn, 1) := by decide +kernel
theorem dX7_ofTimer_0 : decode cX7_ofTimer 0 = .ok (.iload_n 1, 1) := by decide +kernel
theorem dX7_ofTimer_1 : decode cX7_ofTimer 1 = .ok (.iconst 0, 1) := by decide +kernel
theorem dX7_ofTimer_2 : decode cX7_ofTimer 2 = .ok (.aload_n 0, 1) := by decide +kernel
theorem dX7_ofTimer_3 : decode cX7_ofTimer 3 = .ok (.getfield 7, 3) := by decide +kernel
theorem dX7_ofTimer_6 : decode cX7_ofTimer 6 = .ok (.bipush 9, 2) := by decide +kernel
theorem dX7_ofTimer_8 : decode cX7_ofTimer 8 = .ok (.iaload, 1) := by decide +kernel
theorem dX7_ofTimer_9 : decode cX7_ofTimer 9 = .ok (.iconst 1, 1) := by decide +kernel
theorem dX7_ofTimer_10 : decode cX7_ofTimer 10 = .ok (.isub, 1) := by decide +kernel
theorem dX7_ofTimer_11 : decode cX7_ofTimer 11 = .ok (.invokestatic 40, 3) := by decide +kernel
theorem dX7_ofTimer_14 : decode cX7_ofTimer 14 = .ok (.ifCond .ne 5, 3) := by decide +kernel
theorem dX7_ofTimer_17 : decode cX7_ofTimer 17 = .ok (.iconst (-1), 1) := by decide +kernel
theorem dX7_ofTimer_18 : decode cX7_ofTimer 18 = .ok (.ireturn, 1) := by decide +kernel
theorem dX7_ofTimer_19 : decode cX7_ofTimer 19 = .ok (.iload_n 2, 1) := by decide +kernel
theorem dX7_ofTimer_20 : decode cX7_ofTimer 20 = .ok (.iconst 0, 1) := by decide +kernel
theorem dX7_ofTimer_21 : decode cX7_ofTimer 21 = .ok (.iconst 2, 1) := by decide +kernel
theorem dX7_ofTimer_22 : decode cX7_ofTimer 22 = .ok (.invokestatic 40, 3) := by decide +kernel
theorem dX7_ofTimer_25 : decode cX7_ofTimer 25 = .ok (.ifCond .eq 20, 3) := by decide +kernel
theorem dX7_ofTimer_28 : decode cX7_ofTimer 28 = .ok (.aload_n 0, 1) := by decide +kernel
theorem dX7_ofTimer_29 : decode cX7_ofTimer 29 = .ok (.getfield 7, 3) := by decide +kernel
theorem dX7_ofTimer_32 : decode cX7_ofTimer 32 = .ok (.sipush 260, 3) := by decide +kernel
theorem dX7_ofTimer_35 : decode cX7_ofTimer 35 = .ok (.iconst 3, 1) := by decide +kernel
theorem dX7_ofTimer_36 : decode cX7_ofTimer 36 = .ok (.iload_n 1, 1) := by decide +kernel
theorem dX7_ofTimer_37 : decode cX7_ofTimer 37 = .ok (.imul, 1) := by decide +kernel
theorem dX7_ofTimer_38 : decode cX7_ofTimer 38 = .ok (.iadd, 1) := by decide +kernel
theorem dX7_ofTimer_39 : decode cX7_ofTimer 39 = .ok (.iload_n 2, 1) := by decide +kernel
theorem dX7_ofTimer_40 : decode cX7_ofTimer 40 = .ok (.iadd, 1) := by decide +kernel
theorem dX7_ofTimer_41 : decode cX7_ofTimer 41 = .ok (.iaload, 1) := by decide +kernel
theorem dX7_ofTimer_42 : decode cX7_ofTimer 42 = .ok (.goto 5, 3) := by decide +kernel
theorem dX7_ofTimer_45 : decode cX7_ofTimer 45 = .ok (.bipush (-2), 2) := by decide +kernel
theorem dX7_ofTimer_47 : decode cX7_ofTimer 47 = .ok (.ireturn, 1) := by decide +kernel
theorem dX7_misses_0 : decode cX7_misses 0 = .ok (.iconst 0, 1) := by decide +kernel
theorem dX7_misses_1 : decode cX7_misses 1 = .ok (.istore_n 1, 1) := by decide +kernel
theorem dX7_misses_2 : decode cX7_misses 2 = .ok (.iconst 0, 1) := by decide +kernel
theorem dX7_misses_3 : decode cX7_misses 3 = .ok (.istore_n 2, 1) := by decide +kernel
theorem dX7_misses_4 : decode cX7_misses 4 = .ok (.iload_n 2, 1) := by decide +kernel
theorem dX7_misses_5 : decode cX7_misses 5 = .ok (.aload_n 0, 1) := by decide +kernel
theorem dX7_misses_6 : decode cX7_misses 6 = .ok (.getfield 7, 3) := by decide +kernel
theorem dX7_misses_9 : decode cX7_misses 9 = .ok (.bipush 8, 2) := by decide +kernel
theorem dX7_misses_11 : decode cX7_misses 11 = .ok (.iaload, 1) := by decide +kernel
theorem dX7_misses_12 : decode cX7_misses 12 = .ok (.if_icmp .ge 19, 3) := by decide +kernel
theorem dX7_misses_15 : decode cX7_misses 15 = .ok (.iload_n 1, 1) := by decide +kernel
theorem dX7_misses_16 : decode cX7_misses 16 = .ok (.aload_n 0, 1) := by decide +kernel
theorem dX7_misses_17 : decode cX7_misses 17 = .ok (.iload_n 2, 1) := by decide +kernel
theorem dX7_misses_18 : decode cX7_misses 18 = .ok (.bipush 14, 2) := by decide +kernel
theorem dX7_misses_20 : decode cX7_misses 20 = .ok (.invokevirtual 61, 3) := by decide +kernel
theorem dX7_misses_23 : decode cX7_misses 23 = .ok (.iadd, 1) := by decide +kernel
theorem dX7_misses_24 : decode cX7_misses 24 = .ok (.istore_n 1, 1) := by decide +kernel
theorem dX7_misses_25 : decode cX7_misses 25 = .ok (.iinc 2 1, 3) := by decide +kernel
theorem dX7_misses_28 : decode cX7_misses 28 = .ok (.goto (-24), 3) := by decide +kernel
theorem dX7_misses_31 : decode cX7_misses 31 = .ok (.iload_n 1, 1) := by decide +kernel
theorem dX7_misses_32 : decode cX7_misses 32 = .ok (.ireturn, 1) := by decide +kernel
theorem dX7_waiting_0 : decode cX7_waiting 0 = .ok (.iconst 0, 1) := by decide +kernel
theorem dX7_waiting_1 : decode cX7_waiting 1 = .ok (.istore_n 1, 1) := by decide +kernel
theorem dX7_waiting_2 : decode cX7_waiting 2 = .ok (.iconst 0, 1) := by decide +kernel
theorem dX7_waiting_3 : decode cX7_waiting 3 = .ok (.istore_n 2, 1) := by decide +kernel
theorem dX7_waiting_4 : decode cX7_waiting 4 = .ok (.iload_n 2, 1) := by decide +kernel
theorem dX7_waiting_5 : decode cX7_waiting 5 = .ok (.aload_n 0, 1) := by decide +kernel
theorem dX7_waiting_6 : decode cX7_waiting 6 = .ok (.getfield 7, 3) := by decide +kernel
theorem dX7_waiting_9 : decode cX7_waiting 9 = .ok (.bipush 8, 2) := by decide +kernel
theorem dX7_waiting_11 : decode cX7_waiting 11 = .ok (.iaload, 1) := by decide +kernel
theorem dX7_waiting_12 : decode cX7_waiting 12 = .ok (.if_icmp .ge 27, 3) := by decide +kernel
theorem dX7_waiting_15 : decode cX7_waiting 15 = .ok (.iload_n 1, 1) := by decide +kernel
theorem dX7_waiting_16 : decode cX7_waiting 16 = .ok (.aload_n 0, 1) := by decide +kernel
theorem dX7_waiting_17 : decode cX7_waiting 17 = .ok (.iload_n 2, 1) := by decide +kernel
theorem dX7_waiting_18 : decode cX7_waiting 18 = .ok (.invokevirtual 69, 3) := by decide +kernel
theorem dX7_waiting_21 : decode cX7_waiting 21 = .ok (.ifCond .eq 9, 3) := by decide +kernel
theorem dX7_waiting_24 : decode cX7_waiting 24 = .ok (.iconst 1, 1) := by decide +kernel
theorem dX7_waiting_25 : decode cX7_waiting 25 = .ok (.iload_n 2, 1) := by decide +kernel
theorem dX7_waiting_26 : decode cX7_waiting 26 = .ok (.ishl, 1) := by decide +kernel
theorem dX7_waiting_27 : decode cX7_waiting 27 = .ok (.goto 4, 3) := by decide +kernel
theorem dX7_waiting_30 : decode cX7_waiting 30 = .ok (.iconst 0, 1) := by decide +kernel
theorem dX7_waiting_31 : decode cX7_waiting 31 = .ok (.ior, 1) := by decide +kernel
theorem dX7_waiting_32 : decode cX7_waiting 32 = .ok (.istore_n 1, 1) := by decide +kernel
theorem dX7_waiting_33 : decode cX7_waiting 33 = .ok (.iinc 2 1, 3) := by decide +kernel
theorem dX7_waiting_36 : decode cX7_waiting 36 = .ok (.goto (-32), 3) := by decide +kernel
theorem dX7_waiting_39 : decode cX7_waiting 39 = .ok (.iload_n 1, 1) := by decide +kernel
theorem dX7_waiting_40 : decode cX7_waiting 40 = .ok (.ireturn, 1) := by decide +kernel
theorem dX7_count_0 : decode cX7_count 0 = .ok (.iload_n 1, 1) := by decide +kernel
theorem dX7_count_1 : decode cX7_count 1 = .ok (.bipush 12, 2) := by decide +kernel
theorem dX7_count_3 : decode cX7_count 3 = .ok (.bipush 18, 2) := by decide +kernel
theorem dX7_count_5 : decode cX7_count 5 = .ok (.invokestatic 40, 3) := by decide +kernel
theorem dX7_count_8 : decode cX7_count 8 = .ok (.ifCond .eq 13, 3) := by decide +kernel
theorem dX7_count_11 : decode cX7_count 11 = .ok (.aload_n 0, 1) := by decide +kernel
theorem dX7_count_12 : decode cX7_count 12 = .ok (.getfield 7, 3) := by decide +kernel
theorem dX7_count_15 : decode cX7_count 15 = .ok (.iload_n 1, 1) := by decide +kernel
theorem dX7_count_16 : decode cX7_count 16 = .ok (.bipush 12, 2) := by decide +kernel
theorem dX7_count_18 : decode cX7_count 18 = .ok (.isub, 1) := by decide +kernel
theorem dX7_count_19 : decode cX7_count 19 = .ok (.iaload, 1) := by decide +kernel
theorem dX7_count_20 : decode cX7_count 20 = .ok (.ireturn, 1) := by decide +kernel
theorem dX7_count_21 : decode cX7_count 21 = .ok (.iload_n 1, 1) := by decide +kernel
theorem dX7_count_22 : decode cX7_count 22 = .ok (.tableswitch 134 0 10 #[58, 66, 74, 82, 90, 95, 100, 108, 116, 121, 129], 58) := by decide +kernel
theorem dX7_count_80 : decode cX7_count 80 = .ok (.aload_n 0, 1) := by decide +kernel
theorem dX7_count_81 : decode cX7_count 81 = .ok (.getfield 7, 3) := by decide +kernel
theorem dX7_count_84 : decode cX7_count 84 = .ok (.bipush 7, 2) := by decide +kernel
theorem dX7_count_86 : decode cX7_count 86 = .ok (.iaload, 1) := by decide +kernel
theorem dX7_count_87 : decode cX7_count 87 = .ok (.ireturn, 1) := by decide +kernel
theorem dX7_count_88 : decode cX7_count 88 = .ok (.aload_n 0, 1) := by decide +kernel
theorem dX7_count_89 : decode cX7_count 89 = .ok (.getfield 7, 3) := by decide +kernel
theorem dX7_count_92 : decode cX7_count 92 = .ok (.bipush 8, 2) := by decide +kernel
theorem dX7_count_94 : decode cX7_count 94 = .ok (.iaload, 1) := by decide +kernel
theorem dX7_count_95 : decode cX7_count 95 = .ok (.ireturn, 1) := by decide +kernel
theorem dX7_count_96 : decode cX7_count 96 = .ok (.aload_n 0, 1) := by decide +kernel
theorem dX7_count_97 : decode cX7_count 97 = .ok (.getfield 7, 3) := by decide +kernel
theorem dX7_count_100 : decode cX7_count 100 = .ok (.bipush 9, 2) := by decide +kernel
theorem dX7_count_102 : decode cX7_count 102 = .ok (.iaload, 1) := by decide +kernel
theorem dX7_count_103 : decode cX7_count 103 = .ok (.ireturn, 1) := by decide +kernel
theorem dX7_count_104 : decode cX7_count 104 = .ok (.aload_n 0, 1) := by decide +kernel
theorem dX7_count_105 : decode cX7_count 105 = .ok (.getfield 7, 3) := by decide +kernel
theorem dX7_count_108 : decode cX7_count 108 = .ok (.bipush 10, 2) := by decide +kernel
theorem dX7_count_110 : decode cX7_count 110 = .ok (.iaload, 1) := by decide +kernel
theorem dX7_count_111 : decode cX7_count 111 = .ok (.ireturn, 1) := by decide +kernel
theorem dX7_count_112 : decode cX7_count 112 = .ok (.aload_n 0, 1) := by decide +kernel
theorem dX7_count_113 : decode cX7_count 113 = .ok (.invokevirtual 102, 3) := by decide +kernel
theorem dX7_count_116 : decode cX7_count 116 = .ok (.ireturn, 1) := by decide +kernel
theorem dX7_count_117 : decode cX7_count 117 = .ok (.aload_n 0, 1) := by decide +kernel
theorem dX7_count_118 : decode cX7_count 118 = .ok (.invokevirtual 89, 3) := by decide +kernel
theorem dX7_count_121 : decode cX7_count 121 = .ok (.ireturn, 1) := by decide +kernel
theorem dX7_count_122 : decode cX7_count 122 = .ok (.aload_n 0, 1) := by decide +kernel
theorem dX7_count_123 : decode cX7_count 123 = .ok (.getfield 7, 3) := by decide +kernel
theorem dX7_count_126 : decode cX7_count 126 = .ok (.bipush 11, 2) := by decide +kernel
theorem dX7_count_128 : decode cX7_count 128 = .ok (.iaload, 1) := by decide +kernel
theorem dX7_count_129 : decode cX7_count 129 = .ok (.ireturn, 1) := by decide +kernel
theorem dX7_count_130 : decode cX7_count 130 = .ok (.aload_n 0, 1) := by decide +kernel
theorem dX7_count_131 : decode cX7_count 131 = .ok (.getfield 7, 3) := by decide +kernel
theorem dX7_count_134 : decode cX7_count 134 = .ok (.bipush 12, 2) := by decide +kernel
theorem dX7_count_136 : decode cX7_count 136 = .ok (.iaload, 1) := by decide +kernel
theorem dX7_count_137 : decode cX7_count 137 = .ok (.ireturn, 1) := by decide +kernel
theorem dX7_count_138 : decode cX7_count 138 = .ok (.aload_n 0, 1) := by decide +kernel
theorem dX7_count_139 : decode cX7_count 139 = .ok (.invokevirtual 105, 3) := by decide +kernel
theorem dX7_count_142 : decode cX7_count 142 = .ok (.ireturn, 1) := by decide +kernel
theorem dX7_count_143 : decode cX7_count 143 = .ok (.aload_n 0, 1) := by decide +kernel
theorem dX7_count_144 : decode cX7_count 144 = .ok (.getfield 7, 3) := by decide +kernel
theorem dX7_count_147 : decode cX7_count 147 = .ok (.bipush 13, 2) := by decide +kernel
theorem dX7_count_149 : decode cX7_count 149 = .ok (.iaload, 1) := by decide +kernel
theorem dX7_count_150 : decode cX7_count 150 = .ok (.ireturn, 1) := by decide +kernel
theorem dX7_count_151 : decode cX7_count 151 = .ok (.aload_n 0, 1) := by decide +kernel
theorem dX7_count_152 : decode cX7_count 152 = .ok (.getfield 108, 3) := by decide +kernel
theorem dX7_count_155 : decode cX7_count 155 = .ok (.ireturn, 1) := by decide +kernel
theorem dX7_count_156 : decode cX7_count 156 = .ok (.iload_n 1, 1) := by decide +kernel
theorem dX7_count_157 : decode cX7_count 157 = .ok (.bipush 11, 2) := by decide +kernel
theorem dX7_count_159 : decode cX7_count 159 = .ok (.if_icmp .ne 10, 3) := by decide +kernel
theorem dX7_count_162 : decode cX7_count 162 = .ok (.aload_n 0, 1) := by decide +kernel
theorem dX7_count_163 : decode cX7_count 163 = .ok (.getfield 36, 3) := by decide +kernel
theorem dX7_count_166 : decode cX7_count 166 = .ok (.goto 5, 3) := by decide +kernel
theorem dX7_count_169 : decode cX7_count 169 = .ok (.bipush (-2), 2) := by decide +kernel
theorem dX7_count_171 : decode cX7_count 171 = .ok (.ireturn, 1) := by decide +kernel
theorem dX7_beginsWithin_0 : decode cX7_beginsWithin 0 = .ok (.aload_n 0, 1) := by decide +kernel
theorem dX7_beginsWithin_1 : decode cX7_beginsWithin 1 = .ok (.iload_n 1, 1) := by decide +kernel
theorem dX7_beginsWithin_2 : decode cX7_beginsWithin 2 = .ok (.bipush 10, 2) := by decide +kernel
theorem dX7_beginsWithin_4 : decode cX7_beginsWithin 4 = .ok (.invokevirtual 61, 3) := by decide +kernel
theorem dX7_beginsWithin_7 : decode cX7_beginsWithin 7 = .ok (.istore_n 3, 1) := by decide +kernel
theorem dX7_beginsWithin_8 : decode cX7_beginsWithin 8 = .ok (.iconst 0, 1) := by decide +kernel
theorem dX7_beginsWithin_9 : decode cX7_beginsWithin 9 = .ok (.istore 4, 2) := by decide +kernel
theorem dX7_beginsWithin_11 : decode cX7_beginsWithin 11 = .ok (.iload 4, 2) := by decide +kernel
theorem dX7_beginsWithin_13 : decode cX7_beginsWithin 13 = .ok (.iload_n 2, 1) := by decide +kernel
theorem dX7_beginsWithin_14 : decode cX7_beginsWithin 14 = .ok (.if_icmp .ge 27, 3) := by decide +kernel
theorem dX7_beginsWithin_17 : decode cX7_beginsWithin 17 = .ok (.aload_n 0, 1) := by decide +kernel
theorem dX7_beginsWithin_18 : decode cX7_beginsWithin 18 = .ok (.invokevirtual 99, 3) := by decide +kernel
theorem dX7_beginsWithin_21 : decode cX7_beginsWithin 21 = .ok (.aload_n 0, 1) := by decide +kernel
theorem dX7_beginsWithin_22 : decode cX7_beginsWithin 22 = .ok (.iload_n 1, 1) := by decide +kernel
theorem dX7_beginsWithin_23 : decode cX7_beginsWithin 23 = .ok (.bipush 10, 2) := by decide +kernel
theorem dX7_beginsWithin_25 : decode cX7_beginsWithin 25 = .ok (.invokevirtual 61, 3) := by decide +kernel
theorem dX7_beginsWithin_28 : decode cX7_beginsWithin 28 = .ok (.iload_n 3, 1) := by decide +kernel
theorem dX7_beginsWithin_29 : decode cX7_beginsWithin 29 = .ok (.if_icmp .le 6, 3) := by decide +kernel
theorem dX7_beginsWithin_32 : decode cX7_beginsWithin 32 = .ok (.iload 4, 2) := by decide +kernel
theorem dX7_beginsWithin_34 : decode cX7_beginsWithin 34 = .ok (.ireturn, 1) := by decide +kernel
theorem dX7_beginsWithin_35 : decode cX7_beginsWithin 35 = .ok (.iinc 4 1, 3) := by decide +kernel
theorem dX7_beginsWithin_38 : decode cX7_beginsWithin 38 = .ok (.goto (-27), 3) := by decide +kernel
theorem dX7_beginsWithin_41 : decode cX7_beginsWithin 41 = .ok (.bipush (-6), 2) := by decide +kernel
theorem dX7_beginsWithin_43 : decode cX7_beginsWithin 43 = .ok (.ireturn, 1) := by decide +kernel
theorem dX7_beginsIn_0 : decode cX7_beginsIn 0 = .ok (.aload_n 0, 1) := by decide +kernel
theorem dX7_beginsIn_1 : decode cX7_beginsIn 1 = .ok (.iload_n 1, 1) := by decide +kernel
theorem dX7_beginsIn_2 : decode cX7_beginsIn 2 = .ok (.invokevirtual 57, 3) := by decide +kernel
theorem dX7_beginsIn_5 : decode cX7_beginsIn 5 = .ok (.ifCond .ne 5, 3) := by decide +kernel
theorem dX7_beginsIn_8 : decode cX7_beginsIn 8 = .ok (.iconst (-1), 1) := by decide +kernel
theorem dX7_beginsIn_9 : decode cX7_beginsIn 9 = .ok (.ireturn, 1) := by decide +kernel
theorem dX7_beginsIn_10 : decode cX7_beginsIn 10 = .ok (.aload_n 0, 1) := by decide +kernel
theorem dX7_beginsIn_11 : decode cX7_beginsIn 11 = .ok (.invokevirtual 111, 3) := by decide +kernel
theorem dX7_beginsIn_14 : decode cX7_beginsIn 14 = .ok (.aload_n 0, 1) := by decide +kernel
theorem dX7_beginsIn_15 : decode cX7_beginsIn 15 = .ok (.iload_n 1, 1) := by decide +kernel
theorem dX7_beginsIn_16 : decode cX7_beginsIn 16 = .ok (.sipush 600, 3) := by decide +kernel
theorem dX7_beginsIn_19 : decode cX7_beginsIn 19 = .ok (.invokevirtual 114, 3) := by decide +kernel
theorem dX7_beginsIn_22 : decode cX7_beginsIn 22 = .ok (.istore_n 2, 1) := by decide +kernel
theorem dX7_beginsIn_23 : decode cX7_beginsIn 23 = .ok (.aload_n 0, 1) := by decide +kernel
theorem dX7_beginsIn_24 : decode cX7_beginsIn 24 = .ok (.invokevirtual 117, 3) := by decide +kernel
theorem dX7_beginsIn_27 : decode cX7_beginsIn 27 = .ok (.iload_n 2, 1) := by decide +kernel
theorem dX7_beginsIn_28 : decode cX7_beginsIn 28 = .ok (.ireturn, 1) := by decide +kernel
theorem dX7_idleIn_0 : decode cX7_idleIn 0 = .ok (.aload_n 0, 1) := by decide +kernel
theorem dX7_idleIn_1 : decode cX7_idleIn 1 = .ok (.invokevirtual 111, 3) := by decide +kernel
theorem dX7_idleIn_4 : decode cX7_idleIn 4 = .ok (.iconst 0, 1) := by decide +kernel
theorem dX7_idleIn_5 : decode cX7_idleIn 5 = .ok (.istore_n 1, 1) := by decide +kernel
theorem dX7_idleIn_6 : decode cX7_idleIn 6 = .ok (.aload_n 0, 1) := by decide +kernel
theorem dX7_idleIn_7 : decode cX7_idleIn 7 = .ok (.getfield 7, 3) := by decide +kernel
theorem dX7_idleIn_10 : decode cX7_idleIn 10 = .ok (.bipush 10, 2) := by decide +kernel
theorem dX7_idleIn_12 : decode cX7_idleIn 12 = .ok (.iaload, 1) := by decide +kernel
theorem dX7_idleIn_13 : decode cX7_idleIn 13 = .ok (.ifCond .le 20, 3) := by decide +kernel
theorem dX7_idleIn_16 : decode cX7_idleIn 16 = .ok (.iload_n 1, 1) := by decide +kernel
theorem dX7_idleIn_17 : decode cX7_idleIn 17 = .ok (.sipush 600, 3) := by decide +kernel
theorem dX7_idleIn_20 : decode cX7_idleIn 20 = .ok (.if_icmp .ge 13, 3) := by decide +kernel
theorem dX7_idleIn_23 : decode cX7_idleIn 23 = .ok (.aload_n 0, 1) := by decide +kernel
theorem dX7_idleIn_24 : decode cX7_idleIn 24 = .ok (.invokevirtual 99, 3) := by decide +kernel
theorem dX7_idleIn_27 : decode cX7_idleIn 27 = .ok (.iinc 1 1, 3) := by decide +kernel
theorem dX7_idleIn_30 : decode cX7_idleIn 30 = .ok (.goto (-24), 3) := by decide +kernel
theorem dX7_idleIn_33 : decode cX7_idleIn 33 = .ok (.aload_n 0, 1) := by decide +kernel
theorem dX7_idleIn_34 : decode cX7_idleIn 34 = .ok (.getfield 7, 3) := by decide +kernel
theorem dX7_idleIn_37 : decode cX7_idleIn 37 = .ok (.bipush 10, 2) := by decide +kernel
theorem dX7_idleIn_39 : decode cX7_idleIn 39 = .ok (.iaload, 1) := by decide +kernel
theorem dX7_idleIn_40 : decode cX7_idleIn 40 = .ok (.ifCond .ne 7, 3) := by decide +kernel
theorem dX7_idleIn_43 : decode cX7_idleIn 43 = .ok (.iload_n 1, 1) := by decide +kernel
theorem dX7_idleIn_44 : decode cX7_idleIn 44 = .ok (.goto 5, 3) := by decide +kernel
theorem dX7_idleIn_47 : decode cX7_idleIn 47 = .ok (.bipush (-6), 2) := by decide +kernel
theorem dX7_idleIn_49 : decode cX7_idleIn 49 = .ok (.istore_n 2, 1) := by decide +kernel
theorem dX7_idleIn_50 : decode cX7_idleIn 50 = .ok (.aload_n 0, 1) := by decide +kernel
theorem dX7_idleIn_51 : decode cX7_idleIn 51 = .ok (.invokevirtual 117, 3) := by decide +kernel
theorem dX7_idleIn_54 : decode cX7_idleIn 54 = .ok (.iload_n 2, 1) := by decide +kernel
theorem dX7_idleIn_55 : decode cX7_idleIn 55 = .ok (.ireturn, 1) := by decide +kernel
theorem dX7_missesIn_0 : decode cX7_missesIn 0 = .ok (.iload_n 1, 1) := by decide +kernel
theorem dX7_missesIn_1 : decode cX7_missesIn 1 = .ok (.iconst 1, 1) := by decide +kernel
theorem dX7_missesIn_2 : decode cX7_missesIn 2 = .ok (.sipush 500, 3) := by decide +kernel
theorem dX7_missesIn_5 : decode cX7_missesIn 5 = .ok (.invokestatic 40, 3) := by decide +kernel
theorem dX7_missesIn_8 : decode cX7_missesIn 8 = .ok (.ifCond .ne 6, 3) := by decide +kernel
theorem dX7_missesIn_11 : decode cX7_missesIn 11 = .ok (.bipush (-2), 2) := by decide +kernel
theorem dX7_missesIn_13 : decode cX7_missesIn 13 = .ok (.ireturn, 1) := by decide +kernel
theorem dX7_missesIn_14 : decode cX7_missesIn 14 = .ok (.aload_n 0, 1) := by decide +kernel
theorem dX7_missesIn_15 : decode cX7_missesIn 15 = .ok (.invokevirtual 111, 3) := by decide +kernel
theorem dX7_missesIn_18 : decode cX7_missesIn 18 = .ok (.aload_n 0, 1) := by decide +kernel
theorem dX7_missesIn_19 : decode cX7_missesIn 19 = .ok (.invokevirtual 105, 3) := by decide +kernel
theorem dX7_missesIn_22 : decode cX7_missesIn 22 = .ok (.istore_n 2, 1) := by decide +kernel
theorem dX7_missesIn_23 : decode cX7_missesIn 23 = .ok (.iconst 0, 1) := by decide +kernel
theorem dX7_missesIn_24 : decode cX7_missesIn 24 = .ok (.istore_n 3, 1) := by decide +kernel
theorem dX7_missesIn_25 : decode cX7_missesIn 25 = .ok (.iload_n 3, 1) := by decide +kernel
theorem dX7_missesIn_26 : decode cX7_missesIn 26 = .ok (.iload_n 1, 1) := by decide +kernel
theorem dX7_missesIn_27 : decode cX7_missesIn 27 = .ok (.if_icmp .ge 13, 3) := by decide +kernel
theorem dX7_missesIn_30 : decode cX7_missesIn 30 = .ok (.aload_n 0, 1) := by decide +kernel
theorem dX7_missesIn_31 : decode cX7_missesIn 31 = .ok (.invokevirtual 99, 3) := by decide +kernel
theorem dX7_missesIn_34 : decode cX7_missesIn 34 = .ok (.iinc 3 1, 3) := by decide +kernel
theorem dX7_missesIn_37 : decode cX7_missesIn 37 = .ok (.goto (-12), 3) := by decide +kernel
theorem dX7_missesIn_40 : decode cX7_missesIn 40 = .ok (.aload_n 0, 1) := by decide +kernel
theorem dX7_missesIn_41 : decode cX7_missesIn 41 = .ok (.invokevirtual 105, 3) := by decide +kernel
theorem dX7_missesIn_44 : decode cX7_missesIn 44 = .ok (.iload_n 2, 1) := by decide +kernel
theorem dX7_missesIn_45 : decode cX7_missesIn 45 = .ok (.isub, 1) := by decide +kernel
theorem dX7_missesIn_46 : decode cX7_missesIn 46 = .ok (.istore_n 3, 1) := by decide +kernel
theorem dX7_missesIn_47 : decode cX7_missesIn 47 = .ok (.aload_n 0, 1) := by decide +kernel
theorem dX7_missesIn_48 : decode cX7_missesIn 48 = .ok (.invokevirtual 117, 3) := by decide +kernel
theorem dX7_missesIn_51 : decode cX7_missesIn 51 = .ok (.iload_n 3, 1) := by decide +kernel
theorem dX7_missesIn_52 : decode cX7_missesIn 52 = .ok (.ireturn, 1) := by decide +kernel
theorem dX7_greatestBar_0 : decode cX7_greatestBar 0 = .ok (.aload_n 0, 1) := by decide +kernel
theorem dX7_greatestBar_1 : decode cX7_greatestBar 1 = .ok (.iload_n 1, 1) := by decide +kernel
theorem dX7_greatestBar_2 : decode cX7_greatestBar 2 = .ok (.invokevirtual 57, 3) := by decide +kernel
theorem dX7_greatestBar_5 : decode cX7_greatestBar 5 = .ok (.ifCond .ne 5, 3) := by decide +kernel
theorem dX7_greatestBar_8 : decode cX7_greatestBar 8 = .ok (.iconst (-1), 1) := by decide +kernel
theorem dX7_greatestBar_9 : decode cX7_greatestBar 9 = .ok (.ireturn, 1) := by decide +kernel
theorem dX7_greatestBar_10 : decode cX7_greatestBar 10 = .ok (.iload_n 2, 1) := by decide +kernel
theorem dX7_greatestBar_11 : decode cX7_greatestBar 11 = .ok (.iconst 1, 1) := by decide +kernel
theorem dX7_greatestBar_12 : decode cX7_greatestBar 12 = .ok (.sipush 200, 3) := by decide +kernel
theorem dX7_greatestBar_15 : decode cX7_greatestBar 15 = .ok (.invokestatic 40, 3) := by decide +kernel
theorem dX7_greatestBar_18 : decode cX7_greatestBar 18 = .ok (.ifCond .ne 6, 3) := by decide +kernel
theorem dX7_greatestBar_21 : decode cX7_greatestBar 21 = .ok (.bipush (-2), 2) := by decide +kernel
theorem dX7_greatestBar_23 : decode cX7_greatestBar 23 = .ok (.ireturn, 1) := by decide +kernel
theorem dX7_greatestBar_24 : decode cX7_greatestBar 24 = .ok (.aload_n 0, 1) := by decide +kernel
theorem dX7_greatestBar_25 : decode cX7_greatestBar 25 = .ok (.invokevirtual 111, 3) := by decide +kernel
theorem dX7_greatestBar_28 : decode cX7_greatestBar 28 = .ok (.bipush 32, 2) := by decide +kernel
theorem dX7_greatestBar_30 : decode cX7_greatestBar 30 = .ok (.istore_n 3, 1) := by decide +kernel
theorem dX7_greatestBar_31 : decode cX7_greatestBar 31 = .ok (.iconst 1, 1) := by decide +kernel
theorem dX7_greatestBar_32 : decode cX7_greatestBar 32 = .ok (.istore 4, 2) := by decide +kernel
theorem dX7_greatestBar_34 : decode cX7_greatestBar 34 = .ok (.iload 4, 2) := by decide +kernel
theorem dX7_greatestBar_36 : decode cX7_greatestBar 36 = .ok (.ifCond .eq 41, 3) := by decide +kernel
theorem dX7_greatestBar_39 : decode cX7_greatestBar 39 = .ok (.iload_n 3, 1) := by decide +kernel
theorem dX7_greatestBar_40 : decode cX7_greatestBar 40 = .ok (.ifCond .le 37, 3) := by decide +kernel
theorem dX7_greatestBar_43 : decode cX7_greatestBar 43 = .ok (.iinc 3 (-1), 3) := by decide +kernel
theorem dX7_greatestBar_46 : decode cX7_greatestBar 46 = .ok (.aload_n 0, 1) := by decide +kernel
theorem dX7_greatestBar_47 : decode cX7_greatestBar 47 = .ok (.getfield 7, 3) := by decide +kernel
theorem dX7_greatestBar_50 : decode cX7_greatestBar 50 = .ok (.bipush 6, 2) := by decide +kernel
theorem dX7_greatestBar_52 : decode cX7_greatestBar 52 = .ok (.iload_n 3, 1) := by decide +kernel
theorem dX7_greatestBar_53 : decode cX7_greatestBar 53 = .ok (.iastore, 1) := by decide +kernel
theorem dX7_greatestBar_54 : decode cX7_greatestBar 54 = .ok (.aload_n 0, 1) := by decide +kernel
theorem dX7_greatestBar_55 : decode cX7_greatestBar 55 = .ok (.iload_n 1, 1) := by decide +kernel
theorem dX7_greatestBar_56 : decode cX7_greatestBar 56 = .ok (.iload_n 2, 1) := by decide +kernel
theorem dX7_greatestBar_57 : decode cX7_greatestBar 57 = .ok (.invokevirtual 114, 3) := by decide +kernel
theorem dX7_greatestBar_60 : decode cX7_greatestBar 60 = .ok (.ifCond .ge 7, 3) := by decide +kernel
theorem dX7_greatestBar_63 : decode cX7_greatestBar 63 = .ok (.iconst 1, 1) := by decide +kernel
theorem dX7_greatestBar_64 : decode cX7_greatestBar 64 = .ok (.goto 4, 3) := by decide +kernel
theorem dX7_greatestBar_67 : decode cX7_greatestBar 67 = .ok (.iconst 0, 1) := by decide +kernel
theorem dX7_greatestBar_68 : decode cX7_greatestBar 68 = .ok (.istore 4, 2) := by decide +kernel
theorem dX7_greatestBar_70 : decode cX7_greatestBar 70 = .ok (.aload_n 0, 1) := by decide +kernel
theorem dX7_greatestBar_71 : decode cX7_greatestBar 71 = .ok (.invokevirtual 117, 3) := by decide +kernel
theorem dX7_greatestBar_74 : decode cX7_greatestBar 74 = .ok (.goto (-40), 3) := by decide +kernel
theorem dX7_greatestBar_77 : decode cX7_greatestBar 77 = .ok (.iload 4, 2) := by decide +kernel
theorem dX7_greatestBar_79 : decode cX7_greatestBar 79 = .ok (.ifCond .eq 8, 3) := by decide +kernel
theorem dX7_greatestBar_82 : decode cX7_greatestBar 82 = .ok (.bipush (-6), 2) := by decide +kernel
theorem dX7_greatestBar_84 : decode cX7_greatestBar 84 = .ok (.goto 4, 3) := by decide +kernel
theorem dX7_greatestBar_87 : decode cX7_greatestBar 87 = .ok (.iload_n 3, 1) := by decide +kernel
theorem dX7_greatestBar_88 : decode cX7_greatestBar 88 = .ok (.ireturn, 1) := by decide +kernel
theorem dX7_costOf_0 : decode cX7_costOf 0 = .ok (.aload_n 0, 1) := by decide +kernel
theorem dX7_costOf_1 : decode cX7_costOf 1 = .ok (.iload_n 1, 1) := by decide +kernel
theorem dX7_costOf_2 : decode cX7_costOf 2 = .ok (.iconst 1, 1) := by decide +kernel
theorem dX7_costOf_3 : decode cX7_costOf 3 = .ok (.invokevirtual 61, 3) := by decide +kernel
theorem dX7_costOf_6 : decode cX7_costOf 6 = .ok (.aload_n 0, 1) := by decide +kernel
theorem dX7_costOf_7 : decode cX7_costOf 7 = .ok (.getfield 7, 3) := by decide +kernel
theorem dX7_costOf_10 : decode cX7_costOf 10 = .ok (.iconst 4, 1) := by decide +kernel
theorem dX7_costOf_11 : decode cX7_costOf 11 = .ok (.iaload, 1) := by decide +kernel
theorem dX7_costOf_12 : decode cX7_costOf 12 = .ok (.iadd, 1) := by decide +kernel
theorem dX7_costOf_13 : decode cX7_costOf 13 = .ok (.ireturn, 1) := by decide +kernel
theorem dX7_bound_0 : decode cX7_bound 0 = .ok (.aload_n 0, 1) := by decide +kernel
theorem dX7_bound_1 : decode cX7_bound 1 = .ok (.iload_n 1, 1) := by decide +kernel
theorem dX7_bound_2 : decode cX7_bound 2 = .ok (.invokevirtual 57, 3) := by decide +kernel
theorem dX7_bound_5 : decode cX7_bound 5 = .ok (.ifCond .ne 5, 3) := by decide +kernel
theorem dX7_bound_8 : decode cX7_bound 8 = .ok (.iconst (-1), 1) := by decide +kernel
theorem dX7_bound_9 : decode cX7_bound 9 = .ok (.ireturn, 1) := by decide +kernel
theorem dX7_bound_10 : decode cX7_bound 10 = .ok (.iconst 0, 1) := by decide +kernel
theorem dX7_bound_11 : decode cX7_bound 11 = .ok (.istore_n 2, 1) := by decide +kernel
theorem dX7_bound_12 : decode cX7_bound 12 = .ok (.iconst 0, 1) := by decide +kernel
theorem dX7_bound_13 : decode cX7_bound 13 = .ok (.istore_n 3, 1) := by decide +kernel
theorem dX7_bound_14 : decode cX7_bound 14 = .ok (.iload_n 3, 1) := by decide +kernel
theorem dX7_bound_15 : decode cX7_bound 15 = .ok (.aload_n 0, 1) := by decide +kernel
theorem dX7_bound_16 : decode cX7_bound 16 = .ok (.getfield 7, 3) := by decide +kernel
theorem dX7_bound_19 : decode cX7_bound 19 = .ok (.bipush 8, 2) := by decide +kernel
theorem dX7_bound_21 : decode cX7_bound 21 = .ok (.iaload, 1) := by decide +kernel
theorem dX7_bound_22 : decode cX7_bound 22 = .ok (.if_icmp .ge 43, 3) := by decide +kernel
theorem dX7_bound_25 : decode cX7_bound 25 = .ok (.aload_n 0, 1) := by decide +kernel
theorem dX7_bound_26 : decode cX7_bound 26 = .ok (.iload_n 3, 1) := by decide +kernel
theorem dX7_bound_27 : decode cX7_bound 27 = .ok (.iconst 0, 1) := by decide +kernel
theorem dX7_bound_28 : decode cX7_bound 28 = .ok (.invokevirtual 61, 3) := by decide +kernel
theorem dX7_bound_31 : decode cX7_bound 31 = .ok (.aload_n 0, 1) := by decide +kernel
theorem dX7_bound_32 : decode cX7_bound 32 = .ok (.iload_n 1, 1) := by decide +kernel
theorem dX7_bound_33 : decode cX7_bound 33 = .ok (.iconst 0, 1) := by decide +kernel
theorem dX7_bound_34 : decode cX7_bound 34 = .ok (.invokevirtual 61, 3) := by decide +kernel
theorem dX7_bound_37 : decode cX7_bound 37 = .ok (.if_icmp .ge 20, 3) := by decide +kernel
theorem dX7_bound_40 : decode cX7_bound 40 = .ok (.aload_n 0, 1) := by decide +kernel
theorem dX7_bound_41 : decode cX7_bound 41 = .ok (.iload_n 3, 1) := by decide +kernel
theorem dX7_bound_42 : decode cX7_bound 42 = .ok (.invokevirtual 120, 3) := by decide +kernel
theorem dX7_bound_45 : decode cX7_bound 45 = .ok (.iload_n 2, 1) := by decide +kernel
theorem dX7_bound_46 : decode cX7_bound 46 = .ok (.if_icmp .le 11, 3) := by decide +kernel
theorem dX7_bound_49 : decode cX7_bound 49 = .ok (.aload_n 0, 1) := by decide +kernel
theorem dX7_bound_50 : decode cX7_bound 50 = .ok (.iload_n 3, 1) := by decide +kernel
theorem dX7_bound_51 : decode cX7_bound 51 = .ok (.invokevirtual 120, 3) := by decide +kernel
theorem dX7_bound_54 : decode cX7_bound 54 = .ok (.goto 4, 3) := by decide +kernel
theorem dX7_bound_57 : decode cX7_bound 57 = .ok (.iload_n 2, 1) := by decide +kernel
theorem dX7_bound_58 : decode cX7_bound 58 = .ok (.istore_n 2, 1) := by decide +kernel
theorem dX7_bound_59 : decode cX7_bound 59 = .ok (.iinc 3 1, 3) := by decide +kernel
theorem dX7_bound_62 : decode cX7_bound 62 = .ok (.goto (-48), 3) := by decide +kernel
theorem dX7_bound_65 : decode cX7_bound 65 = .ok (.iconst 1, 1) := by decide +kernel
theorem dX7_bound_66 : decode cX7_bound 66 = .ok (.istore_n 3, 1) := by decide +kernel
theorem dX7_bound_67 : decode cX7_bound 67 = .ok (.iload_n 3, 1) := by decide +kernel
theorem dX7_bound_68 : decode cX7_bound 68 = .ok (.sipush 3000, 3) := by decide +kernel
theorem dX7_bound_71 : decode cX7_bound 71 = .ok (.if_icmp .gt 143, 3) := by decide +kernel
theorem dX7_bound_74 : decode cX7_bound 74 = .ok (.iload_n 2, 1) := by decide +kernel
theorem dX7_bound_75 : decode cX7_bound 75 = .ok (.aload_n 0, 1) := by decide +kernel
theorem dX7_bound_76 : decode cX7_bound 76 = .ok (.iload_n 1, 1) := by decide +kernel
theorem dX7_bound_77 : decode cX7_bound 77 = .ok (.invokevirtual 120, 3) := by decide +kernel
theorem dX7_bound_80 : decode cX7_bound 80 = .ok (.iadd, 1) := by decide +kernel
theorem dX7_bound_81 : decode cX7_bound 81 = .ok (.istore 4, 2) := by decide +kernel
theorem dX7_bound_83 : decode cX7_bound 83 = .ok (.sipush 260, 3) := by decide +kernel
theorem dX7_bound_86 : decode cX7_bound 86 = .ok (.istore 5, 2) := by decide +kernel
theorem dX7_bound_88 : decode cX7_bound 88 = .ok (.iload 5, 2) := by decide +kernel
theorem dX7_bound_90 : decode cX7_bound 90 = .ok (.sipush 260, 3) := by decide +kernel
theorem dX7_bound_93 : decode cX7_bound 93 = .ok (.iconst 3, 1) := by decide +kernel
theorem dX7_bound_94 : decode cX7_bound 94 = .ok (.aload_n 0, 1) := by decide +kernel
theorem dX7_bound_95 : decode cX7_bound 95 = .ok (.getfield 7, 3) := by decide +kernel
theorem dX7_bound_98 : decode cX7_bound 98 = .ok (.bipush 9, 2) := by decide +kernel
theorem dX7_bound_100 : decode cX7_bound 100 = .ok (.iaload, 1) := by decide +kernel
theorem dX7_bound_101 : decode cX7_bound 101 = .ok (.imul, 1) := by decide +kernel
theorem dX7_bound_102 : decode cX7_bound 102 = .ok (.iadd, 1) := by decide +kernel
theorem dX7_bound_103 : decode cX7_bound 103 = .ok (.if_icmp .ge 97, 3) := by decide +kernel
theorem dX7_bound_106 : decode cX7_bound 106 = .ok (.aload_n 0, 1) := by decide +kernel
theorem dX7_bound_107 : decode cX7_bound 107 = .ok (.getfield 7, 3) := by decide +kernel
theorem dX7_bound_110 : decode cX7_bound 110 = .ok (.iload 5, 2) := by decide +kernel
theorem dX7_bound_112 : decode cX7_bound 112 = .ok (.iaload, 1) := by decide +kernel
theorem dX7_bound_113 : decode cX7_bound 113 = .ok (.iload_n 1, 1) := by decide +kernel
theorem dX7_bound_114 : decode cX7_bound 114 = .ok (.if_icmp .eq 28, 3) := by decide +kernel
theorem dX7_bound_117 : decode cX7_bound 117 = .ok (.aload_n 0, 1) := by decide +kernel
theorem dX7_bound_118 : decode cX7_bound 118 = .ok (.aload_n 0, 1) := by decide +kernel
theorem dX7_bound_119 : decode cX7_bound 119 = .ok (.getfield 7, 3) := by decide +kernel
theorem dX7_bound_122 : decode cX7_bound 122 = .ok (.iload 5, 2) := by decide +kernel
theorem dX7_bound_124 : decode cX7_bound 124 = .ok (.iaload, 1) := by decide +kernel
theorem dX7_bound_125 : decode cX7_bound 125 = .ok (.iconst 0, 1) := by decide +kernel
theorem dX7_bound_126 : decode cX7_bound 126 = .ok (.invokevirtual 61, 3) := by decide +kernel
theorem dX7_bound_129 : decode cX7_bound 129 = .ok (.aload_n 0, 1) := by decide +kernel
theorem dX7_bound_130 : decode cX7_bound 130 = .ok (.iload_n 1, 1) := by decide +kernel
theorem dX7_bound_131 : decode cX7_bound 131 = .ok (.iconst 0, 1) := by decide +kernel
theorem dX7_bound_132 : decode cX7_bound 132 = .ok (.invokevirtual 61, 3) := by decide +kernel
theorem dX7_bound_135 : decode cX7_bound 135 = .ok (.if_icmp .lt 7, 3) := by decide +kernel
theorem dX7_bound_138 : decode cX7_bound 138 = .ok (.iconst 1, 1) := by decide +kernel
theorem dX7_bound_139 : decode cX7_bound 139 = .ok (.goto 4, 3) := by decide +kernel
theorem dX7_bound_142 : decode cX7_bound 142 = .ok (.iconst 0, 1) := by decide +kernel
theorem dX7_bound_143 : decode cX7_bound 143 = .ok (.istore 6, 2) := by decide +kernel
theorem dX7_bound_145 : decode cX7_bound 145 = .ok (.iload 4, 2) := by decide +kernel
theorem dX7_bound_147 : decode cX7_bound 147 = .ok (.iload 6, 2) := by decide +kernel
theorem dX7_bound_149 : decode cX7_bound 149 = .ok (.ifCond .eq 41, 3) := by decide +kernel
theorem dX7_bound_152 : decode cX7_bound 152 = .ok (.iload_n 3, 1) := by decide +kernel
theorem dX7_bound_153 : decode cX7_bound 153 = .ok (.aload_n 0, 1) := by decide +kernel
theorem dX7_bound_154 : decode cX7_bound 154 = .ok (.getfield 7, 3) := by decide +kernel
theorem dX7_bound_157 : decode cX7_bound 157 = .ok (.iload 5, 2) := by decide +kernel
theorem dX7_bound_159 : decode cX7_bound 159 = .ok (.iconst 1, 1) := by decide +kernel
theorem dX7_bound_160 : decode cX7_bound 160 = .ok (.iadd, 1) := by decide +kernel
theorem dX7_bound_161 : decode cX7_bound 161 = .ok (.iaload, 1) := by decide +kernel
theorem dX7_bound_162 : decode cX7_bound 162 = .ok (.iadd, 1) := by decide +kernel
theorem dX7_bound_163 : decode cX7_bound 163 = .ok (.iconst 1, 1) := by decide +kernel
theorem dX7_bound_164 : decode cX7_bound 164 = .ok (.isub, 1) := by decide +kernel
theorem dX7_bound_165 : decode cX7_bound 165 = .ok (.aload_n 0, 1) := by decide +kernel
theorem dX7_bound_166 : decode cX7_bound 166 = .ok (.getfield 7, 3) := by decide +kernel
theorem dX7_bound_169 : decode cX7_bound 169 = .ok (.iload 5, 2) := by decide +kernel
theorem dX7_bound_171 : decode cX7_bound 171 = .ok (.iconst 1, 1) := by decide +kernel
theorem dX7_bound_172 : decode cX7_bound 172 = .ok (.iadd, 1) := by decide +kernel
theorem dX7_bound_173 : decode cX7_bound 173 = .ok (.iaload, 1) := by decide +kernel
theorem dX7_bound_174 : decode cX7_bound 174 = .ok (.idiv, 1) := by decide +kernel
theorem dX7_bound_175 : decode cX7_bound 175 = .ok (.aload_n 0, 1) := by decide +kernel
theorem dX7_bound_176 : decode cX7_bound 176 = .ok (.aload_n 0, 1) := by decide +kernel
theorem dX7_bound_177 : decode cX7_bound 177 = .ok (.getfield 7, 3) := by decide +kernel
theorem dX7_bound_180 : decode cX7_bound 180 = .ok (.iload 5, 2) := by decide +kernel
theorem dX7_bound_182 : decode cX7_bound 182 = .ok (.iaload, 1) := by decide +kernel
theorem dX7_bound_183 : decode cX7_bound 183 = .ok (.invokevirtual 120, 3) := by decide +kernel
theorem dX7_bound_186 : decode cX7_bound 186 = .ok (.imul, 1) := by decide +kernel
theorem dX7_bound_187 : decode cX7_bound 187 = .ok (.goto 4, 3) := by decide +kernel
theorem dX7_bound_190 : decode cX7_bound 190 = .ok (.iconst 0, 1) := by decide +kernel
theorem dX7_bound_191 : decode cX7_bound 191 = .ok (.iadd, 1) := by decide +kernel
theorem dX7_bound_192 : decode cX7_bound 192 = .ok (.istore 4, 2) := by decide +kernel
theorem dX7_bound_194 : decode cX7_bound 194 = .ok (.iinc 5 3, 3) := by decide +kernel
theorem dX7_bound_197 : decode cX7_bound 197 = .ok (.goto (-109), 3) := by decide +kernel
theorem dX7_bound_200 : decode cX7_bound 200 = .ok (.iload 4, 2) := by decide +kernel
theorem dX7_bound_202 : decode cX7_bound 202 = .ok (.iload_n 3, 1) := by decide +kernel
theorem dX7_bound_203 : decode cX7_bound 203 = .ok (.if_icmp .ne 5, 3) := by decide +kernel
theorem dX7_bound_206 : decode cX7_bound 206 = .ok (.iload_n 3, 1) := by decide +kernel
theorem dX7_bound_207 : decode cX7_bound 207 = .ok (.ireturn, 1) := by decide +kernel
theorem dX7_bound_208 : decode cX7_bound 208 = .ok (.iinc 3 1, 3) := by decide +kernel
theorem dX7_bound_211 : decode cX7_bound 211 = .ok (.goto (-144), 3) := by decide +kernel
theorem dX7_bound_214 : decode cX7_bound 214 = .ok (.bipush (-6), 2) := by decide +kernel
theorem dX7_bound_216 : decode cX7_bound 216 = .ok (.ireturn, 1) := by decide +kernel
theorem dX7_load_0 : decode cX7_load 0 = .ok (.iconst 0, 1) := by decide +kernel
theorem dX7_load_1 : decode cX7_load 1 = .ok (.istore_n 1, 1) := by decide +kernel
theorem dX7_load_2 : decode cX7_load 2 = .ok (.lconst 1, 1) := by decide +kernel
theorem dX7_load_3 : decode cX7_load 3 = .ok (.lstore_n 2, 1) := by decide +kernel
theorem dX7_load_4 : decode cX7_load 4 = .ok (.sipush 260, 3) := by decide +kernel
theorem dX7_load_7 : decode cX7_load 7 = .ok (.istore 4, 2) := by decide +kernel
theorem dX7_load_9 : decode cX7_load 9 = .ok (.iload 4, 2) := by decide +kernel
theorem dX7_load_11 : decode cX7_load 11 = .ok (.sipush 260, 3) := by decide +kernel
theorem dX7_load_14 : decode cX7_load 14 = .ok (.iconst 3, 1) := by decide +kernel
theorem dX7_load_15 : decode cX7_load 15 = .ok (.aload_n 0, 1) := by decide +kernel
theorem dX7_load_16 : decode cX7_load 16 = .ok (.getfield 7, 3) := by decide +kernel
theorem dX7_load_19 : decode cX7_load 19 = .ok (.bipush 9, 2) := by decide +kernel
theorem dX7_load_21 : decode cX7_load 21 = .ok (.iaload, 1) := by decide +kernel
theorem dX7_load_22 : decode cX7_load 22 = .ok (.imul, 1) := by decide +kernel
theorem dX7_load_23 : decode cX7_load 23 = .ok (.iadd, 1) := by decide +kernel
theorem dX7_load_24 : decode cX7_load 24 = .ok (.if_icmp .ge 50, 3) := by decide +kernel
theorem dX7_load_27 : decode cX7_load 27 = .ok (.iload_n 1, 1) := by decide +kernel
theorem dX7_load_28 : decode cX7_load 28 = .ok (.sipush 1000, 3) := by decide +kernel
theorem dX7_load_31 : decode cX7_load 31 = .ok (.aload_n 0, 1) := by decide +kernel
theorem dX7_load_32 : decode cX7_load 32 = .ok (.aload_n 0, 1) := by decide +kernel
theorem dX7_load_33 : decode cX7_load 33 = .ok (.getfield 7, 3) := by decide +kernel
theorem dX7_load_36 : decode cX7_load 36 = .ok (.iload 4, 2) := by decide +kernel
theorem dX7_load_38 : decode cX7_load 38 = .ok (.iaload, 1) := by decide +kernel
theorem dX7_load_39 : decode cX7_load 39 = .ok (.invokevirtual 120, 3) := by decide +kernel
theorem dX7_load_42 : decode cX7_load 42 = .ok (.imul, 1) := by decide +kernel
theorem dX7_load_43 : decode cX7_load 43 = .ok (.aload_n 0, 1) := by decide +kernel
theorem dX7_load_44 : decode cX7_load 44 = .ok (.getfield 7, 3) := by decide +kernel
theorem dX7_load_47 : decode cX7_load 47 = .ok (.iload 4, 2) := by decide +kernel
theorem dX7_load_49 : decode cX7_load 49 = .ok (.iconst 1, 1) := by decide +kernel
theorem dX7_load_50 : decode cX7_load 50 = .ok (.iadd, 1) := by decide +kernel
theorem dX7_load_51 : decode cX7_load 51 = .ok (.iaload, 1) := by decide +kernel
theorem dX7_load_52 : decode cX7_load 52 = .ok (.idiv, 1) := by decide +kernel
theorem dX7_load_53 : decode cX7_load 53 = .ok (.iadd, 1) := by decide +kernel
theorem dX7_load_54 : decode cX7_load 54 = .ok (.istore_n 1, 1) := by decide +kernel
theorem dX7_load_55 : decode cX7_load 55 = .ok (.lload_n 2, 1) := by decide +kernel
theorem dX7_load_56 : decode cX7_load 56 = .ok (.aload_n 0, 1) := by decide +kernel
theorem dX7_load_57 : decode cX7_load 57 = .ok (.getfield 7, 3) := by decide +kernel
theorem dX7_load_60 : decode cX7_load 60 = .ok (.iload 4, 2) := by decide +kernel
theorem dX7_load_62 : decode cX7_load 62 = .ok (.iconst 1, 1) := by decide +kernel
theorem dX7_load_63 : decode cX7_load 63 = .ok (.iadd, 1) := by decide +kernel
theorem dX7_load_64 : decode cX7_load 64 = .ok (.iaload, 1) := by decide +kernel
theorem dX7_load_65 : decode cX7_load 65 = .ok (.i2l, 1) := by decide +kernel
theorem dX7_load_66 : decode cX7_load 66 = .ok (.lmul, 1) := by decide +kernel
theorem dX7_load_67 : decode cX7_load 67 = .ok (.lstore_n 2, 1) := by decide +kernel
theorem dX7_load_68 : decode cX7_load 68 = .ok (.iinc 4 3, 3) := by decide +kernel
theorem dX7_load_71 : decode cX7_load 71 = .ok (.goto (-62), 3) := by decide +kernel
theorem dX7_load_74 : decode cX7_load 74 = .ok (.lconst 0, 1) := by decide +kernel
theorem dX7_load_75 : decode cX7_load 75 = .ok (.lstore 4, 2) := by decide +kernel
theorem dX7_load_77 : decode cX7_load 77 = .ok (.sipush 260, 3) := by decide +kernel
theorem dX7_load_80 : decode cX7_load 80 = .ok (.istore 6, 2) := by decide +kernel
theorem dX7_load_82 : decode cX7_load 82 = .ok (.iload 6, 2) := by decide +kernel
theorem dX7_load_84 : decode cX7_load 84 = .ok (.sipush 260, 3) := by decide +kernel
theorem dX7_load_87 : decode cX7_load 87 = .ok (.iconst 3, 1) := by decide +kernel
theorem dX7_load_88 : decode cX7_load 88 = .ok (.aload_n 0, 1) := by decide +kernel
theorem dX7_load_89 : decode cX7_load 89 = .ok (.getfield 7, 3) := by decide +kernel
theorem dX7_load_92 : decode cX7_load 92 = .ok (.bipush 9, 2) := by decide +kernel
theorem dX7_load_94 : decode cX7_load 94 = .ok (.iaload, 1) := by decide +kernel
theorem dX7_load_95 : decode cX7_load 95 = .ok (.imul, 1) := by decide +kernel
theorem dX7_load_96 : decode cX7_load 96 = .ok (.iadd, 1) := by decide +kernel
theorem dX7_load_97 : decode cX7_load 97 = .ok (.if_icmp .ge 53, 3) := by decide +kernel
theorem dX7_load_100 : decode cX7_load 100 = .ok (.lload 4, 2) := by decide +kernel
theorem dX7_load_102 : decode cX7_load 102 = .ok (.sipush 1000, 3) := by decide +kernel
theorem dX7_load_105 : decode cX7_load 105 = .ok (.aload_n 0, 1) := by decide +kernel
theorem dX7_load_106 : decode cX7_load 106 = .ok (.aload_n 0, 1) := by decide +kernel
theorem dX7_load_107 : decode cX7_load 107 = .ok (.getfield 7, 3) := by decide +kernel
theorem dX7_load_110 : decode cX7_load 110 = .ok (.iload 6, 2) := by decide +kernel
theorem dX7_load_112 : decode cX7_load 112 = .ok (.iaload, 1) := by decide +kernel
theorem dX7_load_113 : decode cX7_load 113 = .ok (.invokevirtual 120, 3) := by decide +kernel
theorem dX7_load_116 : decode cX7_load 116 = .ok (.imul, 1) := by decide +kernel
theorem dX7_load_117 : decode cX7_load 117 = .ok (.aload_n 0, 1) := by decide +kernel
theorem dX7_load_118 : decode cX7_load 118 = .ok (.getfield 7, 3) := by decide +kernel
theorem dX7_load_121 : decode cX7_load 121 = .ok (.iload 6, 2) := by decide +kernel
theorem dX7_load_123 : decode cX7_load 123 = .ok (.iconst 1, 1) := by decide +kernel
theorem dX7_load_124 : decode cX7_load 124 = .ok (.iadd, 1) := by decide +kernel
theorem dX7_load_125 : decode cX7_load 125 = .ok (.iaload, 1) := by decide +kernel
theorem dX7_load_126 : decode cX7_load 126 = .ok (.irem, 1) := by decide +kernel
theorem dX7_load_127 : decode cX7_load 127 = .ok (.i2l, 1) := by decide +kernel
theorem dX7_load_128 : decode cX7_load 128 = .ok (.lload_n 2, 1) := by decide +kernel
theorem dX7_load_129 : decode cX7_load 129 = .ok (.aload_n 0, 1) := by decide +kernel
theorem dX7_load_130 : decode cX7_load 130 = .ok (.getfield 7, 3) := by decide +kernel
theorem dX7_load_133 : decode cX7_load 133 = .ok (.iload 6, 2) := by decide +kernel
theorem dX7_load_135 : decode cX7_load 135 = .ok (.iconst 1, 1) := by decide +kernel
theorem dX7_load_136 : decode cX7_load 136 = .ok (.iadd, 1) := by decide +kernel
theorem dX7_load_137 : decode cX7_load 137 = .ok (.iaload, 1) := by decide +kernel
theorem dX7_load_138 : decode cX7_load 138 = .ok (.i2l, 1) := by decide +kernel
theorem dX7_load_139 : decode cX7_load 139 = .ok (.ldiv, 1) := by decide +kernel
theorem dX7_load_140 : decode cX7_load 140 = .ok (.lmul, 1) := by decide +kernel
theorem dX7_load_141 : decode cX7_load 141 = .ok (.ladd, 1) := by decide +kernel
theorem dX7_load_142 : decode cX7_load 142 = .ok (.lstore 4, 2) := by decide +kernel
theorem dX7_load_144 : decode cX7_load 144 = .ok (.iinc 6 3, 3) := by decide +kernel
theorem dX7_load_147 : decode cX7_load 147 = .ok (.goto (-65), 3) := by decide +kernel
theorem dX7_load_150 : decode cX7_load 150 = .ok (.iload_n 1, 1) := by decide +kernel
theorem dX7_load_151 : decode cX7_load 151 = .ok (.lload 4, 2) := by decide +kernel
theorem dX7_load_153 : decode cX7_load 153 = .ok (.lload_n 2, 1) := by decide +kernel
theorem dX7_load_154 : decode cX7_load 154 = .ok (.ladd, 1) := by decide +kernel
theorem dX7_load_155 : decode cX7_load 155 = .ok (.lconst 1, 1) := by decide +kernel
theorem dX7_load_156 : decode cX7_load 156 = .ok (.lsub, 1) := by decide +kernel
theorem dX7_load_157 : decode cX7_load 157 = .ok (.lload_n 2, 1) := by decide +kernel
theorem dX7_load_158 : decode cX7_load 158 = .ok (.ldiv, 1) := by decide +kernel
theorem dX7_load_159 : decode cX7_load 159 = .ok (.l2i, 1) := by decide +kernel
theorem dX7_load_160 : decode cX7_load 160 = .ok (.iadd, 1) := by decide +kernel
theorem dX7_load_161 : decode cX7_load 161 = .ok (.ireturn, 1) := by decide +kernel
theorem dX7_sign_0 : decode cX7_sign 0 = .ok (.aload_n 0, 1) := by decide +kernel
theorem dX7_sign_1 : decode cX7_sign 1 = .ok (.getfield 123, 3) := by decide +kernel
theorem dX7_sign_4 : decode cX7_sign 4 = .ok (.aload_n 0, 1) := by decide +kernel
theorem dX7_sign_5 : decode cX7_sign 5 = .ok (.getfield 108, 3) := by decide +kernel
theorem dX7_sign_8 : decode cX7_sign 8 = .ok (.if_icmp .ge 15, 3) := by decide +kernel
theorem dX7_sign_11 : decode cX7_sign 11 = .ok (.aload_n 0, 1) := by decide +kernel
theorem dX7_sign_12 : decode cX7_sign 12 = .ok (.getfield 26, 3) := by decide +kernel
theorem dX7_sign_15 : decode cX7_sign 15 = .ok (.aload_n 0, 1) := by decide +kernel
theorem dX7_sign_16 : decode cX7_sign 16 = .ok (.getfield 123, 3) := by decide +kernel
theorem dX7_sign_19 : decode cX7_sign 19 = .ok (.iaload, 1) := by decide +kernel
theorem dX7_sign_20 : decode cX7_sign 20 = .ok (.goto 4, 3) := by decide +kernel
theorem dX7_sign_23 : decode cX7_sign 23 = .ok (.iconst 0, 1) := by decide +kernel
theorem dX7_sign_24 : decode cX7_sign 24 = .ok (.ireturn, 1) := by decide +kernel
theorem dX7_one_0 : decode cX7_one 0 = .ok (.aload_n 0, 1) := by decide +kernel
theorem dX7_one_1 : decode cX7_one 1 = .ok (.invokevirtual 126, 3) := by decide +kernel
theorem dX7_one_4 : decode cX7_one 4 = .ok (.iload_n 1, 1) := by decide +kernel
theorem dX7_one_5 : decode cX7_one 5 = .ok (.isub, 1) := by decide +kernel
theorem dX7_one_6 : decode cX7_one 6 = .ok (.istore_n 3, 1) := by decide +kernel
theorem dX7_one_7 : decode cX7_one 7 = .ok (.aload_n 0, 1) := by decide +kernel
theorem dX7_one_8 : decode cX7_one 8 = .ok (.aload_n 0, 1) := by decide +kernel
theorem dX7_one_9 : decode cX7_one 9 = .ok (.getfield 129, 3) := by decide +kernel
theorem dX7_one_12 : decode cX7_one 12 = .ok (.ifCond .ne 12, 3) := by decide +kernel
theorem dX7_one_15 : decode cX7_one 15 = .ok (.iload_n 3, 1) := by decide +kernel
theorem dX7_one_16 : decode cX7_one 16 = .ok (.iconst 0, 1) := by decide +kernel
theorem dX7_one_17 : decode cX7_one 17 = .ok (.iload_n 2, 1) := by decide +kernel
theorem dX7_one_18 : decode cX7_one 18 = .ok (.invokestatic 40, 3) := by decide +kernel
theorem dX7_one_21 : decode cX7_one 21 = .ok (.ifCond .ne 7, 3) := by decide +kernel
theorem dX7_one_24 : decode cX7_one 24 = .ok (.iconst 1, 1) := by decide +kernel
theorem dX7_one_25 : decode cX7_one 25 = .ok (.goto 4, 3) := by decide +kernel
theorem dX7_one_28 : decode cX7_one 28 = .ok (.iconst 0, 1) := by decide +kernel
theorem dX7_one_29 : decode cX7_one 29 = .ok (.putfield 129, 3) := by decide +kernel
theorem dX7_one_32 : decode cX7_one 32 = .ok (.aload_n 0, 1) := by decide +kernel
theorem dX7_one_33 : decode cX7_one 33 = .ok (.dup, 1) := by decide +kernel
theorem dX7_one_34 : decode cX7_one 34 = .ok (.getfield 123, 3) := by decide +kernel
theorem dX7_one_37 : decode cX7_one 37 = .ok (.aload_n 0, 1) := by decide +kernel
theorem dX7_one_38 : decode cX7_one 38 = .ok (.getfield 129, 3) := by decide +kernel
theorem dX7_one_41 : decode cX7_one 41 = .ok (.ifCond .eq 7, 3) := by decide +kernel
theorem dX7_one_44 : decode cX7_one 44 = .ok (.iconst 0, 1) := by decide +kernel
theorem dX7_one_45 : decode cX7_one 45 = .ok (.goto 4, 3) := by decide +kernel
theorem dX7_one_48 : decode cX7_one 48 = .ok (.iconst 1, 1) := by decide +kernel
theorem dX7_one_49 : decode cX7_one 49 = .ok (.iadd, 1) := by decide +kernel
theorem dX7_one_50 : decode cX7_one 50 = .ok (.putfield 123, 3) := by decide +kernel
theorem dX7_one_53 : decode cX7_one 53 = .ok (.iload_n 3, 1) := by decide +kernel
theorem dX7_one_54 : decode cX7_one 54 = .ok (.ireturn, 1) := by decide +kernel
theorem dX7_number_0 : decode cX7_number 0 = .ok (.aload_n 0, 1) := by decide +kernel
theorem dX7_number_1 : decode cX7_number 1 = .ok (.bipush 48, 2) := by decide +kernel
theorem dX7_number_3 : decode cX7_number 3 = .ok (.bipush 9, 2) := by decide +kernel
theorem dX7_number_5 : decode cX7_number 5 = .ok (.invokevirtual 132, 3) := by decide +kernel
theorem dX7_number_8 : decode cX7_number 8 = .ok (.istore_n 1, 1) := by decide +kernel
theorem dX7_number_9 : decode cX7_number 9 = .ok (.aload_n 0, 1) := by decide +kernel
theorem dX7_number_10 : decode cX7_number 10 = .ok (.getfield 129, 3) := by decide +kernel
theorem dX7_number_13 : decode cX7_number 13 = .ok (.ifCond .ne 65, 3) := by decide +kernel
theorem dX7_number_16 : decode cX7_number 16 = .ok (.iload_n 1, 1) := by decide +kernel
theorem dX7_number_17 : decode cX7_number 17 = .ok (.ifCond .le 61, 3) := by decide +kernel
theorem dX7_number_20 : decode cX7_number 20 = .ok (.aload_n 0, 1) := by decide +kernel
theorem dX7_number_21 : decode cX7_number 21 = .ok (.invokevirtual 126, 3) := by decide +kernel
theorem dX7_number_24 : decode cX7_number 24 = .ok (.bipush 48, 2) := by decide +kernel
theorem dX7_number_26 : decode cX7_number 26 = .ok (.bipush 57, 2) := by decide +kernel
theorem dX7_number_28 : decode cX7_number 28 = .ok (.invokestatic 40, 3) := by decide +kernel
theorem dX7_number_31 : decode cX7_number 31 = .ok (.ifCond .eq 47, 3) := by decide +kernel
theorem dX7_number_34 : decode cX7_number 34 = .ok (.bipush 10, 2) := by decide +kernel
theorem dX7_number_36 : decode cX7_number 36 = .ok (.iload_n 1, 1) := by decide +kernel
theorem dX7_number_37 : decode cX7_number 37 = .ok (.imul, 1) := by decide +kernel
theorem dX7_number_38 : decode cX7_number 38 = .ok (.aload_n 0, 1) := by decide +kernel
theorem dX7_number_39 : decode cX7_number 39 = .ok (.invokevirtual 126, 3) := by decide +kernel
theorem dX7_number_42 : decode cX7_number 42 = .ok (.iadd, 1) := by decide +kernel
theorem dX7_number_43 : decode cX7_number 43 = .ok (.bipush 48, 2) := by decide +kernel
theorem dX7_number_45 : decode cX7_number 45 = .ok (.isub, 1) := by decide +kernel
theorem dX7_number_46 : decode cX7_number 46 = .ok (.sipush 999, 3) := by decide +kernel
theorem dX7_number_49 : decode cX7_number 49 = .ok (.if_icmp .gt 29, 3) := by decide +kernel
theorem dX7_number_52 : decode cX7_number 52 = .ok (.bipush 10, 2) := by decide +kernel
theorem dX7_number_54 : decode cX7_number 54 = .ok (.iload_n 1, 1) := by decide +kernel
theorem dX7_number_55 : decode cX7_number 55 = .ok (.imul, 1) := by decide +kernel
theorem dX7_number_56 : decode cX7_number 56 = .ok (.aload_n 0, 1) := by decide +kernel
theorem dX7_number_57 : decode cX7_number 57 = .ok (.invokevirtual 126, 3) := by decide +kernel
theorem dX7_number_60 : decode cX7_number 60 = .ok (.iadd, 1) := by decide +kernel
theorem dX7_number_61 : decode cX7_number 61 = .ok (.bipush 48, 2) := by decide +kernel
theorem dX7_number_63 : decode cX7_number 63 = .ok (.isub, 1) := by decide +kernel
theorem dX7_number_64 : decode cX7_number 64 = .ok (.istore_n 1, 1) := by decide +kernel
theorem dX7_number_65 : decode cX7_number 65 = .ok (.aload_n 0, 1) := by decide +kernel
theorem dX7_number_66 : decode cX7_number 66 = .ok (.dup, 1) := by decide +kernel
theorem dX7_number_67 : decode cX7_number 67 = .ok (.getfield 123, 3) := by decide +kernel
theorem dX7_number_70 : decode cX7_number 70 = .ok (.iconst 1, 1) := by decide +kernel
theorem dX7_number_71 : decode cX7_number 71 = .ok (.iadd, 1) := by decide +kernel
theorem dX7_number_72 : decode cX7_number 72 = .ok (.putfield 123, 3) := by decide +kernel
theorem dX7_number_75 : decode cX7_number 75 = .ok (.goto (-66), 3) := by decide +kernel
theorem dX7_number_78 : decode cX7_number 78 = .ok (.iload_n 1, 1) := by decide +kernel
theorem dX7_number_79 : decode cX7_number 79 = .ok (.ireturn, 1) := by decide +kernel
theorem dX7_readOne_0 : decode cX7_readOne 0 = .ok (.iconst 3, 1) := by decide +kernel
theorem dX7_readOne_1 : decode cX7_readOne 1 = .ok (.aload_n 0, 1) := by decide +kernel
theorem dX7_readOne_2 : decode cX7_readOne 2 = .ok (.getfield 135, 3) := by decide +kernel
theorem dX7_readOne_5 : decode cX7_readOne 5 = .ok (.imul, 1) := by decide +kernel
theorem dX7_readOne_6 : decode cX7_readOne 6 = .ok (.istore_n 1, 1) := by decide +kernel
theorem dX7_readOne_7 : decode cX7_readOne 7 = .ok (.aload_n 0, 1) := by decide +kernel
theorem dX7_readOne_8 : decode cX7_readOne 8 = .ok (.invokevirtual 126, 3) := by decide +kernel
theorem dX7_readOne_11 : decode cX7_readOne 11 = .ok (.istore_n 2, 1) := by decide +kernel
theorem dX7_readOne_12 : decode cX7_readOne 12 = .ok (.aload_n 0, 1) := by decide +kernel
theorem dX7_readOne_13 : decode cX7_readOne 13 = .ok (.getfield 29, 3) := by decide +kernel
theorem dX7_readOne_16 : decode cX7_readOne 16 = .ok (.iload_n 1, 1) := by decide +kernel
theorem dX7_readOne_17 : decode cX7_readOne 17 = .ok (.iload_n 2, 1) := by decide +kernel
theorem dX7_readOne_18 : decode cX7_readOne 18 = .ok (.iastore, 1) := by decide +kernel
theorem dX7_readOne_19 : decode cX7_readOne 19 = .ok (.aload_n 0, 1) := by decide +kernel
theorem dX7_readOne_20 : decode cX7_readOne 20 = .ok (.iload_n 2, 1) := by decide +kernel
theorem dX7_readOne_21 : decode cX7_readOne 21 = .ok (.bipush 117, 2) := by decide +kernel
theorem dX7_readOne_23 : decode cX7_readOne 23 = .ok (.if_icmp .eq 37, 3) := by decide +kernel
theorem dX7_readOne_26 : decode cX7_readOne 26 = .ok (.iload_n 2, 1) := by decide +kernel
theorem dX7_readOne_27 : decode cX7_readOne 27 = .ok (.bipush 104, 2) := by decide +kernel
theorem dX7_readOne_29 : decode cX7_readOne 29 = .ok (.if_icmp .eq 31, 3) := by decide +kernel
theorem dX7_readOne_32 : decode cX7_readOne 32 = .ok (.iload_n 2, 1) := by decide +kernel
theorem dX7_readOne_33 : decode cX7_readOne 33 = .ok (.bipush 108, 2) := by decide +kernel
theorem dX7_readOne_35 : decode cX7_readOne 35 = .ok (.if_icmp .eq 25, 3) := by decide +kernel
theorem dX7_readOne_38 : decode cX7_readOne 38 = .ok (.iload_n 2, 1) := by decide +kernel
theorem dX7_readOne_39 : decode cX7_readOne 39 = .ok (.bipush 109, 2) := by decide +kernel
theorem dX7_readOne_41 : decode cX7_readOne 41 = .ok (.if_icmp .eq 19, 3) := by decide +kernel
theorem dX7_readOne_44 : decode cX7_readOne 44 = .ok (.iload_n 2, 1) := by decide +kernel
theorem dX7_readOne_45 : decode cX7_readOne 45 = .ok (.bipush 110, 2) := by decide +kernel
theorem dX7_readOne_47 : decode cX7_readOne 47 = .ok (.if_icmp .eq 13, 3) := by decide +kernel
theorem dX7_readOne_50 : decode cX7_readOne 50 = .ok (.iload_n 2, 1) := by decide +kernel
theorem dX7_readOne_51 : decode cX7_readOne 51 = .ok (.bipush 116, 2) := by decide +kernel
theorem dX7_readOne_53 : decode cX7_readOne 53 = .ok (.if_icmp .eq 7, 3) := by decide +kernel
theorem dX7_readOne_56 : decode cX7_readOne 56 = .ok (.iconst 1, 1) := by decide +kernel
theorem dX7_readOne_57 : decode cX7_readOne 57 = .ok (.goto 4, 3) := by decide +kernel
theorem dX7_readOne_60 : decode cX7_readOne 60 = .ok (.iconst 0, 1) := by decide +kernel
theorem dX7_readOne_61 : decode cX7_readOne 61 = .ok (.putfield 129, 3) := by decide +kernel
theorem dX7_readOne_64 : decode cX7_readOne 64 = .ok (.aload_n 0, 1) := by decide +kernel
theorem dX7_readOne_65 : decode cX7_readOne 65 = .ok (.getfield 129, 3) := by decide +kernel
theorem dX7_readOne_68 : decode cX7_readOne 68 = .ok (.ifCond .eq 4, 3) := by decide +kernel
theorem dX7_readOne_71 : decode cX7_readOne 71 = .ok (.return_, 1) := by decide +kernel
theorem dX7_readOne_72 : decode cX7_readOne 72 = .ok (.aload_n 0, 1) := by decide +kernel
theorem dX7_readOne_73 : decode cX7_readOne 73 = .ok (.dup, 1) := by decide +kernel
theorem dX7_readOne_74 : decode cX7_readOne 74 = .ok (.getfield 123, 3) := by decide +kernel
theorem dX7_readOne_77 : decode cX7_readOne 77 = .ok (.iconst 1, 1) := by decide +kernel
theorem dX7_readOne_78 : decode cX7_readOne 78 = .ok (.iadd, 1) := by decide +kernel
theorem dX7_readOne_79 : decode cX7_readOne 79 = .ok (.putfield 123, 3) := by decide +kernel
theorem dX7_readOne_82 : decode cX7_readOne 82 = .ok (.aload_n 0, 1) := by decide +kernel
theorem dX7_readOne_83 : decode cX7_readOne 83 = .ok (.getfield 29, 3) := by decide +kernel
theorem dX7_readOne_86 : decode cX7_readOne 86 = .ok (.iload_n 1, 1) := by decide +kernel
theorem dX7_readOne_87 : decode cX7_readOne 87 = .ok (.iconst 1, 1) := by decide +kernel
theorem dX7_readOne_88 : decode cX7_readOne 88 = .ok (.iadd, 1) := by decide +kernel
theorem dX7_readOne_89 : decode cX7_readOne 89 = .ok (.iload_n 2, 1) := by decide +kernel
theorem dX7_readOne_90 : decode cX7_readOne 90 = .ok (.bipush 116, 2) := by decide +kernel
theorem dX7_readOne_92 : decode cX7_readOne 92 = .ok (.if_icmp .ne 10, 3) := by decide +kernel
theorem dX7_readOne_95 : decode cX7_readOne 95 = .ok (.aload_n 0, 1) := by decide +kernel
theorem dX7_readOne_96 : decode cX7_readOne 96 = .ok (.invokevirtual 138, 3) := by decide +kernel
theorem dX7_readOne_99 : decode cX7_readOne 99 = .ok (.goto 11, 3) := by decide +kernel
theorem dX7_readOne_102 : decode cX7_readOne 102 = .ok (.aload_n 0, 1) := by decide +kernel
theorem dX7_readOne_103 : decode cX7_readOne 103 = .ok (.bipush 65, 2) := by decide +kernel
theorem dX7_readOne_105 : decode cX7_readOne 105 = .ok (.bipush 11, 2) := by decide +kernel
theorem dX7_readOne_107 : decode cX7_readOne 107 = .ok (.invokevirtual 132, 3) := by decide +kernel
theorem dX7_readOne_110 : decode cX7_readOne 110 = .ok (.iastore, 1) := by decide +kernel
theorem dX7_readOne_111 : decode cX7_readOne 111 = .ok (.aload_n 0, 1) := by decide +kernel
theorem dX7_readOne_112 : decode cX7_readOne 112 = .ok (.getfield 29, 3) := by decide +kernel
theorem dX7_readOne_115 : decode cX7_readOne 115 = .ok (.iload_n 1, 1) := by decide +kernel
theorem dX7_readOne_116 : decode cX7_readOne 116 = .ok (.iconst 2, 1) := by decide +kernel
theorem dX7_readOne_117 : decode cX7_readOne 117 = .ok (.iadd, 1) := by decide +kernel
theorem dX7_readOne_118 : decode cX7_readOne 118 = .ok (.iload_n 2, 1) := by decide +kernel
theorem dX7_readOne_119 : decode cX7_readOne 119 = .ok (.bipush 104, 2) := by decide +kernel
theorem dX7_readOne_121 : decode cX7_readOne 121 = .ok (.if_icmp .eq 9, 3) := by decide +kernel
theorem dX7_readOne_124 : decode cX7_readOne 124 = .ok (.iload_n 2, 1) := by decide +kernel
theorem dX7_readOne_125 : decode cX7_readOne 125 = .ok (.bipush 108, 2) := by decide +kernel
theorem dX7_readOne_127 : decode cX7_readOne 127 = .ok (.if_icmp .ne 20, 3) := by decide +kernel
theorem dX7_readOne_130 : decode cX7_readOne 130 = .ok (.aload_n 0, 1) := by decide +kernel
theorem dX7_readOne_131 : decode cX7_readOne 131 = .ok (.getfield 129, 3) := by decide +kernel
theorem dX7_readOne_134 : decode cX7_readOne 134 = .ok (.ifCond .ne 13, 3) := by decide +kernel
theorem dX7_readOne_137 : decode cX7_readOne 137 = .ok (.aload_n 0, 1) := by decide +kernel
theorem dX7_readOne_138 : decode cX7_readOne 138 = .ok (.bipush 48, 2) := by decide +kernel
theorem dX7_readOne_140 : decode cX7_readOne 140 = .ok (.iconst 3, 1) := by decide +kernel
theorem dX7_readOne_141 : decode cX7_readOne 141 = .ok (.invokevirtual 132, 3) := by decide +kernel
theorem dX7_readOne_144 : decode cX7_readOne 144 = .ok (.goto 4, 3) := by decide +kernel
theorem dX7_readOne_147 : decode cX7_readOne 147 = .ok (.iconst 0, 1) := by decide +kernel
theorem dX7_readOne_148 : decode cX7_readOne 148 = .ok (.iastore, 1) := by decide +kernel
theorem dX7_readOne_149 : decode cX7_readOne 149 = .ok (.aload_n 0, 1) := by decide +kernel
theorem dX7_readOne_150 : decode cX7_readOne 150 = .ok (.dup, 1) := by decide +kernel
theorem dX7_readOne_151 : decode cX7_readOne 151 = .ok (.getfield 135, 3) := by decide +kernel
theorem dX7_readOne_154 : decode cX7_readOne 154 = .ok (.iconst 1, 1) := by decide +kernel
theorem dX7_readOne_155 : decode cX7_readOne 155 = .ok (.iadd, 1) := by decide +kernel
theorem dX7_readOne_156 : decode cX7_readOne 156 = .ok (.putfield 135, 3) := by decide +kernel
theorem dX7_readOne_159 : decode cX7_readOne 159 = .ok (.return_, 1) := by decide +kernel
theorem dX7_faultOf_0 : decode cX7_faultOf 0 = .ok (.aload_n 0, 1) := by decide +kernel
theorem dX7_faultOf_1 : decode cX7_faultOf 1 = .ok (.iconst 0, 1) := by decide +kernel
theorem dX7_faultOf_2 : decode cX7_faultOf 2 = .ok (.putfield 123, 3) := by decide +kernel
theorem dX7_faultOf_5 : decode cX7_faultOf 5 = .ok (.aload_n 0, 1) := by decide +kernel
theorem dX7_faultOf_6 : decode cX7_faultOf 6 = .ok (.iconst 0, 1) := by decide +kernel
theorem dX7_faultOf_7 : decode cX7_faultOf 7 = .ok (.putfield 135, 3) := by decide +kernel
theorem dX7_faultOf_10 : decode cX7_faultOf 10 = .ok (.aload_n 0, 1) := by decide +kernel
theorem dX7_faultOf_11 : decode cX7_faultOf 11 = .ok (.iconst 0, 1) := by decide +kernel
theorem dX7_faultOf_12 : decode cX7_faultOf 12 = .ok (.putfield 129, 3) := by decide +kernel
theorem dX7_faultOf_15 : decode cX7_faultOf 15 = .ok (.aload_n 0, 1) := by decide +kernel
theorem dX7_faultOf_16 : decode cX7_faultOf 16 = .ok (.invokevirtual 141, 3) := by decide +kernel
theorem dX7_faultOf_19 : decode cX7_faultOf 19 = .ok (.aload_n 0, 1) := by decide +kernel
theorem dX7_faultOf_20 : decode cX7_faultOf 20 = .ok (.getfield 129, 3) := by decide +kernel
theorem dX7_faultOf_23 : decode cX7_faultOf 23 = .ok (.ifCond .ne 56, 3) := by decide +kernel
theorem dX7_faultOf_26 : decode cX7_faultOf 26 = .ok (.aload_n 0, 1) := by decide +kernel
theorem dX7_faultOf_27 : decode cX7_faultOf 27 = .ok (.getfield 123, 3) := by decide +kernel
theorem dX7_faultOf_30 : decode cX7_faultOf 30 = .ok (.aload_n 0, 1) := by decide +kernel
theorem dX7_faultOf_31 : decode cX7_faultOf 31 = .ok (.getfield 108, 3) := by decide +kernel
theorem dX7_faultOf_34 : decode cX7_faultOf 34 = .ok (.if_icmp .ge 45, 3) := by decide +kernel
theorem dX7_faultOf_37 : decode cX7_faultOf 37 = .ok (.aload_n 0, 1) := by decide +kernel
theorem dX7_faultOf_38 : decode cX7_faultOf 38 = .ok (.aload_n 0, 1) := by decide +kernel
theorem dX7_faultOf_39 : decode cX7_faultOf 39 = .ok (.invokevirtual 126, 3) := by decide +kernel
theorem dX7_faultOf_42 : decode cX7_faultOf 42 = .ok (.bipush 59, 2) := by decide +kernel
theorem dX7_faultOf_44 : decode cX7_faultOf 44 = .ok (.if_icmp .eq 7, 3) := by decide +kernel
theorem dX7_faultOf_47 : decode cX7_faultOf 47 = .ok (.iconst 1, 1) := by decide +kernel
theorem dX7_faultOf_48 : decode cX7_faultOf 48 = .ok (.goto 4, 3) := by decide +kernel
theorem dX7_faultOf_51 : decode cX7_faultOf 51 = .ok (.iconst 0, 1) := by decide +kernel
theorem dX7_faultOf_52 : decode cX7_faultOf 52 = .ok (.putfield 129, 3) := by decide +kernel
theorem dX7_faultOf_55 : decode cX7_faultOf 55 = .ok (.aload_n 0, 1) := by decide +kernel
theorem dX7_faultOf_56 : decode cX7_faultOf 56 = .ok (.getfield 129, 3) := by decide +kernel
theorem dX7_faultOf_59 : decode cX7_faultOf 59 = .ok (.ifCond .ne (-40), 3) := by decide +kernel
theorem dX7_faultOf_62 : decode cX7_faultOf 62 = .ok (.aload_n 0, 1) := by decide +kernel
theorem dX7_faultOf_63 : decode cX7_faultOf 63 = .ok (.dup, 1) := by decide +kernel
theorem dX7_faultOf_64 : decode cX7_faultOf 64 = .ok (.getfield 123, 3) := by decide +kernel
theorem dX7_faultOf_67 : decode cX7_faultOf 67 = .ok (.iconst 1, 1) := by decide +kernel
theorem dX7_faultOf_68 : decode cX7_faultOf 68 = .ok (.iadd, 1) := by decide +kernel
theorem dX7_faultOf_69 : decode cX7_faultOf 69 = .ok (.putfield 123, 3) := by decide +kernel
theorem dX7_faultOf_72 : decode cX7_faultOf 72 = .ok (.aload_n 0, 1) := by decide +kernel
theorem dX7_faultOf_73 : decode cX7_faultOf 73 = .ok (.invokevirtual 141, 3) := by decide +kernel
theorem dX7_faultOf_76 : decode cX7_faultOf 76 = .ok (.goto (-57), 3) := by decide +kernel
theorem dX7_faultOf_79 : decode cX7_faultOf 79 = .ok (.aload_n 0, 1) := by decide +kernel
theorem dX7_faultOf_80 : decode cX7_faultOf 80 = .ok (.getfield 129, 3) := by decide +kernel
theorem dX7_faultOf_83 : decode cX7_faultOf 83 = .ok (.ifCond .eq 10, 3) := by decide +kernel
theorem dX7_faultOf_86 : decode cX7_faultOf 86 = .ok (.aload_n 0, 1) := by decide +kernel
theorem dX7_faultOf_87 : decode cX7_faultOf 87 = .ok (.getfield 123, 3) := by decide +kernel
theorem dX7_faultOf_90 : decode cX7_faultOf 90 = .ok (.goto 5, 3) := by decide +kernel
theorem dX7_faultOf_93 : decode cX7_faultOf 93 = .ok (.bipush (-6), 2) := by decide +kernel
theorem dX7_faultOf_95 : decode cX7_faultOf 95 = .ok (.ireturn, 1) := by decide +kernel
theorem dX7_put_0 : decode cX7_put 0 = .ok (.iconst 0, 1) := by decide +kernel
theorem dX7_put_1 : decode cX7_put 1 = .ok (.istore_n 3, 1) := by decide +kernel
theorem dX7_put_2 : decode cX7_put 2 = .ok (.lload_n 1, 1) := by decide +kernel
theorem dX7_put_3 : decode cX7_put 3 = .ok (.lstore 4, 2) := by decide +kernel
theorem dX7_put_5 : decode cX7_put 5 = .ok (.lload 4, 2) := by decide +kernel
theorem dX7_put_7 : decode cX7_put 7 = .ok (.ldc2_w 144, 3) := by decide +kernel
theorem dX7_put_10 : decode cX7_put 10 = .ok (.land, 1) := by decide +kernel
theorem dX7_put_11 : decode cX7_put 11 = .ok (.lconst 0, 1) := by decide +kernel
theorem dX7_put_12 : decode cX7_put 12 = .ok (.lcmp, 1) := by decide +kernel
theorem dX7_put_13 : decode cX7_put 13 = .ok (.ifCond .eq 36, 3) := by decide +kernel
theorem dX7_put_16 : decode cX7_put 16 = .ok (.lload 4, 2) := by decide +kernel
theorem dX7_put_18 : decode cX7_put 18 = .ok (.ldc2_w 144, 3) := by decide +kernel
theorem dX7_put_21 : decode cX7_put 21 = .ok (.land, 1) := by decide +kernel
theorem dX7_put_22 : decode cX7_put 22 = .ok (.l2i, 1) := by decide +kernel
theorem dX7_put_23 : decode cX7_put 23 = .ok (.bipush 33, 2) := by decide +kernel
theorem dX7_put_25 : decode cX7_put 25 = .ok (.bipush 126, 2) := by decide +kernel
theorem dX7_put_27 : decode cX7_put 27 = .ok (.invokestatic 40, 3) := by decide +kernel
theorem dX7_put_30 : decode cX7_put 30 = .ok (.ifCond .ne 6, 3) := by decide +kernel
theorem dX7_put_33 : decode cX7_put 33 = .ok (.bipush (-2), 2) := by decide +kernel
theorem dX7_put_35 : decode cX7_put 35 = .ok (.ireturn, 1) := by decide +kernel
theorem dX7_put_36 : decode cX7_put 36 = .ok (.iinc 3 1, 3) := by decide +kernel
theorem dX7_put_39 : decode cX7_put 39 = .ok (.lload 4, 2) := by decide +kernel
theorem dX7_put_41 : decode cX7_put 41 = .ok (.bipush 8, 2) := by decide +kernel
theorem dX7_put_43 : decode cX7_put 43 = .ok (.lushr, 1) := by decide +kernel
theorem dX7_put_44 : decode cX7_put 44 = .ok (.lstore 4, 2) := by decide +kernel
theorem dX7_put_46 : decode cX7_put 46 = .ok (.goto (-41), 3) := by decide +kernel
theorem dX7_put_49 : decode cX7_put 49 = .ok (.lload 4, 2) := by decide +kernel
theorem dX7_put_51 : decode cX7_put 51 = .ok (.lconst 0, 1) := by decide +kernel
theorem dX7_put_52 : decode cX7_put 52 = .ok (.lcmp, 1) := by decide +kernel
theorem dX7_put_53 : decode cX7_put 53 = .ok (.ifCond .ne 7, 3) := by decide +kernel
theorem dX7_put_56 : decode cX7_put 56 = .ok (.iload_n 3, 1) := by decide +kernel
theorem dX7_put_57 : decode cX7_put 57 = .ok (.ifCond .ne 6, 3) := by decide +kernel
theorem dX7_put_60 : decode cX7_put 60 = .ok (.bipush (-2), 2) := by decide +kernel
theorem dX7_put_62 : decode cX7_put 62 = .ok (.ireturn, 1) := by decide +kernel
theorem dX7_put_63 : decode cX7_put 63 = .ok (.aload_n 0, 1) := by decide +kernel
theorem dX7_put_64 : decode cX7_put 64 = .ok (.getfield 108, 3) := by decide +kernel
theorem dX7_put_67 : decode cX7_put 67 = .ok (.iload_n 3, 1) := by decide +kernel
theorem dX7_put_68 : decode cX7_put 68 = .ok (.iadd, 1) := by decide +kernel
theorem dX7_put_69 : decode cX7_put 69 = .ok (.bipush 80, 2) := by decide +kernel
theorem dX7_put_71 : decode cX7_put 71 = .ok (.if_icmp .le 6, 3) := by decide +kernel
theorem dX7_put_74 : decode cX7_put 74 = .ok (.bipush (-4), 2) := by decide +kernel
theorem dX7_put_76 : decode cX7_put 76 = .ok (.ireturn, 1) := by decide +kernel
theorem dX7_put_77 : decode cX7_put 77 = .ok (.lload_n 1, 1) := by decide +kernel
theorem dX7_put_78 : decode cX7_put 78 = .ok (.lstore 4, 2) := by decide +kernel
theorem dX7_put_80 : decode cX7_put 80 = .ok (.iload_n 3, 1) := by decide +kernel
theorem dX7_put_81 : decode cX7_put 81 = .ok (.iconst 1, 1) := by decide +kernel
theorem dX7_put_82 : decode cX7_put 82 = .ok (.isub, 1) := by decide +kernel
theorem dX7_put_83 : decode cX7_put 83 = .ok (.istore 6, 2) := by decide +kernel
theorem dX7_put_85 : decode cX7_put 85 = .ok (.iload 6, 2) := by decide +kernel
theorem dX7_put_87 : decode cX7_put 87 = .ok (.ifCond .lt 35, 3) := by decide +kernel
theorem dX7_put_90 : decode cX7_put 90 = .ok (.aload_n 0, 1) := by decide +kernel
theorem dX7_put_91 : decode cX7_put 91 = .ok (.getfield 26, 3) := by decide +kernel
theorem dX7_put_94 : decode cX7_put 94 = .ok (.aload_n 0, 1) := by decide +kernel
theorem dX7_put_95 : decode cX7_put 95 = .ok (.getfield 108, 3) := by decide +kernel
theorem dX7_put_98 : decode cX7_put 98 = .ok (.iload 6, 2) := by decide +kernel
theorem dX7_put_100 : decode cX7_put 100 = .ok (.iadd, 1) := by decide +kernel
theorem dX7_put_101 : decode cX7_put 101 = .ok (.lload 4, 2) := by decide +kernel
theorem dX7_put_103 : decode cX7_put 103 = .ok (.ldc2_w 144, 3) := by decide +kernel
theorem dX7_put_106 : decode cX7_put 106 = .ok (.land, 1) := by decide +kernel
theorem dX7_put_107 : decode cX7_put 107 = .ok (.l2i, 1) := by decide +kernel
theorem dX7_put_108 : decode cX7_put 108 = .ok (.iastore, 1) := by decide +kernel
theorem dX7_put_109 : decode cX7_put 109 = .ok (.lload 4, 2) := by decide +kernel
theorem dX7_put_111 : decode cX7_put 111 = .ok (.bipush 8, 2) := by decide +kernel
theorem dX7_put_113 : decode cX7_put 113 = .ok (.lushr, 1) := by decide +kernel
theorem dX7_put_114 : decode cX7_put 114 = .ok (.lstore 4, 2) := by decide +kernel
theorem dX7_put_116 : decode cX7_put 116 = .ok (.iinc 6 (-1), 3) := by decide +kernel
theorem dX7_put_119 : decode cX7_put 119 = .ok (.goto (-34), 3) := by decide +kernel
theorem dX7_put_122 : decode cX7_put 122 = .ok (.aload_n 0, 1) := by decide +kernel
theorem dX7_put_123 : decode cX7_put 123 = .ok (.dup, 1) := by decide +kernel
theorem dX7_put_124 : decode cX7_put 124 = .ok (.getfield 108, 3) := by decide +kernel
theorem dX7_put_127 : decode cX7_put 127 = .ok (.iload_n 3, 1) := by decide +kernel
theorem dX7_put_128 : decode cX7_put 128 = .ok (.iadd, 1) := by decide +kernel
theorem dX7_put_129 : decode cX7_put 129 = .ok (.putfield 108, 3) := by decide +kernel
theorem dX7_put_132 : decode cX7_put 132 = .ok (.aload_n 0, 1) := by decide +kernel
theorem dX7_put_133 : decode cX7_put 133 = .ok (.getfield 108, 3) := by decide +kernel
theorem dX7_put_136 : decode cX7_put 136 = .ok (.ireturn, 1) := by decide +kernel
theorem dX7_wipe_0 : decode cX7_wipe 0 = .ok (.aload_n 0, 1) := by decide +kernel
theorem dX7_wipe_1 : decode cX7_wipe 1 = .ok (.getfield 108, 3) := by decide +kernel
theorem dX7_wipe_4 : decode cX7_wipe 4 = .ok (.istore_n 1, 1) := by decide +kernel
theorem dX7_wipe_5 : decode cX7_wipe 5 = .ok (.aload_n 0, 1) := by decide +kernel
theorem dX7_wipe_6 : decode cX7_wipe 6 = .ok (.iconst 0, 1) := by decide +kernel
theorem dX7_wipe_7 : decode cX7_wipe 7 = .ok (.putfield 108, 3) := by decide +kernel
theorem dX7_wipe_10 : decode cX7_wipe 10 = .ok (.iload_n 1, 1) := by decide +kernel
theorem dX7_wipe_11 : decode cX7_wipe 11 = .ok (.ireturn, 1) := by decide +kernel
theorem dX7_fault_0 : decode cX7_fault 0 = .ok (.aload_n 0, 1) := by decide +kernel
theorem dX7_fault_1 : decode cX7_fault 1 = .ok (.invokevirtual 146, 3) := by decide +kernel
theorem dX7_fault_4 : decode cX7_fault 4 = .ok (.ireturn, 1) := by decide +kernel
theorem dX7_carry_0 : decode cX7_carry 0 = .ok (.aload_n 0, 1) := by decide +kernel
theorem dX7_carry_1 : decode cX7_carry 1 = .ok (.getfield 29, 3) := by decide +kernel
theorem dX7_carry_4 : decode cX7_carry 4 = .ok (.iload_n 1, 1) := by decide +kernel
theorem dX7_carry_5 : decode cX7_carry 5 = .ok (.iconst 1, 1) := by decide +kernel
theorem dX7_carry_6 : decode cX7_carry 6 = .ok (.iadd, 1) := by decide +kernel
theorem dX7_carry_7 : decode cX7_carry 7 = .ok (.iaload, 1) := by decide +kernel
theorem dX7_carry_8 : decode cX7_carry 8 = .ok (.istore_n 2, 1) := by decide +kernel
theorem dX7_carry_9 : decode cX7_carry 9 = .ok (.aload_n 0, 1) := by decide +kernel
theorem dX7_carry_10 : decode cX7_carry 10 = .ok (.getfield 29, 3) := by decide +kernel
theorem dX7_carry_13 : decode cX7_carry 13 = .ok (.iload_n 1, 1) := by decide +kernel
theorem dX7_carry_14 : decode cX7_carry 14 = .ok (.iaload, 1) := by decide +kernel
theorem dX7_carry_15 : decode cX7_carry 15 = .ok (.tableswitch 119 104 117 #[75, 119, 119, 119, 90, 105, 112, 119, 119, 119, 119, 119, 119, 69], 69) := by decide +kernel
theorem dX7_carry_84 : decode cX7_carry 84 = .ok (.aload_n 0, 1) := by decide +kernel
theorem dX7_carry_85 : decode cX7_carry 85 = .ok (.iload_n 2, 1) := by decide +kernel
theorem dX7_carry_86 : decode cX7_carry 86 = .ok (.invokevirtual 149, 3) := by decide +kernel
theorem dX7_carry_89 : decode cX7_carry 89 = .ok (.ireturn, 1) := by decide +kernel
theorem dX7_carry_90 : decode cX7_carry 90 = .ok (.aload_n 0, 1) := by decide +kernel
theorem dX7_carry_91 : decode cX7_carry 91 = .ok (.iload_n 2, 1) := by decide +kernel
theorem dX7_carry_92 : decode cX7_carry 92 = .ok (.aload_n 0, 1) := by decide +kernel
theorem dX7_carry_93 : decode cX7_carry 93 = .ok (.getfield 29, 3) := by decide +kernel
theorem dX7_carry_96 : decode cX7_carry 96 = .ok (.iload_n 1, 1) := by decide +kernel
theorem dX7_carry_97 : decode cX7_carry 97 = .ok (.iconst 2, 1) := by decide +kernel
theorem dX7_carry_98 : decode cX7_carry 98 = .ok (.iadd, 1) := by decide +kernel
theorem dX7_carry_99 : decode cX7_carry 99 = .ok (.iaload, 1) := by decide +kernel
theorem dX7_carry_100 : decode cX7_carry 100 = .ok (.iconst 1, 1) := by decide +kernel
theorem dX7_carry_101 : decode cX7_carry 101 = .ok (.invokevirtual 152, 3) := by decide +kernel
theorem dX7_carry_104 : decode cX7_carry 104 = .ok (.ireturn, 1) := by decide +kernel
theorem dX7_carry_105 : decode cX7_carry 105 = .ok (.aload_n 0, 1) := by decide +kernel
theorem dX7_carry_106 : decode cX7_carry 106 = .ok (.iload_n 2, 1) := by decide +kernel
theorem dX7_carry_107 : decode cX7_carry 107 = .ok (.aload_n 0, 1) := by decide +kernel
theorem dX7_carry_108 : decode cX7_carry 108 = .ok (.getfield 29, 3) := by decide +kernel
theorem dX7_carry_111 : decode cX7_carry 111 = .ok (.iload_n 1, 1) := by decide +kernel
theorem dX7_carry_112 : decode cX7_carry 112 = .ok (.iconst 2, 1) := by decide +kernel
theorem dX7_carry_113 : decode cX7_carry 113 = .ok (.iadd, 1) := by decide +kernel
theorem dX7_carry_114 : decode cX7_carry 114 = .ok (.iaload, 1) := by decide +kernel
theorem dX7_carry_115 : decode cX7_carry 115 = .ok (.iconst 0, 1) := by decide +kernel
theorem dX7_carry_116 : decode cX7_carry 116 = .ok (.invokevirtual 152, 3) := by decide +kernel
theorem dX7_carry_119 : decode cX7_carry 119 = .ok (.ireturn, 1) := by decide +kernel
theorem dX7_carry_120 : decode cX7_carry 120 = .ok (.aload_n 0, 1) := by decide +kernel
theorem dX7_carry_121 : decode cX7_carry 121 = .ok (.iload_n 2, 1) := by decide +kernel
theorem dX7_carry_122 : decode cX7_carry 122 = .ok (.iconst 1, 1) := by decide +kernel
theorem dX7_carry_123 : decode cX7_carry 123 = .ok (.invokevirtual 156, 3) := by decide +kernel
theorem dX7_carry_126 : decode cX7_carry 126 = .ok (.ireturn, 1) := by decide +kernel
theorem dX7_carry_127 : decode cX7_carry 127 = .ok (.aload_n 0, 1) := by decide +kernel
theorem dX7_carry_128 : decode cX7_carry 128 = .ok (.iload_n 2, 1) := by decide +kernel
theorem dX7_carry_129 : decode cX7_carry 129 = .ok (.iconst 0, 1) := by decide +kernel
theorem dX7_carry_130 : decode cX7_carry 130 = .ok (.invokevirtual 156, 3) := by decide +kernel
theorem dX7_carry_133 : decode cX7_carry 133 = .ok (.ireturn, 1) := by decide +kernel
theorem dX7_carry_134 : decode cX7_carry 134 = .ok (.aload_n 0, 1) := by decide +kernel
theorem dX7_carry_135 : decode cX7_carry 135 = .ok (.iload_n 2, 1) := by decide +kernel
theorem dX7_carry_136 : decode cX7_carry 136 = .ok (.invokevirtual 159, 3) := by decide +kernel
theorem dX7_carry_139 : decode cX7_carry 139 = .ok (.ireturn, 1) := by decide +kernel
theorem dX7_carryOut_0 : decode cX7_carryOut 0 = .ok (.aload_n 0, 1) := by decide +kernel
theorem dX7_carryOut_1 : decode cX7_carryOut 1 = .ok (.invokevirtual 146, 3) := by decide +kernel
theorem dX7_carryOut_4 : decode cX7_carryOut 4 = .ok (.bipush (-6), 2) := by decide +kernel
theorem dX7_carryOut_6 : decode cX7_carryOut 6 = .ok (.if_icmp .eq 6, 3) := by decide +kernel
theorem dX7_carryOut_9 : decode cX7_carryOut 9 = .ok (.bipush (-3), 2) := by decide +kernel
theorem dX7_carryOut_11 : decode cX7_carryOut 11 = .ok (.ireturn, 1) := by decide +kernel
theorem dX7_carryOut_12 : decode cX7_carryOut 12 = .ok (.aload_n 0, 1) := by decide +kernel
theorem dX7_carryOut_13 : decode cX7_carryOut 13 = .ok (.invokevirtual 51, 3) := by decide +kernel
theorem dX7_carryOut_16 : decode cX7_carryOut 16 = .ok (.aload_n 0, 1) := by decide +kernel
theorem dX7_carryOut_17 : decode cX7_carryOut 17 = .ok (.iconst 1, 1) := by decide +kernel
theorem dX7_carryOut_18 : decode cX7_carryOut 18 = .ok (.putfield 32, 3) := by decide +kernel
theorem dX7_carryOut_21 : decode cX7_carryOut 21 = .ok (.iconst 0, 1) := by decide +kernel
theorem dX7_carryOut_22 : decode cX7_carryOut 22 = .ok (.istore_n 1, 1) := by decide +kernel
theorem dX7_carryOut_23 : decode cX7_carryOut 23 = .ok (.iload_n 1, 1) := by decide +kernel
theorem dX7_carryOut_24 : decode cX7_carryOut 24 = .ok (.aload_n 0, 1) := by decide +kernel
theorem dX7_carryOut_25 : decode cX7_carryOut 25 = .ok (.getfield 135, 3) := by decide +kernel
theorem dX7_carryOut_28 : decode cX7_carryOut 28 = .ok (.if_icmp .ge 19, 3) := by decide +kernel
theorem dX7_carryOut_31 : decode cX7_carryOut 31 = .ok (.aload_n 0, 1) := by decide +kernel
theorem dX7_carryOut_32 : decode cX7_carryOut 32 = .ok (.iconst 3, 1) := by decide +kernel
theorem dX7_carryOut_33 : decode cX7_carryOut 33 = .ok (.iload_n 1, 1) := by decide +kernel
theorem dX7_carryOut_34 : decode cX7_carryOut 34 = .ok (.imul, 1) := by decide +kernel
theorem dX7_carryOut_35 : decode cX7_carryOut 35 = .ok (.invokevirtual 162, 3) := by decide +kernel
theorem dX7_carryOut_38 : decode cX7_carryOut 38 = .ok (.ifCond .lt 9, 3) := by decide +kernel
theorem dX7_carryOut_41 : decode cX7_carryOut 41 = .ok (.iinc 1 1, 3) := by decide +kernel
theorem dX7_carryOut_44 : decode cX7_carryOut 44 = .ok (.goto (-21), 3) := by decide +kernel
theorem dX7_carryOut_47 : decode cX7_carryOut 47 = .ok (.aload_n 0, 1) := by decide +kernel
theorem dX7_carryOut_48 : decode cX7_carryOut 48 = .ok (.iconst 0, 1) := by decide +kernel
theorem dX7_carryOut_49 : decode cX7_carryOut 49 = .ok (.putfield 32, 3) := by decide +kernel
theorem dX7_carryOut_52 : decode cX7_carryOut 52 = .ok (.aload_n 0, 1) := by decide +kernel
theorem dX7_carryOut_53 : decode cX7_carryOut 53 = .ok (.iconst 0, 1) := by decide +kernel
theorem dX7_carryOut_54 : decode cX7_carryOut 54 = .ok (.putfield 108, 3) := by decide +kernel
theorem dX7_carryOut_57 : decode cX7_carryOut 57 = .ok (.iload_n 1, 1) := by decide +kernel
theorem dX7_carryOut_58 : decode cX7_carryOut 58 = .ok (.ireturn, 1) := by decide +kernel
theorem dX7_undo_0 : decode cX7_undo 0 = .ok (.aload_n 0, 1) := by decide +kernel
theorem dX7_undo_1 : decode cX7_undo 1 = .ok (.getfield 36, 3) := by decide +kernel
theorem dX7_undo_4 : decode cX7_undo 4 = .ok (.ifCond .ne 6, 3) := by decide +kernel
theorem dX7_undo_7 : decode cX7_undo 7 = .ok (.bipush (-5), 2) := by decide +kernel
theorem dX7_undo_9 : decode cX7_undo 9 = .ok (.ireturn, 1) := by decide +kernel
theorem dX7_undo_10 : decode cX7_undo 10 = .ok (.aload_n 0, 1) := by decide +kernel
theorem dX7_undo_11 : decode cX7_undo 11 = .ok (.dup, 1) := by decide +kernel
theorem dX7_undo_12 : decode cX7_undo 12 = .ok (.getfield 36, 3) := by decide +kernel
theorem dX7_undo_15 : decode cX7_undo 15 = .ok (.iconst 1, 1) := by decide +kernel
theorem dX7_undo_16 : decode cX7_undo 16 = .ok (.isub, 1) := by decide +kernel
theorem dX7_undo_17 : decode cX7_undo 17 = .ok (.putfield 36, 3) := by decide +kernel
theorem dX7_undo_20 : decode cX7_undo 20 = .ok (.iconst 0, 1) := by decide +kernel
theorem dX7_undo_21 : decode cX7_undo 21 = .ok (.istore_n 1, 1) := by decide +kernel
theorem dX7_undo_22 : decode cX7_undo 22 = .ok (.iload_n 1, 1) := by decide +kernel
theorem dX7_undo_23 : decode cX7_undo 23 = .ok (.sipush 280, 3) := by decide +kernel
theorem dX7_undo_26 : decode cX7_undo 26 = .ok (.if_icmp .ge 30, 3) := by decide +kernel
theorem dX7_undo_29 : decode cX7_undo 29 = .ok (.aload_n 0, 1) := by decide +kernel
theorem dX7_undo_30 : decode cX7_undo 30 = .ok (.getfield 7, 3) := by decide +kernel
theorem dX7_undo_33 : decode cX7_undo 33 = .ok (.iload_n 1, 1) := by decide +kernel
theorem dX7_undo_34 : decode cX7_undo 34 = .ok (.aload_n 0, 1) := by decide +kernel
theorem dX7_undo_35 : decode cX7_undo 35 = .ok (.getfield 16, 3) := by decide +kernel
theorem dX7_undo_38 : decode cX7_undo 38 = .ok (.aload_n 0, 1) := by decide +kernel
theorem dX7_undo_39 : decode cX7_undo 39 = .ok (.getfield 36, 3) := by decide +kernel
theorem dX7_undo_42 : decode cX7_undo 42 = .ok (.sipush 280, 3) := by decide +kernel
theorem dX7_undo_45 : decode cX7_undo 45 = .ok (.imul, 1) := by decide +kernel
theorem dX7_undo_46 : decode cX7_undo 46 = .ok (.iload_n 1, 1) := by decide +kernel
theorem dX7_undo_47 : decode cX7_undo 47 = .ok (.iadd, 1) := by decide +kernel
theorem dX7_undo_48 : decode cX7_undo 48 = .ok (.iaload, 1) := by decide +kernel
theorem dX7_undo_49 : decode cX7_undo 49 = .ok (.iastore, 1) := by decide +kernel
theorem dX7_undo_50 : decode cX7_undo 50 = .ok (.iinc 1 1, 3) := by decide +kernel
theorem dX7_undo_53 : decode cX7_undo 53 = .ok (.goto (-31), 3) := by decide +kernel
theorem dX7_undo_56 : decode cX7_undo 56 = .ok (.aload_n 0, 1) := by decide +kernel
theorem dX7_undo_57 : decode cX7_undo 57 = .ok (.getfield 36, 3) := by decide +kernel
theorem dX7_undo_60 : decode cX7_undo 60 = .ok (.ireturn, 1) := by decide +kernel
theorem dX7_save_0 : decode cX7_save 0 = .ok (.iload_n 1, 1) := by decide +kernel
theorem dX7_save_1 : decode cX7_save 1 = .ok (.iconst 0, 1) := by decide +kernel
theorem dX7_save_2 : decode cX7_save 2 = .ok (.iconst 1, 1) := by decide +kernel
theorem dX7_save_3 : decode cX7_save 3 = .ok (.invokestatic 40, 3) := by decide +kernel
theorem dX7_save_6 : decode cX7_save 6 = .ok (.ifCond .ne 6, 3) := by decide +kernel
theorem dX7_save_9 : decode cX7_save 9 = .ok (.bipush (-2), 2) := by decide +kernel
theorem dX7_save_11 : decode cX7_save 11 = .ok (.ireturn, 1) := by decide +kernel
theorem dX7_save_12 : decode cX7_save 12 = .ok (.iconst 0, 1) := by decide +kernel
theorem dX7_save_13 : decode cX7_save 13 = .ok (.istore_n 2, 1) := by decide +kernel
theorem dX7_save_14 : decode cX7_save 14 = .ok (.iload_n 2, 1) := by decide +kernel
theorem dX7_save_15 : decode cX7_save 15 = .ok (.sipush 280, 3) := by decide +kernel
theorem dX7_save_18 : decode cX7_save 18 = .ok (.if_icmp .ge 27, 3) := by decide +kernel
theorem dX7_save_21 : decode cX7_save 21 = .ok (.aload_n 0, 1) := by decide +kernel
theorem dX7_save_22 : decode cX7_save 22 = .ok (.getfield 19, 3) := by decide +kernel
theorem dX7_save_25 : decode cX7_save 25 = .ok (.iload_n 1, 1) := by decide +kernel
theorem dX7_save_26 : decode cX7_save 26 = .ok (.sipush 280, 3) := by decide +kernel
theorem dX7_save_29 : decode cX7_save 29 = .ok (.imul, 1) := by decide +kernel
theorem dX7_save_30 : decode cX7_save 30 = .ok (.iload_n 2, 1) := by decide +kernel
theorem dX7_save_31 : decode cX7_save 31 = .ok (.iadd, 1) := by decide +kernel
theorem dX7_save_32 : decode cX7_save 32 = .ok (.aload_n 0, 1) := by decide +kernel
theorem dX7_save_33 : decode cX7_save 33 = .ok (.getfield 7, 3) := by decide +kernel
theorem dX7_save_36 : decode cX7_save 36 = .ok (.iload_n 2, 1) := by decide +kernel
theorem dX7_save_37 : decode cX7_save 37 = .ok (.iaload, 1) := by decide +kernel
theorem dX7_save_38 : decode cX7_save 38 = .ok (.iastore, 1) := by decide +kernel
theorem dX7_save_39 : decode cX7_save 39 = .ok (.iinc 2 1, 3) := by decide +kernel
theorem dX7_save_42 : decode cX7_save 42 = .ok (.goto (-28), 3) := by decide +kernel
theorem dX7_save_45 : decode cX7_save 45 = .ok (.aload_n 0, 1) := by decide +kernel
theorem dX7_save_46 : decode cX7_save 46 = .ok (.getfield 22, 3) := by decide +kernel
theorem dX7_save_49 : decode cX7_save 49 = .ok (.iload_n 1, 1) := by decide +kernel
theorem dX7_save_50 : decode cX7_save 50 = .ok (.iconst 1, 1) := by decide +kernel
theorem dX7_save_51 : decode cX7_save 51 = .ok (.bastore, 1) := by decide +kernel
theorem dX7_save_52 : decode cX7_save 52 = .ok (.aload_n 0, 1) := by decide +kernel
theorem dX7_save_53 : decode cX7_save 53 = .ok (.getfield 7, 3) := by decide +kernel
theorem dX7_save_56 : decode cX7_save 56 = .ok (.bipush 7, 2) := by decide +kernel
theorem dX7_save_58 : decode cX7_save 58 = .ok (.iaload, 1) := by decide +kernel
theorem dX7_save_59 : decode cX7_save 59 = .ok (.ireturn, 1) := by decide +kernel
theorem dX7_restore_0 : decode cX7_restore 0 = .ok (.iload_n 1, 1) := by decide +kernel
theorem dX7_restore_1 : decode cX7_restore 1 = .ok (.iconst 0, 1) := by decide +kernel
theorem dX7_restore_2 : decode cX7_restore 2 = .ok (.iconst 1, 1) := by decide +kernel
theorem dX7_restore_3 : decode cX7_restore 3 = .ok (.invokestatic 40, 3) := by decide +kernel
theorem dX7_restore_6 : decode cX7_restore 6 = .ok (.ifCond .ne 6, 3) := by decide +kernel
theorem dX7_restore_9 : decode cX7_restore 9 = .ok (.bipush (-2), 2) := by decide +kernel
theorem dX7_restore_11 : decode cX7_restore 11 = .ok (.ireturn, 1) := by decide +kernel
theorem dX7_restore_12 : decode cX7_restore 12 = .ok (.aload_n 0, 1) := by decide +kernel
theorem dX7_restore_13 : decode cX7_restore 13 = .ok (.getfield 22, 3) := by decide +kernel
theorem dX7_restore_16 : decode cX7_restore 16 = .ok (.iload_n 1, 1) := by decide +kernel
theorem dX7_restore_17 : decode cX7_restore 17 = .ok (.baload, 1) := by decide +kernel
theorem dX7_restore_18 : decode cX7_restore 18 = .ok (.ifCond .ne 6, 3) := by decide +kernel
theorem dX7_restore_21 : decode cX7_restore 21 = .ok (.bipush (-5), 2) := by decide +kernel
theorem dX7_restore_23 : decode cX7_restore 23 = .ok (.ireturn, 1) := by decide +kernel
theorem dX7_restore_24 : decode cX7_restore 24 = .ok (.aload_n 0, 1) := by decide +kernel
theorem dX7_restore_25 : decode cX7_restore 25 = .ok (.invokevirtual 51, 3) := by decide +kernel
theorem dX7_restore_28 : decode cX7_restore 28 = .ok (.iconst 0, 1) := by decide +kernel
theorem dX7_restore_29 : decode cX7_restore 29 = .ok (.istore_n 2, 1) := by decide +kernel
theorem dX7_restore_30 : decode cX7_restore 30 = .ok (.iload_n 2, 1) := by decide +kernel
theorem dX7_restore_31 : decode cX7_restore 31 = .ok (.sipush 280, 3) := by decide +kernel
theorem dX7_restore_34 : decode cX7_restore 34 = .ok (.if_icmp .ge 27, 3) := by decide +kernel
theorem dX7_restore_37 : decode cX7_restore 37 = .ok (.aload_n 0, 1) := by decide +kernel
theorem dX7_restore_38 : decode cX7_restore 38 = .ok (.getfield 7, 3) := by decide +kernel
theorem dX7_restore_41 : decode cX7_restore 41 = .ok (.iload_n 2, 1) := by decide +kernel
theorem dX7_restore_42 : decode cX7_restore 42 = .ok (.aload_n 0, 1) := by decide +kernel
theorem dX7_restore_43 : decode cX7_restore 43 = .ok (.getfield 19, 3) := by decide +kernel
theorem dX7_restore_46 : decode cX7_restore 46 = .ok (.iload_n 1, 1) := by decide +kernel
theorem dX7_restore_47 : decode cX7_restore 47 = .ok (.sipush 280, 3) := by decide +kernel
theorem dX7_restore_50 : decode cX7_restore 50 = .ok (.imul, 1) := by decide +kernel
theorem dX7_restore_51 : decode cX7_restore 51 = .ok (.iload_n 2, 1) := by decide +kernel
theorem dX7_restore_52 : decode cX7_restore 52 = .ok (.iadd, 1) := by decide +kernel
theorem dX7_restore_53 : decode cX7_restore 53 = .ok (.iaload, 1) := by decide +kernel
theorem dX7_restore_54 : decode cX7_restore 54 = .ok (.iastore, 1) := by decide +kernel
theorem dX7_restore_55 : decode cX7_restore 55 = .ok (.iinc 2 1, 3) := by decide +kernel
theorem dX7_restore_58 : decode cX7_restore 58 = .ok (.goto (-28), 3) := by decide +kernel
theorem dX7_restore_61 : decode cX7_restore 61 = .ok (.aload_n 0, 1) := by decide +kernel
theorem dX7_restore_62 : decode cX7_restore 62 = .ok (.getfield 7, 3) := by decide +kernel
theorem dX7_restore_65 : decode cX7_restore 65 = .ok (.bipush 7, 2) := by decide +kernel
theorem dX7_restore_67 : decode cX7_restore 67 = .ok (.iaload, 1) := by decide +kernel
theorem dX7_restore_68 : decode cX7_restore 68 = .ok (.ireturn, 1) := by decide +kernel
