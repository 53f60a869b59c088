-- decode rows, printed by the check's program
theorem dX0_init_0 : decode cX0_init 0 = .ok (.aload_n 0, 1) := by decide +kernel
theorem dX0_init_1 : decode cX0_init 1 = .ok (.invokespecial 3, 3) := by decide +kernel
theorem dX0_init_4 : decode cX0_init 4 = .ok (.aload_n 0, 1) := by decide +kernel
theorem dX0_init_5 : decode cX0_init 5 = .ok (.bipush 7, 2) := by decide +kernel
theorem dX0_init_7 : decode cX0_init 7 = .ok (.anewarray 9, 3) := by decide +kernel
theorem dX0_init_10 : decode cX0_init 10 = .ok (.putfield 11, 3) := by decide +kernel
theorem dX0_init_13 : decode cX0_init 13 = .ok (.iconst 0, 1) := by decide +kernel
theorem dX0_init_14 : decode cX0_init 14 = .ok (.istore_n 1, 1) := by decide +kernel
theorem dX0_init_15 : decode cX0_init 15 = .ok (.iload_n 1, 1) := by decide +kernel
theorem dX0_init_16 : decode cX0_init 16 = .ok (.aload_n 0, 1) := by decide +kernel
theorem dX0_init_17 : decode cX0_init 17 = .ok (.getfield 11, 3) := by decide +kernel
theorem dX0_init_20 : decode cX0_init 20 = .ok (.arraylength, 1) := by decide +kernel
theorem dX0_init_21 : decode cX0_init 21 = .ok (.if_icmp .ge 22, 3) := by decide +kernel
theorem dX0_init_24 : decode cX0_init 24 = .ok (.aload_n 0, 1) := by decide +kernel
theorem dX0_init_25 : decode cX0_init 25 = .ok (.getfield 11, 3) := by decide +kernel
theorem dX0_init_28 : decode cX0_init 28 = .ok (.iload_n 1, 1) := by decide +kernel
theorem dX0_init_29 : decode cX0_init 29 = .ok (.new 9, 3) := by decide +kernel
theorem dX0_init_32 : decode cX0_init 32 = .ok (.dup, 1) := by decide +kernel
theorem dX0_init_33 : decode cX0_init 33 = .ok (.invokespecial 17, 3) := by decide +kernel
theorem dX0_init_36 : decode cX0_init 36 = .ok (.aastore, 1) := by decide +kernel
theorem dX0_init_37 : decode cX0_init 37 = .ok (.iinc 1 1, 3) := by decide +kernel
theorem dX0_init_40 : decode cX0_init 40 = .ok (.goto (-25), 3) := by decide +kernel
theorem dX0_init_43 : decode cX0_init 43 = .ok (.return_, 1) := by decide +kernel
theorem dX0_prepare_0 : decode cX0_prepare 0 = .ok (.aload_n 0, 1) := by decide +kernel
theorem dX0_prepare_1 : decode cX0_prepare 1 = .ok (.getfield 11, 3) := by decide +kernel
theorem dX0_prepare_4 : decode cX0_prepare 4 = .ok (.aload_n 0, 1) := by decide +kernel
theorem dX0_prepare_5 : decode cX0_prepare 5 = .ok (.getfield 18, 3) := by decide +kernel
theorem dX0_prepare_8 : decode cX0_prepare 8 = .ok (.aaload, 1) := by decide +kernel
theorem dX0_prepare_9 : decode cX0_prepare 9 = .ok (.aload_n 1, 1) := by decide +kernel
theorem dX0_prepare_10 : decode cX0_prepare 10 = .ok (.invokevirtual 22, 3) := by decide +kernel
theorem dX0_prepare_13 : decode cX0_prepare 13 = .ok (.return_, 1) := by decide +kernel
theorem dX0_recordUnlessError_0 : decode cX0_recordUnlessError 0 = .ok (.iload_n 1, 1) := by decide +kernel
theorem dX0_recordUnlessError_1 : decode cX0_recordUnlessError 1 = .ok (.ifCond .lt 55, 3) := by decide +kernel
theorem dX0_recordUnlessError_4 : decode cX0_recordUnlessError 4 = .ok (.aload_n 0, 1) := by decide +kernel
theorem dX0_recordUnlessError_5 : decode cX0_recordUnlessError 5 = .ok (.aload_n 0, 1) := by decide +kernel
theorem dX0_recordUnlessError_6 : decode cX0_recordUnlessError 6 = .ok (.getfield 18, 3) := by decide +kernel
theorem dX0_recordUnlessError_9 : decode cX0_recordUnlessError 9 = .ok (.iconst 1, 1) := by decide +kernel
theorem dX0_recordUnlessError_10 : decode cX0_recordUnlessError 10 = .ok (.iadd, 1) := by decide +kernel
theorem dX0_recordUnlessError_11 : decode cX0_recordUnlessError 11 = .ok (.aload_n 0, 1) := by decide +kernel
theorem dX0_recordUnlessError_12 : decode cX0_recordUnlessError 12 = .ok (.getfield 11, 3) := by decide +kernel
theorem dX0_recordUnlessError_15 : decode cX0_recordUnlessError 15 = .ok (.arraylength, 1) := by decide +kernel
theorem dX0_recordUnlessError_16 : decode cX0_recordUnlessError 16 = .ok (.if_icmp .ge 12, 3) := by decide +kernel
theorem dX0_recordUnlessError_19 : decode cX0_recordUnlessError 19 = .ok (.aload_n 0, 1) := by decide +kernel
theorem dX0_recordUnlessError_20 : decode cX0_recordUnlessError 20 = .ok (.getfield 18, 3) := by decide +kernel
theorem dX0_recordUnlessError_23 : decode cX0_recordUnlessError 23 = .ok (.iconst 1, 1) := by decide +kernel
theorem dX0_recordUnlessError_24 : decode cX0_recordUnlessError 24 = .ok (.iadd, 1) := by decide +kernel
theorem dX0_recordUnlessError_25 : decode cX0_recordUnlessError 25 = .ok (.goto 4, 3) := by decide +kernel
theorem dX0_recordUnlessError_28 : decode cX0_recordUnlessError 28 = .ok (.iconst 0, 1) := by decide +kernel
theorem dX0_recordUnlessError_29 : decode cX0_recordUnlessError 29 = .ok (.putfield 18, 3) := by decide +kernel
theorem dX0_recordUnlessError_32 : decode cX0_recordUnlessError 32 = .ok (.aload_n 0, 1) := by decide +kernel
theorem dX0_recordUnlessError_33 : decode cX0_recordUnlessError 33 = .ok (.aload_n 0, 1) := by decide +kernel
theorem dX0_recordUnlessError_34 : decode cX0_recordUnlessError 34 = .ok (.getfield 26, 3) := by decide +kernel
theorem dX0_recordUnlessError_37 : decode cX0_recordUnlessError 37 = .ok (.bipush 6, 2) := by decide +kernel
theorem dX0_recordUnlessError_39 : decode cX0_recordUnlessError 39 = .ok (.if_icmp .ge 12, 3) := by decide +kernel
theorem dX0_recordUnlessError_42 : decode cX0_recordUnlessError 42 = .ok (.aload_n 0, 1) := by decide +kernel
theorem dX0_recordUnlessError_43 : decode cX0_recordUnlessError 43 = .ok (.getfield 26, 3) := by decide +kernel
theorem dX0_recordUnlessError_46 : decode cX0_recordUnlessError 46 = .ok (.iconst 1, 1) := by decide +kernel
theorem dX0_recordUnlessError_47 : decode cX0_recordUnlessError 47 = .ok (.iadd, 1) := by decide +kernel
theorem dX0_recordUnlessError_48 : decode cX0_recordUnlessError 48 = .ok (.goto 5, 3) := by decide +kernel
theorem dX0_recordUnlessError_51 : decode cX0_recordUnlessError 51 = .ok (.bipush 6, 2) := by decide +kernel
theorem dX0_recordUnlessError_53 : decode cX0_recordUnlessError 53 = .ok (.putfield 26, 3) := by decide +kernel
theorem dX0_recordUnlessError_56 : decode cX0_recordUnlessError 56 = .ok (.iload_n 1, 1) := by decide +kernel
theorem dX0_recordUnlessError_57 : decode cX0_recordUnlessError 57 = .ok (.ireturn, 1) := by decide +kernel
theorem dX1_init_0 : decode cX1_init 0 = .ok (.aload_n 0, 1) := by decide +kernel
theorem dX1_init_1 : decode cX1_init 1 = .ok (.invokespecial 3, 3) := by decide +kernel
theorem dX1_init_4 : decode cX1_init 4 = .ok (.return_, 1) := by decide +kernel
theorem dX1_becomeNew_0 : decode cX1_becomeNew 0 = .ok (.aload_n 0, 1) := by decide +kernel
theorem dX1_becomeNew_1 : decode cX1_becomeNew 1 = .ok (.iload_n 1, 1) := by decide +kernel
theorem dX1_becomeNew_2 : decode cX1_becomeNew 2 = .ok (.putfield 9, 3) := by decide +kernel
theorem dX1_becomeNew_5 : decode cX1_becomeNew 5 = .ok (.aload_n 0, 1) := by decide +kernel
theorem dX1_becomeNew_6 : decode cX1_becomeNew 6 = .ok (.iconst 0, 1) := by decide +kernel
theorem dX1_becomeNew_7 : decode cX1_becomeNew 7 = .ok (.putfield 15, 3) := by decide +kernel
theorem dX1_becomeNew_10 : decode cX1_becomeNew 10 = .ok (.aload_n 0, 1) := by decide +kernel
theorem dX1_becomeNew_11 : decode cX1_becomeNew 11 = .ok (.iconst 0, 1) := by decide +kernel
theorem dX1_becomeNew_12 : decode cX1_becomeNew 12 = .ok (.putfield 18, 3) := by decide +kernel
theorem dX1_becomeNew_15 : decode cX1_becomeNew 15 = .ok (.aload_n 0, 1) := by decide +kernel
theorem dX1_becomeNew_16 : decode cX1_becomeNew 16 = .ok (.iconst 0, 1) := by decide +kernel
theorem dX1_becomeNew_17 : decode cX1_becomeNew 17 = .ok (.putfield 21, 3) := by decide +kernel
theorem dX1_becomeNew_20 : decode cX1_becomeNew 20 = .ok (.aload_n 0, 1) := by decide +kernel
theorem dX1_becomeNew_21 : decode cX1_becomeNew 21 = .ok (.bipush (-6), 2) := by decide +kernel
theorem dX1_becomeNew_23 : decode cX1_becomeNew 23 = .ok (.putfield 25, 3) := by decide +kernel
theorem dX1_becomeNew_26 : decode cX1_becomeNew 26 = .ok (.aload_n 0, 1) := by decide +kernel
theorem dX1_becomeNew_27 : decode cX1_becomeNew 27 = .ok (.iconst 0, 1) := by decide +kernel
theorem dX1_becomeNew_28 : decode cX1_becomeNew 28 = .ok (.putfield 28, 3) := by decide +kernel
theorem dX1_becomeNew_31 : decode cX1_becomeNew 31 = .ok (.aload_n 0, 1) := by decide +kernel
theorem dX1_becomeNew_32 : decode cX1_becomeNew 32 = .ok (.iconst 0, 1) := by decide +kernel
theorem dX1_becomeNew_33 : decode cX1_becomeNew 33 = .ok (.putfield 31, 3) := by decide +kernel
theorem dX1_becomeNew_36 : decode cX1_becomeNew 36 = .ok (.aload_n 0, 1) := by decide +kernel
theorem dX1_becomeNew_37 : decode cX1_becomeNew 37 = .ok (.iconst 0, 1) := by decide +kernel
theorem dX1_becomeNew_38 : decode cX1_becomeNew 38 = .ok (.putfield 34, 3) := by decide +kernel
theorem dX1_becomeNew_41 : decode cX1_becomeNew 41 = .ok (.aload_n 0, 1) := by decide +kernel
theorem dX1_becomeNew_42 : decode cX1_becomeNew 42 = .ok (.iconst 0, 1) := by decide +kernel
theorem dX1_becomeNew_43 : decode cX1_becomeNew 43 = .ok (.putfield 37, 3) := by decide +kernel
theorem dX1_becomeNew_46 : decode cX1_becomeNew 46 = .ok (.aload_n 0, 1) := by decide +kernel
theorem dX1_becomeNew_47 : decode cX1_becomeNew 47 = .ok (.iconst 0, 1) := by decide +kernel
theorem dX1_becomeNew_48 : decode cX1_becomeNew 48 = .ok (.putfield 40, 3) := by decide +kernel
theorem dX1_becomeNew_51 : decode cX1_becomeNew 51 = .ok (.aload_n 0, 1) := by decide +kernel
theorem dX1_becomeNew_52 : decode cX1_becomeNew 52 = .ok (.iconst 0, 1) := by decide +kernel
theorem dX1_becomeNew_53 : decode cX1_becomeNew 53 = .ok (.putfield 43, 3) := by decide +kernel
theorem dX1_becomeNew_56 : decode cX1_becomeNew 56 = .ok (.aload_n 0, 1) := by decide +kernel
theorem dX1_becomeNew_57 : decode cX1_becomeNew 57 = .ok (.iconst 0, 1) := by decide +kernel
theorem dX1_becomeNew_58 : decode cX1_becomeNew 58 = .ok (.putfield 46, 3) := by decide +kernel
theorem dX1_becomeNew_61 : decode cX1_becomeNew 61 = .ok (.aload_n 0, 1) := by decide +kernel
theorem dX1_becomeNew_62 : decode cX1_becomeNew 62 = .ok (.iconst 0, 1) := by decide +kernel
theorem dX1_becomeNew_63 : decode cX1_becomeNew 63 = .ok (.putfield 49, 3) := by decide +kernel
theorem dX1_becomeNew_66 : decode cX1_becomeNew 66 = .ok (.return_, 1) := by decide +kernel
theorem dX1_shape_0 : decode cX1_shape 0 = .ok (.aload_n 0, 1) := by decide +kernel
theorem dX1_shape_1 : decode cX1_shape 1 = .ok (.iload_n 1, 1) := by decide +kernel
theorem dX1_shape_2 : decode cX1_shape 2 = .ok (.putfield 52, 3) := by decide +kernel
theorem dX1_shape_5 : decode cX1_shape 5 = .ok (.aload_n 0, 1) := by decide +kernel
theorem dX1_shape_6 : decode cX1_shape 6 = .ok (.iload_n 2, 1) := by decide +kernel
theorem dX1_shape_7 : decode cX1_shape 7 = .ok (.putfield 55, 3) := by decide +kernel
theorem dX1_shape_10 : decode cX1_shape 10 = .ok (.aload_n 0, 1) := by decide +kernel
theorem dX1_shape_11 : decode cX1_shape 11 = .ok (.iload_n 3, 1) := by decide +kernel
theorem dX1_shape_12 : decode cX1_shape 12 = .ok (.putfield 58, 3) := by decide +kernel
theorem dX1_shape_15 : decode cX1_shape 15 = .ok (.return_, 1) := by decide +kernel
theorem dX1_copyFrom_0 : decode cX1_copyFrom 0 = .ok (.aload_n 0, 1) := by decide +kernel
theorem dX1_copyFrom_1 : decode cX1_copyFrom 1 = .ok (.aload_n 1, 1) := by decide +kernel
theorem dX1_copyFrom_2 : decode cX1_copyFrom 2 = .ok (.getfield 52, 3) := by decide +kernel
theorem dX1_copyFrom_5 : decode cX1_copyFrom 5 = .ok (.putfield 52, 3) := by decide +kernel
theorem dX1_copyFrom_8 : decode cX1_copyFrom 8 = .ok (.aload_n 0, 1) := by decide +kernel
theorem dX1_copyFrom_9 : decode cX1_copyFrom 9 = .ok (.aload_n 1, 1) := by decide +kernel
theorem dX1_copyFrom_10 : decode cX1_copyFrom 10 = .ok (.getfield 55, 3) := by decide +kernel
theorem dX1_copyFrom_13 : decode cX1_copyFrom 13 = .ok (.putfield 55, 3) := by decide +kernel
theorem dX1_copyFrom_16 : decode cX1_copyFrom 16 = .ok (.aload_n 0, 1) := by decide +kernel
theorem dX1_copyFrom_17 : decode cX1_copyFrom 17 = .ok (.aload_n 1, 1) := by decide +kernel
theorem dX1_copyFrom_18 : decode cX1_copyFrom 18 = .ok (.getfield 58, 3) := by decide +kernel
theorem dX1_copyFrom_21 : decode cX1_copyFrom 21 = .ok (.putfield 58, 3) := by decide +kernel
theorem dX1_copyFrom_24 : decode cX1_copyFrom 24 = .ok (.aload_n 0, 1) := by decide +kernel
theorem dX1_copyFrom_25 : decode cX1_copyFrom 25 = .ok (.aload_n 1, 1) := by decide +kernel
theorem dX1_copyFrom_26 : decode cX1_copyFrom 26 = .ok (.getfield 9, 3) := by decide +kernel
theorem dX1_copyFrom_29 : decode cX1_copyFrom 29 = .ok (.putfield 9, 3) := by decide +kernel
theorem dX1_copyFrom_32 : decode cX1_copyFrom 32 = .ok (.aload_n 0, 1) := by decide +kernel
theorem dX1_copyFrom_33 : decode cX1_copyFrom 33 = .ok (.aload_n 1, 1) := by decide +kernel
theorem dX1_copyFrom_34 : decode cX1_copyFrom 34 = .ok (.getfield 15, 3) := by decide +kernel
theorem dX1_copyFrom_37 : decode cX1_copyFrom 37 = .ok (.putfield 15, 3) := by decide +kernel
theorem dX1_copyFrom_40 : decode cX1_copyFrom 40 = .ok (.aload_n 0, 1) := by decide +kernel
theorem dX1_copyFrom_41 : decode cX1_copyFrom 41 = .ok (.aload_n 1, 1) := by decide +kernel
theorem dX1_copyFrom_42 : decode cX1_copyFrom 42 = .ok (.getfield 18, 3) := by decide +kernel
theorem dX1_copyFrom_45 : decode cX1_copyFrom 45 = .ok (.putfield 18, 3) := by decide +kernel
theorem dX1_copyFrom_48 : decode cX1_copyFrom 48 = .ok (.aload_n 0, 1) := by decide +kernel
theorem dX1_copyFrom_49 : decode cX1_copyFrom 49 = .ok (.aload_n 1, 1) := by decide +kernel
theorem dX1_copyFrom_50 : decode cX1_copyFrom 50 = .ok (.getfield 21, 3) := by decide +kernel
theorem dX1_copyFrom_53 : decode cX1_copyFrom 53 = .ok (.putfield 21, 3) := by decide +kernel
theorem dX1_copyFrom_56 : decode cX1_copyFrom 56 = .ok (.aload_n 0, 1) := by decide +kernel
theorem dX1_copyFrom_57 : decode cX1_copyFrom 57 = .ok (.aload_n 1, 1) := by decide +kernel
theorem dX1_copyFrom_58 : decode cX1_copyFrom 58 = .ok (.getfield 25, 3) := by decide +kernel
theorem dX1_copyFrom_61 : decode cX1_copyFrom 61 = .ok (.putfield 25, 3) := by decide +kernel
theorem dX1_copyFrom_64 : decode cX1_copyFrom 64 = .ok (.aload_n 0, 1) := by decide +kernel
theorem dX1_copyFrom_65 : decode cX1_copyFrom 65 = .ok (.aload_n 1, 1) := by decide +kernel
theorem dX1_copyFrom_66 : decode cX1_copyFrom 66 = .ok (.getfield 28, 3) := by decide +kernel
theorem dX1_copyFrom_69 : decode cX1_copyFrom 69 = .ok (.putfield 28, 3) := by decide +kernel
theorem dX1_copyFrom_72 : decode cX1_copyFrom 72 = .ok (.aload_n 0, 1) := by decide +kernel
theorem dX1_copyFrom_73 : decode cX1_copyFrom 73 = .ok (.aload_n 1, 1) := by decide +kernel
theorem dX1_copyFrom_74 : decode cX1_copyFrom 74 = .ok (.getfield 31, 3) := by decide +kernel
theorem dX1_copyFrom_77 : decode cX1_copyFrom 77 = .ok (.putfield 31, 3) := by decide +kernel
theorem dX1_copyFrom_80 : decode cX1_copyFrom 80 = .ok (.aload_n 0, 1) := by decide +kernel
theorem dX1_copyFrom_81 : decode cX1_copyFrom 81 = .ok (.aload_n 1, 1) := by decide +kernel
theorem dX1_copyFrom_82 : decode cX1_copyFrom 82 = .ok (.getfield 34, 3) := by decide +kernel
theorem dX1_copyFrom_85 : decode cX1_copyFrom 85 = .ok (.putfield 34, 3) := by decide +kernel
theorem dX1_copyFrom_88 : decode cX1_copyFrom 88 = .ok (.aload_n 0, 1) := by decide +kernel
theorem dX1_copyFrom_89 : decode cX1_copyFrom 89 = .ok (.aload_n 1, 1) := by decide +kernel
theorem dX1_copyFrom_90 : decode cX1_copyFrom 90 = .ok (.getfield 37, 3) := by decide +kernel
theorem dX1_copyFrom_93 : decode cX1_copyFrom 93 = .ok (.putfield 37, 3) := by decide +kernel
theorem dX1_copyFrom_96 : decode cX1_copyFrom 96 = .ok (.aload_n 0, 1) := by decide +kernel
theorem dX1_copyFrom_97 : decode cX1_copyFrom 97 = .ok (.aload_n 1, 1) := by decide +kernel
theorem dX1_copyFrom_98 : decode cX1_copyFrom 98 = .ok (.getfield 40, 3) := by decide +kernel
theorem dX1_copyFrom_101 : decode cX1_copyFrom 101 = .ok (.putfield 40, 3) := by decide +kernel
theorem dX1_copyFrom_104 : decode cX1_copyFrom 104 = .ok (.aload_n 0, 1) := by decide +kernel
theorem dX1_copyFrom_105 : decode cX1_copyFrom 105 = .ok (.aload_n 1, 1) := by decide +kernel
theorem dX1_copyFrom_106 : decode cX1_copyFrom 106 = .ok (.getfield 43, 3) := by decide +kernel
theorem dX1_copyFrom_109 : decode cX1_copyFrom 109 = .ok (.putfield 43, 3) := by decide +kernel
theorem dX1_copyFrom_112 : decode cX1_copyFrom 112 = .ok (.aload_n 0, 1) := by decide +kernel
theorem dX1_copyFrom_113 : decode cX1_copyFrom 113 = .ok (.aload_n 1, 1) := by decide +kernel
theorem dX1_copyFrom_114 : decode cX1_copyFrom 114 = .ok (.getfield 46, 3) := by decide +kernel
theorem dX1_copyFrom_117 : decode cX1_copyFrom 117 = .ok (.putfield 46, 3) := by decide +kernel
theorem dX1_copyFrom_120 : decode cX1_copyFrom 120 = .ok (.aload_n 0, 1) := by decide +kernel
theorem dX1_copyFrom_121 : decode cX1_copyFrom 121 = .ok (.aload_n 1, 1) := by decide +kernel
theorem dX1_copyFrom_122 : decode cX1_copyFrom 122 = .ok (.getfield 49, 3) := by decide +kernel
theorem dX1_copyFrom_125 : decode cX1_copyFrom 125 = .ok (.putfield 49, 3) := by decide +kernel
theorem dX1_copyFrom_128 : decode cX1_copyFrom 128 = .ok (.return_, 1) := by decide +kernel
theorem dX1_presentRank_0 : decode cX1_presentRank 0 = .ok (.aload_n 0, 1) := by decide +kernel
theorem dX1_presentRank_1 : decode cX1_presentRank 1 = .ok (.getfield 18, 3) := by decide +kernel
theorem dX1_presentRank_4 : decode cX1_presentRank 4 = .ok (.ifCond .eq 15, 3) := by decide +kernel
theorem dX1_presentRank_7 : decode cX1_presentRank 7 = .ok (.iload_n 1, 1) := by decide +kernel
theorem dX1_presentRank_8 : decode cX1_presentRank 8 = .ok (.ifCond .le 11, 3) := by decide +kernel
theorem dX1_presentRank_11 : decode cX1_presentRank 11 = .ok (.aload_n 0, 1) := by decide +kernel
theorem dX1_presentRank_12 : decode cX1_presentRank 12 = .ok (.getfield 52, 3) := by decide +kernel
theorem dX1_presentRank_15 : decode cX1_presentRank 15 = .ok (.iload_n 2, 1) := by decide +kernel
theorem dX1_presentRank_16 : decode cX1_presentRank 16 = .ok (.if_icmp .lt 8, 3) := by decide +kernel
theorem dX1_presentRank_19 : decode cX1_presentRank 19 = .ok (.aload_n 0, 1) := by decide +kernel
theorem dX1_presentRank_20 : decode cX1_presentRank 20 = .ok (.getfield 52, 3) := by decide +kernel
theorem dX1_presentRank_23 : decode cX1_presentRank 23 = .ok (.ireturn, 1) := by decide +kernel
theorem dX1_presentRank_24 : decode cX1_presentRank 24 = .ok (.aload_n 0, 1) := by decide +kernel
theorem dX1_presentRank_25 : decode cX1_presentRank 25 = .ok (.getfield 52, 3) := by decide +kernel
theorem dX1_presentRank_28 : decode cX1_presentRank 28 = .ok (.aload_n 0, 1) := by decide +kernel
theorem dX1_presentRank_29 : decode cX1_presentRank 29 = .ok (.getfield 21, 3) := by decide +kernel
theorem dX1_presentRank_32 : decode cX1_presentRank 32 = .ok (.iload_n 1, 1) := by decide +kernel
theorem dX1_presentRank_33 : decode cX1_presentRank 33 = .ok (.idiv, 1) := by decide +kernel
theorem dX1_presentRank_34 : decode cX1_presentRank 34 = .ok (.iadd, 1) := by decide +kernel
theorem dX1_presentRank_35 : decode cX1_presentRank 35 = .ok (.istore_n 3, 1) := by decide +kernel
theorem dX1_presentRank_36 : decode cX1_presentRank 36 = .ok (.iload_n 3, 1) := by decide +kernel
theorem dX1_presentRank_37 : decode cX1_presentRank 37 = .ok (.iload_n 2, 1) := by decide +kernel
theorem dX1_presentRank_38 : decode cX1_presentRank 38 = .ok (.if_icmp .ge 7, 3) := by decide +kernel
theorem dX1_presentRank_41 : decode cX1_presentRank 41 = .ok (.iload_n 3, 1) := by decide +kernel
theorem dX1_presentRank_42 : decode cX1_presentRank 42 = .ok (.goto 4, 3) := by decide +kernel
theorem dX1_presentRank_45 : decode cX1_presentRank 45 = .ok (.iload_n 2, 1) := by decide +kernel
theorem dX1_presentRank_46 : decode cX1_presentRank 46 = .ok (.ireturn, 1) := by decide +kernel
theorem dX1_mayBegin_0 : decode cX1_mayBegin 0 = .ok (.aload_n 0, 1) := by decide +kernel
theorem dX1_mayBegin_1 : decode cX1_mayBegin 1 = .ok (.getfield 18, 3) := by decide +kernel
theorem dX1_mayBegin_4 : decode cX1_mayBegin 4 = .ok (.ifCond .eq 23, 3) := by decide +kernel
theorem dX1_mayBegin_7 : decode cX1_mayBegin 7 = .ok (.aload_n 0, 1) := by decide +kernel
theorem dX1_mayBegin_8 : decode cX1_mayBegin 8 = .ok (.getfield 15, 3) := by decide +kernel
theorem dX1_mayBegin_11 : decode cX1_mayBegin 11 = .ok (.ifCond .ne 16, 3) := by decide +kernel
theorem dX1_mayBegin_14 : decode cX1_mayBegin 14 = .ok (.aload_n 0, 1) := by decide +kernel
theorem dX1_mayBegin_15 : decode cX1_mayBegin 15 = .ok (.getfield 25, 3) := by decide +kernel
theorem dX1_mayBegin_18 : decode cX1_mayBegin 18 = .ok (.bipush (-6), 2) := by decide +kernel
theorem dX1_mayBegin_20 : decode cX1_mayBegin 20 = .ok (.if_icmp .ne 7, 3) := by decide +kernel
theorem dX1_mayBegin_23 : decode cX1_mayBegin 23 = .ok (.iconst 1, 1) := by decide +kernel
theorem dX1_mayBegin_24 : decode cX1_mayBegin 24 = .ok (.goto 4, 3) := by decide +kernel
theorem dX1_mayBegin_27 : decode cX1_mayBegin 27 = .ok (.iconst 0, 1) := by decide +kernel
theorem dX1_mayBegin_28 : decode cX1_mayBegin 28 = .ok (.ireturn, 1) := by decide +kernel
theorem dX1_takeEdge_0 : decode cX1_takeEdge 0 = .ok (.aload_n 0, 1) := by decide +kernel
theorem dX1_takeEdge_1 : decode cX1_takeEdge 1 = .ok (.dup, 1) := by decide +kernel
theorem dX1_takeEdge_2 : decode cX1_takeEdge 2 = .ok (.getfield 31, 3) := by decide +kernel
theorem dX1_takeEdge_5 : decode cX1_takeEdge 5 = .ok (.iconst 1, 1) := by decide +kernel
theorem dX1_takeEdge_6 : decode cX1_takeEdge 6 = .ok (.iadd, 1) := by decide +kernel
theorem dX1_takeEdge_7 : decode cX1_takeEdge 7 = .ok (.putfield 31, 3) := by decide +kernel
theorem dX1_takeEdge_10 : decode cX1_takeEdge 10 = .ok (.aload_n 0, 1) := by decide +kernel
theorem dX1_takeEdge_11 : decode cX1_takeEdge 11 = .ok (.getfield 18, 3) := by decide +kernel
theorem dX1_takeEdge_14 : decode cX1_takeEdge 14 = .ok (.ifCond .ne 14, 3) := by decide +kernel
theorem dX1_takeEdge_17 : decode cX1_takeEdge 17 = .ok (.aload_n 0, 1) := by decide +kernel
theorem dX1_takeEdge_18 : decode cX1_takeEdge 18 = .ok (.getfield 15, 3) := by decide +kernel
theorem dX1_takeEdge_21 : decode cX1_takeEdge 21 = .ok (.ifCond .eq 19, 3) := by decide +kernel
theorem dX1_takeEdge_24 : decode cX1_takeEdge 24 = .ok (.iload_n 1, 1) := by decide +kernel
theorem dX1_takeEdge_25 : decode cX1_takeEdge 25 = .ok (.ifCond .ne 15, 3) := by decide +kernel
theorem dX1_takeEdge_28 : decode cX1_takeEdge 28 = .ok (.aload_n 0, 1) := by decide +kernel
theorem dX1_takeEdge_29 : decode cX1_takeEdge 29 = .ok (.dup, 1) := by decide +kernel
theorem dX1_takeEdge_30 : decode cX1_takeEdge 30 = .ok (.getfield 34, 3) := by decide +kernel
theorem dX1_takeEdge_33 : decode cX1_takeEdge 33 = .ok (.iconst 1, 1) := by decide +kernel
theorem dX1_takeEdge_34 : decode cX1_takeEdge 34 = .ok (.iadd, 1) := by decide +kernel
theorem dX1_takeEdge_35 : decode cX1_takeEdge 35 = .ok (.putfield 34, 3) := by decide +kernel
theorem dX1_takeEdge_38 : decode cX1_takeEdge 38 = .ok (.iconst 0, 1) := by decide +kernel
theorem dX1_takeEdge_39 : decode cX1_takeEdge 39 = .ok (.ireturn, 1) := by decide +kernel
theorem dX1_takeEdge_40 : decode cX1_takeEdge 40 = .ok (.aload_n 0, 1) := by decide +kernel
theorem dX1_takeEdge_41 : decode cX1_takeEdge 41 = .ok (.iconst 1, 1) := by decide +kernel
theorem dX1_takeEdge_42 : decode cX1_takeEdge 42 = .ok (.putfield 18, 3) := by decide +kernel
theorem dX1_takeEdge_45 : decode cX1_takeEdge 45 = .ok (.aload_n 0, 1) := by decide +kernel
theorem dX1_takeEdge_46 : decode cX1_takeEdge 46 = .ok (.iconst 0, 1) := by decide +kernel
theorem dX1_takeEdge_47 : decode cX1_takeEdge 47 = .ok (.putfield 21, 3) := by decide +kernel
theorem dX1_takeEdge_50 : decode cX1_takeEdge 50 = .ok (.iconst 1, 1) := by decide +kernel
theorem dX1_takeEdge_51 : decode cX1_takeEdge 51 = .ok (.ireturn, 1) := by decide +kernel
theorem dX1_moveDevice_0 : decode cX1_moveDevice 0 = .ok (.iconst 1, 1) := by decide +kernel
theorem dX1_moveDevice_1 : decode cX1_moveDevice 1 = .ok (.iload_n 1, 1) := by decide +kernel
theorem dX1_moveDevice_2 : decode cX1_moveDevice 2 = .ok (.ishl, 1) := by decide +kernel
theorem dX1_moveDevice_3 : decode cX1_moveDevice 3 = .ok (.istore_n 3, 1) := by decide +kernel
theorem dX1_moveDevice_4 : decode cX1_moveDevice 4 = .ok (.aload_n 0, 1) := by decide +kernel
theorem dX1_moveDevice_5 : decode cX1_moveDevice 5 = .ok (.iload_n 2, 1) := by decide +kernel
theorem dX1_moveDevice_6 : decode cX1_moveDevice 6 = .ok (.ifCond .eq 12, 3) := by decide +kernel
theorem dX1_moveDevice_9 : decode cX1_moveDevice 9 = .ok (.aload_n 0, 1) := by decide +kernel
theorem dX1_moveDevice_10 : decode cX1_moveDevice 10 = .ok (.getfield 28, 3) := by decide +kernel
theorem dX1_moveDevice_13 : decode cX1_moveDevice 13 = .ok (.iload_n 3, 1) := by decide +kernel
theorem dX1_moveDevice_14 : decode cX1_moveDevice 14 = .ok (.ior, 1) := by decide +kernel
theorem dX1_moveDevice_15 : decode cX1_moveDevice 15 = .ok (.goto 11, 3) := by decide +kernel
theorem dX1_moveDevice_18 : decode cX1_moveDevice 18 = .ok (.aload_n 0, 1) := by decide +kernel
theorem dX1_moveDevice_19 : decode cX1_moveDevice 19 = .ok (.getfield 28, 3) := by decide +kernel
theorem dX1_moveDevice_22 : decode cX1_moveDevice 22 = .ok (.iload_n 3, 1) := by decide +kernel
theorem dX1_moveDevice_23 : decode cX1_moveDevice 23 = .ok (.iconst (-1), 1) := by decide +kernel
theorem dX1_moveDevice_24 : decode cX1_moveDevice 24 = .ok (.ixor, 1) := by decide +kernel
theorem dX1_moveDevice_25 : decode cX1_moveDevice 25 = .ok (.iand, 1) := by decide +kernel
theorem dX1_moveDevice_26 : decode cX1_moveDevice 26 = .ok (.putfield 28, 3) := by decide +kernel
theorem dX1_moveDevice_29 : decode cX1_moveDevice 29 = .ok (.aload_n 0, 1) := by decide +kernel
theorem dX1_moveDevice_30 : decode cX1_moveDevice 30 = .ok (.invokevirtual 61, 3) := by decide +kernel
theorem dX1_moveDevice_33 : decode cX1_moveDevice 33 = .ok (.return_, 1) := by decide +kernel
theorem dX1_followDevices_0 : decode cX1_followDevices 0 = .ok (.aload_n 0, 1) := by decide +kernel
theorem dX1_followDevices_1 : decode cX1_followDevices 1 = .ok (.getfield 28, 3) := by decide +kernel
theorem dX1_followDevices_4 : decode cX1_followDevices 4 = .ok (.ifCond .eq 16, 3) := by decide +kernel
theorem dX1_followDevices_7 : decode cX1_followDevices 7 = .ok (.aload_n 0, 1) := by decide +kernel
theorem dX1_followDevices_8 : decode cX1_followDevices 8 = .ok (.getfield 25, 3) := by decide +kernel
theorem dX1_followDevices_11 : decode cX1_followDevices 11 = .ok (.bipush (-6), 2) := by decide +kernel
theorem dX1_followDevices_13 : decode cX1_followDevices 13 = .ok (.if_icmp .ne 7, 3) := by decide +kernel
theorem dX1_followDevices_16 : decode cX1_followDevices 16 = .ok (.iconst 1, 1) := by decide +kernel
theorem dX1_followDevices_17 : decode cX1_followDevices 17 = .ok (.goto 4, 3) := by decide +kernel
theorem dX1_followDevices_20 : decode cX1_followDevices 20 = .ok (.iconst 0, 1) := by decide +kernel
theorem dX1_followDevices_21 : decode cX1_followDevices 21 = .ok (.istore_n 1, 1) := by decide +kernel
theorem dX1_followDevices_22 : decode cX1_followDevices 22 = .ok (.iload_n 1, 1) := by decide +kernel
theorem dX1_followDevices_23 : decode cX1_followDevices 23 = .ok (.ifCond .eq 15, 3) := by decide +kernel
theorem dX1_followDevices_26 : decode cX1_followDevices 26 = .ok (.aload_n 0, 1) := by decide +kernel
theorem dX1_followDevices_27 : decode cX1_followDevices 27 = .ok (.getfield 18, 3) := by decide +kernel
theorem dX1_followDevices_30 : decode cX1_followDevices 30 = .ok (.ifCond .ne 8, 3) := by decide +kernel
theorem dX1_followDevices_33 : decode cX1_followDevices 33 = .ok (.aload_n 0, 1) := by decide +kernel
theorem dX1_followDevices_34 : decode cX1_followDevices 34 = .ok (.iconst 0, 1) := by decide +kernel
theorem dX1_followDevices_35 : decode cX1_followDevices 35 = .ok (.putfield 21, 3) := by decide +kernel
theorem dX1_followDevices_38 : decode cX1_followDevices 38 = .ok (.aload_n 0, 1) := by decide +kernel
theorem dX1_followDevices_39 : decode cX1_followDevices 39 = .ok (.iload_n 1, 1) := by decide +kernel
theorem dX1_followDevices_40 : decode cX1_followDevices 40 = .ok (.putfield 18, 3) := by decide +kernel
theorem dX1_followDevices_43 : decode cX1_followDevices 43 = .ok (.return_, 1) := by decide +kernel
theorem dX1_enterNest_0 : decode cX1_enterNest 0 = .ok (.aload_n 0, 1) := by decide +kernel
theorem dX1_enterNest_1 : decode cX1_enterNest 1 = .ok (.iload_n 1, 1) := by decide +kernel
theorem dX1_enterNest_2 : decode cX1_enterNest 2 = .ok (.putfield 25, 3) := by decide +kernel
theorem dX1_enterNest_5 : decode cX1_enterNest 5 = .ok (.aload_n 0, 1) := by decide +kernel
theorem dX1_enterNest_6 : decode cX1_enterNest 6 = .ok (.iconst 0, 1) := by decide +kernel
theorem dX1_enterNest_7 : decode cX1_enterNest 7 = .ok (.putfield 18, 3) := by decide +kernel
theorem dX1_enterNest_10 : decode cX1_enterNest 10 = .ok (.aload_n 0, 1) := by decide +kernel
theorem dX1_enterNest_11 : decode cX1_enterNest 11 = .ok (.dup, 1) := by decide +kernel
theorem dX1_enterNest_12 : decode cX1_enterNest 12 = .ok (.getfield 37, 3) := by decide +kernel
theorem dX1_enterNest_15 : decode cX1_enterNest 15 = .ok (.iconst 1, 1) := by decide +kernel
theorem dX1_enterNest_16 : decode cX1_enterNest 16 = .ok (.iadd, 1) := by decide +kernel
theorem dX1_enterNest_17 : decode cX1_enterNest 17 = .ok (.putfield 37, 3) := by decide +kernel
theorem dX1_enterNest_20 : decode cX1_enterNest 20 = .ok (.aload_n 0, 1) := by decide +kernel
theorem dX1_enterNest_21 : decode cX1_enterNest 21 = .ok (.dup, 1) := by decide +kernel
theorem dX1_enterNest_22 : decode cX1_enterNest 22 = .ok (.getfield 46, 3) := by decide +kernel
theorem dX1_enterNest_25 : decode cX1_enterNest 25 = .ok (.aload_n 0, 1) := by decide +kernel
theorem dX1_enterNest_26 : decode cX1_enterNest 26 = .ok (.getfield 21, 3) := by decide +kernel
theorem dX1_enterNest_29 : decode cX1_enterNest 29 = .ok (.iadd, 1) := by decide +kernel
theorem dX1_enterNest_30 : decode cX1_enterNest 30 = .ok (.putfield 46, 3) := by decide +kernel
theorem dX1_enterNest_33 : decode cX1_enterNest 33 = .ok (.aload_n 0, 1) := by decide +kernel
theorem dX1_enterNest_34 : decode cX1_enterNest 34 = .ok (.getfield 21, 3) := by decide +kernel
theorem dX1_enterNest_37 : decode cX1_enterNest 37 = .ok (.aload_n 0, 1) := by decide +kernel
theorem dX1_enterNest_38 : decode cX1_enterNest 38 = .ok (.getfield 43, 3) := by decide +kernel
theorem dX1_enterNest_41 : decode cX1_enterNest 41 = .ok (.if_icmp .le 11, 3) := by decide +kernel
theorem dX1_enterNest_44 : decode cX1_enterNest 44 = .ok (.aload_n 0, 1) := by decide +kernel
theorem dX1_enterNest_45 : decode cX1_enterNest 45 = .ok (.aload_n 0, 1) := by decide +kernel
theorem dX1_enterNest_46 : decode cX1_enterNest 46 = .ok (.getfield 21, 3) := by decide +kernel
theorem dX1_enterNest_49 : decode cX1_enterNest 49 = .ok (.putfield 43, 3) := by decide +kernel
theorem dX1_enterNest_52 : decode cX1_enterNest 52 = .ok (.aload_n 0, 1) := by decide +kernel
theorem dX1_enterNest_53 : decode cX1_enterNest 53 = .ok (.getfield 58, 3) := by decide +kernel
theorem dX1_enterNest_56 : decode cX1_enterNest 56 = .ok (.ifCond .le 24, 3) := by decide +kernel
theorem dX1_enterNest_59 : decode cX1_enterNest 59 = .ok (.aload_n 0, 1) := by decide +kernel
theorem dX1_enterNest_60 : decode cX1_enterNest 60 = .ok (.getfield 21, 3) := by decide +kernel
theorem dX1_enterNest_63 : decode cX1_enterNest 63 = .ok (.aload_n 0, 1) := by decide +kernel
theorem dX1_enterNest_64 : decode cX1_enterNest 64 = .ok (.getfield 58, 3) := by decide +kernel
theorem dX1_enterNest_67 : decode cX1_enterNest 67 = .ok (.if_icmp .le 13, 3) := by decide +kernel
theorem dX1_enterNest_70 : decode cX1_enterNest 70 = .ok (.aload_n 0, 1) := by decide +kernel
theorem dX1_enterNest_71 : decode cX1_enterNest 71 = .ok (.dup, 1) := by decide +kernel
theorem dX1_enterNest_72 : decode cX1_enterNest 72 = .ok (.getfield 49, 3) := by decide +kernel
theorem dX1_enterNest_75 : decode cX1_enterNest 75 = .ok (.iconst 1, 1) := by decide +kernel
theorem dX1_enterNest_76 : decode cX1_enterNest 76 = .ok (.iadd, 1) := by decide +kernel
theorem dX1_enterNest_77 : decode cX1_enterNest 77 = .ok (.putfield 49, 3) := by decide +kernel
theorem dX1_enterNest_80 : decode cX1_enterNest 80 = .ok (.return_, 1) := by decide +kernel
theorem dX1_leaveNest_0 : decode cX1_leaveNest 0 = .ok (.aload_n 0, 1) := by decide +kernel
theorem dX1_leaveNest_1 : decode cX1_leaveNest 1 = .ok (.bipush (-6), 2) := by decide +kernel
theorem dX1_leaveNest_3 : decode cX1_leaveNest 3 = .ok (.putfield 25, 3) := by decide +kernel
theorem dX1_leaveNest_6 : decode cX1_leaveNest 6 = .ok (.aload_n 0, 1) := by decide +kernel
theorem dX1_leaveNest_7 : decode cX1_leaveNest 7 = .ok (.dup, 1) := by decide +kernel
theorem dX1_leaveNest_8 : decode cX1_leaveNest 8 = .ok (.getfield 40, 3) := by decide +kernel
theorem dX1_leaveNest_11 : decode cX1_leaveNest 11 = .ok (.iconst 1, 1) := by decide +kernel
theorem dX1_leaveNest_12 : decode cX1_leaveNest 12 = .ok (.iadd, 1) := by decide +kernel
theorem dX1_leaveNest_13 : decode cX1_leaveNest 13 = .ok (.putfield 40, 3) := by decide +kernel
theorem dX1_leaveNest_16 : decode cX1_leaveNest 16 = .ok (.aload_n 0, 1) := by decide +kernel
theorem dX1_leaveNest_17 : decode cX1_leaveNest 17 = .ok (.getfield 9, 3) := by decide +kernel
theorem dX1_leaveNest_20 : decode cX1_leaveNest 20 = .ok (.ifCond .eq 22, 3) := by decide +kernel
theorem dX1_leaveNest_23 : decode cX1_leaveNest 23 = .ok (.aload_n 0, 1) := by decide +kernel
theorem dX1_leaveNest_24 : decode cX1_leaveNest 24 = .ok (.dup, 1) := by decide +kernel
theorem dX1_leaveNest_25 : decode cX1_leaveNest 25 = .ok (.getfield 28, 3) := by decide +kernel
theorem dX1_leaveNest_28 : decode cX1_leaveNest 28 = .ok (.aload_n 0, 1) := by decide +kernel
theorem dX1_leaveNest_29 : decode cX1_leaveNest 29 = .ok (.getfield 28, 3) := by decide +kernel
theorem dX1_leaveNest_32 : decode cX1_leaveNest 32 = .ok (.iconst 1, 1) := by decide +kernel
theorem dX1_leaveNest_33 : decode cX1_leaveNest 33 = .ok (.isub, 1) := by decide +kernel
theorem dX1_leaveNest_34 : decode cX1_leaveNest 34 = .ok (.iand, 1) := by decide +kernel
theorem dX1_leaveNest_35 : decode cX1_leaveNest 35 = .ok (.putfield 28, 3) := by decide +kernel
theorem dX1_leaveNest_38 : decode cX1_leaveNest 38 = .ok (.aload_n 0, 1) := by decide +kernel
theorem dX1_leaveNest_39 : decode cX1_leaveNest 39 = .ok (.invokevirtual 61, 3) := by decide +kernel
theorem dX1_leaveNest_42 : decode cX1_leaveNest 42 = .ok (.return_, 1) := by decide +kernel
theorem dX1_number_0 : decode cX1_number 0 = .ok (.iload_n 1, 1) := by decide +kernel
theorem dX1_number_1 : decode cX1_number 1 = .ok (.tableswitch 206 0 16 #[83, 88, 93, 98, 111, 124, 137, 154, 161, 166, 171, 176, 181, 186, 191, 196, 201], 83) := by decide +kernel
theorem dX1_number_84 : decode cX1_number 84 = .ok (.aload_n 0, 1) := by decide +kernel
theorem dX1_number_85 : decode cX1_number 85 = .ok (.getfield 52, 3) := by decide +kernel
theorem dX1_number_88 : decode cX1_number 88 = .ok (.ireturn, 1) := by decide +kernel
theorem dX1_number_89 : decode cX1_number 89 = .ok (.aload_n 0, 1) := by decide +kernel
theorem dX1_number_90 : decode cX1_number 90 = .ok (.getfield 55, 3) := by decide +kernel
theorem dX1_number_93 : decode cX1_number 93 = .ok (.ireturn, 1) := by decide +kernel
theorem dX1_number_94 : decode cX1_number 94 = .ok (.aload_n 0, 1) := by decide +kernel
theorem dX1_number_95 : decode cX1_number 95 = .ok (.getfield 58, 3) := by decide +kernel
theorem dX1_number_98 : decode cX1_number 98 = .ok (.ireturn, 1) := by decide +kernel
theorem dX1_number_99 : decode cX1_number 99 = .ok (.aload_n 0, 1) := by decide +kernel
theorem dX1_number_100 : decode cX1_number 100 = .ok (.getfield 9, 3) := by decide +kernel
theorem dX1_number_103 : decode cX1_number 103 = .ok (.ifCond .eq 7, 3) := by decide +kernel
theorem dX1_number_106 : decode cX1_number 106 = .ok (.iconst 1, 1) := by decide +kernel
theorem dX1_number_107 : decode cX1_number 107 = .ok (.goto 4, 3) := by decide +kernel
theorem dX1_number_110 : decode cX1_number 110 = .ok (.iconst 0, 1) := by decide +kernel
theorem dX1_number_111 : decode cX1_number 111 = .ok (.ireturn, 1) := by decide +kernel
theorem dX1_number_112 : decode cX1_number 112 = .ok (.aload_n 0, 1) := by decide +kernel
theorem dX1_number_113 : decode cX1_number 113 = .ok (.getfield 15, 3) := by decide +kernel
theorem dX1_number_116 : decode cX1_number 116 = .ok (.ifCond .eq 7, 3) := by decide +kernel
theorem dX1_number_119 : decode cX1_number 119 = .ok (.iconst 1, 1) := by decide +kernel
theorem dX1_number_120 : decode cX1_number 120 = .ok (.goto 4, 3) := by decide +kernel
theorem dX1_number_123 : decode cX1_number 123 = .ok (.iconst 0, 1) := by decide +kernel
theorem dX1_number_124 : decode cX1_number 124 = .ok (.ireturn, 1) := by decide +kernel
theorem dX1_number_125 : decode cX1_number 125 = .ok (.aload_n 0, 1) := by decide +kernel
theorem dX1_number_126 : decode cX1_number 126 = .ok (.getfield 18, 3) := by decide +kernel
theorem dX1_number_129 : decode cX1_number 129 = .ok (.ifCond .eq 7, 3) := by decide +kernel
theorem dX1_number_132 : decode cX1_number 132 = .ok (.iconst 1, 1) := by decide +kernel
theorem dX1_number_133 : decode cX1_number 133 = .ok (.goto 4, 3) := by decide +kernel
theorem dX1_number_136 : decode cX1_number 136 = .ok (.iconst 0, 1) := by decide +kernel
theorem dX1_number_137 : decode cX1_number 137 = .ok (.ireturn, 1) := by decide +kernel
theorem dX1_number_138 : decode cX1_number 138 = .ok (.aload_n 0, 1) := by decide +kernel
theorem dX1_number_139 : decode cX1_number 139 = .ok (.getfield 18, 3) := by decide +kernel
theorem dX1_number_142 : decode cX1_number 142 = .ok (.ifCond .eq 10, 3) := by decide +kernel
theorem dX1_number_145 : decode cX1_number 145 = .ok (.aload_n 0, 1) := by decide +kernel
theorem dX1_number_146 : decode cX1_number 146 = .ok (.getfield 21, 3) := by decide +kernel
theorem dX1_number_149 : decode cX1_number 149 = .ok (.goto 5, 3) := by decide +kernel
theorem dX1_number_152 : decode cX1_number 152 = .ok (.bipush (-6), 2) := by decide +kernel
theorem dX1_number_154 : decode cX1_number 154 = .ok (.ireturn, 1) := by decide +kernel
theorem dX1_number_155 : decode cX1_number 155 = .ok (.aload_n 0, 1) := by decide +kernel
theorem dX1_number_156 : decode cX1_number 156 = .ok (.iload_n 2, 1) := by decide +kernel
theorem dX1_number_157 : decode cX1_number 157 = .ok (.iload_n 3, 1) := by decide +kernel
theorem dX1_number_158 : decode cX1_number 158 = .ok (.invokevirtual 64, 3) := by decide +kernel
theorem dX1_number_161 : decode cX1_number 161 = .ok (.ireturn, 1) := by decide +kernel
theorem dX1_number_162 : decode cX1_number 162 = .ok (.aload_n 0, 1) := by decide +kernel
theorem dX1_number_163 : decode cX1_number 163 = .ok (.getfield 25, 3) := by decide +kernel
theorem dX1_number_166 : decode cX1_number 166 = .ok (.ireturn, 1) := by decide +kernel
theorem dX1_number_167 : decode cX1_number 167 = .ok (.aload_n 0, 1) := by decide +kernel
theorem dX1_number_168 : decode cX1_number 168 = .ok (.getfield 28, 3) := by decide +kernel
theorem dX1_number_171 : decode cX1_number 171 = .ok (.ireturn, 1) := by decide +kernel
theorem dX1_number_172 : decode cX1_number 172 = .ok (.aload_n 0, 1) := by decide +kernel
theorem dX1_number_173 : decode cX1_number 173 = .ok (.getfield 31, 3) := by decide +kernel
theorem dX1_number_176 : decode cX1_number 176 = .ok (.ireturn, 1) := by decide +kernel
theorem dX1_number_177 : decode cX1_number 177 = .ok (.aload_n 0, 1) := by decide +kernel
theorem dX1_number_178 : decode cX1_number 178 = .ok (.getfield 34, 3) := by decide +kernel
theorem dX1_number_181 : decode cX1_number 181 = .ok (.ireturn, 1) := by decide +kernel
theorem dX1_number_182 : decode cX1_number 182 = .ok (.aload_n 0, 1) := by decide +kernel
theorem dX1_number_183 : decode cX1_number 183 = .ok (.getfield 37, 3) := by decide +kernel
theorem dX1_number_186 : decode cX1_number 186 = .ok (.ireturn, 1) := by decide +kernel
theorem dX1_number_187 : decode cX1_number 187 = .ok (.aload_n 0, 1) := by decide +kernel
theorem dX1_number_188 : decode cX1_number 188 = .ok (.getfield 40, 3) := by decide +kernel
theorem dX1_number_191 : decode cX1_number 191 = .ok (.ireturn, 1) := by decide +kernel
theorem dX1_number_192 : decode cX1_number 192 = .ok (.aload_n 0, 1) := by decide +kernel
theorem dX1_number_193 : decode cX1_number 193 = .ok (.getfield 43, 3) := by decide +kernel
theorem dX1_number_196 : decode cX1_number 196 = .ok (.ireturn, 1) := by decide +kernel
theorem dX1_number_197 : decode cX1_number 197 = .ok (.aload_n 0, 1) := by decide +kernel
theorem dX1_number_198 : decode cX1_number 198 = .ok (.getfield 46, 3) := by decide +kernel
theorem dX1_number_201 : decode cX1_number 201 = .ok (.ireturn, 1) := by decide +kernel
theorem dX1_number_202 : decode cX1_number 202 = .ok (.aload_n 0, 1) := by decide +kernel
theorem dX1_number_203 : decode cX1_number 203 = .ok (.getfield 49, 3) := by decide +kernel
theorem dX1_number_206 : decode cX1_number 206 = .ok (.ireturn, 1) := by decide +kernel
theorem dX1_number_207 : decode cX1_number 207 = .ok (.bipush (-2), 2) := by decide +kernel
theorem dX1_number_209 : decode cX1_number 209 = .ok (.ireturn, 1) := by decide +kernel
theorem dX2_init_0 : decode cX2_init 0 = .ok (.aload_n 0, 1) := by decide +kernel
theorem dX2_init_1 : decode cX2_init 1 = .ok (.invokespecial 3, 3) := by decide +kernel
theorem dX2_init_4 : decode cX2_init 4 = .ok (.aload_n 0, 1) := by decide +kernel
theorem dX2_init_5 : decode cX2_init 5 = .ok (.bipush 80, 2) := by decide +kernel
theorem dX2_init_7 : decode cX2_init 7 = .ok (.newarray .char, 2) := by decide +kernel
theorem dX2_init_9 : decode cX2_init 9 = .ok (.putfield 9, 3) := by decide +kernel
theorem dX2_init_12 : decode cX2_init 12 = .ok (.return_, 1) := by decide +kernel
theorem dX3_init_0 : decode cX3_init 0 = .ok (.aload_n 0, 1) := by decide +kernel
theorem dX3_init_1 : decode cX3_init 1 = .ok (.invokespecial 3, 3) := by decide +kernel
theorem dX3_init_4 : decode cX3_init 4 = .ok (.aload_n 0, 1) := by decide +kernel
theorem dX3_init_5 : decode cX3_init 5 = .ok (.getstatic 9, 3) := by decide +kernel
theorem dX3_init_8 : decode cX3_init 8 = .ok (.invokevirtual 13, 3) := by decide +kernel
theorem dX3_init_11 : decode cX3_init 11 = .ok (.checkcast 14, 3) := by decide +kernel
theorem dX3_init_14 : decode cX3_init 14 = .ok (.putfield 18, 3) := by decide +kernel
theorem dX3_init_17 : decode cX3_init 17 = .ok (.aload_n 0, 1) := by decide +kernel
theorem dX3_init_18 : decode cX3_init 18 = .ok (.bipush 12, 2) := by decide +kernel
theorem dX3_init_20 : decode cX3_init 20 = .ok (.anewarray 23, 3) := by decide +kernel
theorem dX3_init_23 : decode cX3_init 23 = .ok (.putfield 25, 3) := by decide +kernel
theorem dX3_init_26 : decode cX3_init 26 = .ok (.iconst 0, 1) := by decide +kernel
theorem dX3_init_27 : decode cX3_init 27 = .ok (.istore_n 1, 1) := by decide +kernel
theorem dX3_init_28 : decode cX3_init 28 = .ok (.iload_n 1, 1) := by decide +kernel
theorem dX3_init_29 : decode cX3_init 29 = .ok (.bipush 12, 2) := by decide +kernel
theorem dX3_init_31 : decode cX3_init 31 = .ok (.if_icmp .ge 22, 3) := by decide +kernel
theorem dX3_init_34 : decode cX3_init 34 = .ok (.aload_n 0, 1) := by decide +kernel
theorem dX3_init_35 : decode cX3_init 35 = .ok (.getfield 25, 3) := by decide +kernel
theorem dX3_init_38 : decode cX3_init 38 = .ok (.iload_n 1, 1) := by decide +kernel
theorem dX3_init_39 : decode cX3_init 39 = .ok (.new 23, 3) := by decide +kernel
theorem dX3_init_42 : decode cX3_init 42 = .ok (.dup, 1) := by decide +kernel
theorem dX3_init_43 : decode cX3_init 43 = .ok (.invokespecial 29, 3) := by decide +kernel
theorem dX3_init_46 : decode cX3_init 46 = .ok (.aastore, 1) := by decide +kernel
theorem dX3_init_47 : decode cX3_init 47 = .ok (.iinc 1 1, 3) := by decide +kernel
theorem dX3_init_50 : decode cX3_init 50 = .ok (.goto (-22), 3) := by decide +kernel
theorem dX3_init_53 : decode cX3_init 53 = .ok (.aload_n 0, 1) := by decide +kernel
theorem dX3_init_54 : decode cX3_init 54 = .ok (.bipush 6, 2) := by decide +kernel
theorem dX3_init_56 : decode cX3_init 56 = .ok (.anewarray 30, 3) := by decide +kernel
theorem dX3_init_59 : decode cX3_init 59 = .ok (.putfield 32, 3) := by decide +kernel
theorem dX3_init_62 : decode cX3_init 62 = .ok (.iconst 0, 1) := by decide +kernel
theorem dX3_init_63 : decode cX3_init 63 = .ok (.istore_n 1, 1) := by decide +kernel
theorem dX3_init_64 : decode cX3_init 64 = .ok (.iload_n 1, 1) := by decide +kernel
theorem dX3_init_65 : decode cX3_init 65 = .ok (.bipush 6, 2) := by decide +kernel
theorem dX3_init_67 : decode cX3_init 67 = .ok (.if_icmp .ge 22, 3) := by decide +kernel
theorem dX3_init_70 : decode cX3_init 70 = .ok (.aload_n 0, 1) := by decide +kernel
theorem dX3_init_71 : decode cX3_init 71 = .ok (.getfield 32, 3) := by decide +kernel
theorem dX3_init_74 : decode cX3_init 74 = .ok (.iload_n 1, 1) := by decide +kernel
theorem dX3_init_75 : decode cX3_init 75 = .ok (.new 30, 3) := by decide +kernel
theorem dX3_init_78 : decode cX3_init 78 = .ok (.dup, 1) := by decide +kernel
theorem dX3_init_79 : decode cX3_init 79 = .ok (.invokespecial 36, 3) := by decide +kernel
theorem dX3_init_82 : decode cX3_init 82 = .ok (.aastore, 1) := by decide +kernel
theorem dX3_init_83 : decode cX3_init 83 = .ok (.iinc 1 1, 3) := by decide +kernel
theorem dX3_init_86 : decode cX3_init 86 = .ok (.goto (-22), 3) := by decide +kernel
theorem dX3_init_89 : decode cX3_init 89 = .ok (.aload_n 0, 1) := by decide +kernel
theorem dX3_init_90 : decode cX3_init 90 = .ok (.bipush 8, 2) := by decide +kernel
theorem dX3_init_92 : decode cX3_init 92 = .ok (.anewarray 37, 3) := by decide +kernel
theorem dX3_init_95 : decode cX3_init 95 = .ok (.putfield 39, 3) := by decide +kernel
theorem dX3_init_98 : decode cX3_init 98 = .ok (.iconst 0, 1) := by decide +kernel
theorem dX3_init_99 : decode cX3_init 99 = .ok (.istore_n 1, 1) := by decide +kernel
theorem dX3_init_100 : decode cX3_init 100 = .ok (.iload_n 1, 1) := by decide +kernel
theorem dX3_init_101 : decode cX3_init 101 = .ok (.bipush 8, 2) := by decide +kernel
theorem dX3_init_103 : decode cX3_init 103 = .ok (.if_icmp .ge 22, 3) := by decide +kernel
theorem dX3_init_106 : decode cX3_init 106 = .ok (.aload_n 0, 1) := by decide +kernel
theorem dX3_init_107 : decode cX3_init 107 = .ok (.getfield 39, 3) := by decide +kernel
theorem dX3_init_110 : decode cX3_init 110 = .ok (.iload_n 1, 1) := by decide +kernel
theorem dX3_init_111 : decode cX3_init 111 = .ok (.new 37, 3) := by decide +kernel
theorem dX3_init_114 : decode cX3_init 114 = .ok (.dup, 1) := by decide +kernel
theorem dX3_init_115 : decode cX3_init 115 = .ok (.invokespecial 43, 3) := by decide +kernel
theorem dX3_init_118 : decode cX3_init 118 = .ok (.aastore, 1) := by decide +kernel
theorem dX3_init_119 : decode cX3_init 119 = .ok (.iinc 1 1, 3) := by decide +kernel
theorem dX3_init_122 : decode cX3_init 122 = .ok (.goto (-22), 3) := by decide +kernel
theorem dX3_init_125 : decode cX3_init 125 = .ok (.return_, 1) := by decide +kernel
theorem dX3_copyFrom_0 : decode cX3_copyFrom 0 = .ok (.aload_n 0, 1) := by decide +kernel
theorem dX3_copyFrom_1 : decode cX3_copyFrom 1 = .ok (.aload_n 1, 1) := by decide +kernel
theorem dX3_copyFrom_2 : decode cX3_copyFrom 2 = .ok (.getfield 44, 3) := by decide +kernel
theorem dX3_copyFrom_5 : decode cX3_copyFrom 5 = .ok (.putfield 44, 3) := by decide +kernel
theorem dX3_copyFrom_8 : decode cX3_copyFrom 8 = .ok (.aload_n 1, 1) := by decide +kernel
theorem dX3_copyFrom_9 : decode cX3_copyFrom 9 = .ok (.getfield 18, 3) := by decide +kernel
theorem dX3_copyFrom_12 : decode cX3_copyFrom 12 = .ok (.iconst 0, 1) := by decide +kernel
theorem dX3_copyFrom_13 : decode cX3_copyFrom 13 = .ok (.aload_n 0, 1) := by decide +kernel
theorem dX3_copyFrom_14 : decode cX3_copyFrom 14 = .ok (.getfield 18, 3) := by decide +kernel
theorem dX3_copyFrom_17 : decode cX3_copyFrom 17 = .ok (.iconst 0, 1) := by decide +kernel
theorem dX3_copyFrom_18 : decode cX3_copyFrom 18 = .ok (.aload_n 0, 1) := by decide +kernel
theorem dX3_copyFrom_19 : decode cX3_copyFrom 19 = .ok (.getfield 18, 3) := by decide +kernel
theorem dX3_copyFrom_22 : decode cX3_copyFrom 22 = .ok (.arraylength, 1) := by decide +kernel
theorem dX3_copyFrom_23 : decode cX3_copyFrom 23 = .ok (.invokestatic 48, 3) := by decide +kernel
theorem dX3_copyFrom_26 : decode cX3_copyFrom 26 = .ok (.aload_n 0, 1) := by decide +kernel
theorem dX3_copyFrom_27 : decode cX3_copyFrom 27 = .ok (.aload_n 1, 1) := by decide +kernel
theorem dX3_copyFrom_28 : decode cX3_copyFrom 28 = .ok (.getfield 54, 3) := by decide +kernel
theorem dX3_copyFrom_31 : decode cX3_copyFrom 31 = .ok (.putfield 54, 3) := by decide +kernel
theorem dX3_copyFrom_34 : decode cX3_copyFrom 34 = .ok (.iconst 0, 1) := by decide +kernel
theorem dX3_copyFrom_35 : decode cX3_copyFrom 35 = .ok (.istore_n 2, 1) := by decide +kernel
theorem dX3_copyFrom_36 : decode cX3_copyFrom 36 = .ok (.iload_n 2, 1) := by decide +kernel
theorem dX3_copyFrom_37 : decode cX3_copyFrom 37 = .ok (.aload_n 0, 1) := by decide +kernel
theorem dX3_copyFrom_38 : decode cX3_copyFrom 38 = .ok (.getfield 54, 3) := by decide +kernel
theorem dX3_copyFrom_41 : decode cX3_copyFrom 41 = .ok (.if_icmp .ge 24, 3) := by decide +kernel
theorem dX3_copyFrom_44 : decode cX3_copyFrom 44 = .ok (.aload_n 0, 1) := by decide +kernel
theorem dX3_copyFrom_45 : decode cX3_copyFrom 45 = .ok (.getfield 25, 3) := by decide +kernel
theorem dX3_copyFrom_48 : decode cX3_copyFrom 48 = .ok (.iload_n 2, 1) := by decide +kernel
theorem dX3_copyFrom_49 : decode cX3_copyFrom 49 = .ok (.aaload, 1) := by decide +kernel
theorem dX3_copyFrom_50 : decode cX3_copyFrom 50 = .ok (.aload_n 1, 1) := by decide +kernel
theorem dX3_copyFrom_51 : decode cX3_copyFrom 51 = .ok (.getfield 25, 3) := by decide +kernel
theorem dX3_copyFrom_54 : decode cX3_copyFrom 54 = .ok (.iload_n 2, 1) := by decide +kernel
theorem dX3_copyFrom_55 : decode cX3_copyFrom 55 = .ok (.aaload, 1) := by decide +kernel
theorem dX3_copyFrom_56 : decode cX3_copyFrom 56 = .ok (.invokevirtual 57, 3) := by decide +kernel
theorem dX3_copyFrom_59 : decode cX3_copyFrom 59 = .ok (.iinc 2 1, 3) := by decide +kernel
theorem dX3_copyFrom_62 : decode cX3_copyFrom 62 = .ok (.goto (-26), 3) := by decide +kernel
theorem dX3_copyFrom_65 : decode cX3_copyFrom 65 = .ok (.aload_n 0, 1) := by decide +kernel
theorem dX3_copyFrom_66 : decode cX3_copyFrom 66 = .ok (.aload_n 1, 1) := by decide +kernel
theorem dX3_copyFrom_67 : decode cX3_copyFrom 67 = .ok (.getfield 61, 3) := by decide +kernel
theorem dX3_copyFrom_70 : decode cX3_copyFrom 70 = .ok (.putfield 61, 3) := by decide +kernel
theorem dX3_copyFrom_73 : decode cX3_copyFrom 73 = .ok (.iconst 0, 1) := by decide +kernel
theorem dX3_copyFrom_74 : decode cX3_copyFrom 74 = .ok (.istore_n 2, 1) := by decide +kernel
theorem dX3_copyFrom_75 : decode cX3_copyFrom 75 = .ok (.iload_n 2, 1) := by decide +kernel
theorem dX3_copyFrom_76 : decode cX3_copyFrom 76 = .ok (.aload_n 0, 1) := by decide +kernel
theorem dX3_copyFrom_77 : decode cX3_copyFrom 77 = .ok (.getfield 61, 3) := by decide +kernel
theorem dX3_copyFrom_80 : decode cX3_copyFrom 80 = .ok (.if_icmp .ge 24, 3) := by decide +kernel
theorem dX3_copyFrom_83 : decode cX3_copyFrom 83 = .ok (.aload_n 0, 1) := by decide +kernel
theorem dX3_copyFrom_84 : decode cX3_copyFrom 84 = .ok (.getfield 32, 3) := by decide +kernel
theorem dX3_copyFrom_87 : decode cX3_copyFrom 87 = .ok (.iload_n 2, 1) := by decide +kernel
theorem dX3_copyFrom_88 : decode cX3_copyFrom 88 = .ok (.aaload, 1) := by decide +kernel
theorem dX3_copyFrom_89 : decode cX3_copyFrom 89 = .ok (.aload_n 1, 1) := by decide +kernel
theorem dX3_copyFrom_90 : decode cX3_copyFrom 90 = .ok (.getfield 32, 3) := by decide +kernel
theorem dX3_copyFrom_93 : decode cX3_copyFrom 93 = .ok (.iload_n 2, 1) := by decide +kernel
theorem dX3_copyFrom_94 : decode cX3_copyFrom 94 = .ok (.aaload, 1) := by decide +kernel
theorem dX3_copyFrom_95 : decode cX3_copyFrom 95 = .ok (.invokevirtual 64, 3) := by decide +kernel
theorem dX3_copyFrom_98 : decode cX3_copyFrom 98 = .ok (.iinc 2 1, 3) := by decide +kernel
theorem dX3_copyFrom_101 : decode cX3_copyFrom 101 = .ok (.goto (-26), 3) := by decide +kernel
theorem dX3_copyFrom_104 : decode cX3_copyFrom 104 = .ok (.aload_n 0, 1) := by decide +kernel
theorem dX3_copyFrom_105 : decode cX3_copyFrom 105 = .ok (.aload_n 1, 1) := by decide +kernel
theorem dX3_copyFrom_106 : decode cX3_copyFrom 106 = .ok (.getfield 67, 3) := by decide +kernel
theorem dX3_copyFrom_109 : decode cX3_copyFrom 109 = .ok (.putfield 67, 3) := by decide +kernel
theorem dX3_copyFrom_112 : decode cX3_copyFrom 112 = .ok (.iconst 0, 1) := by decide +kernel
theorem dX3_copyFrom_113 : decode cX3_copyFrom 113 = .ok (.istore_n 2, 1) := by decide +kernel
theorem dX3_copyFrom_114 : decode cX3_copyFrom 114 = .ok (.iload_n 2, 1) := by decide +kernel
theorem dX3_copyFrom_115 : decode cX3_copyFrom 115 = .ok (.aload_n 0, 1) := by decide +kernel
theorem dX3_copyFrom_116 : decode cX3_copyFrom 116 = .ok (.getfield 67, 3) := by decide +kernel
theorem dX3_copyFrom_119 : decode cX3_copyFrom 119 = .ok (.if_icmp .ge 24, 3) := by decide +kernel
theorem dX3_copyFrom_122 : decode cX3_copyFrom 122 = .ok (.aload_n 0, 1) := by decide +kernel
theorem dX3_copyFrom_123 : decode cX3_copyFrom 123 = .ok (.getfield 39, 3) := by decide +kernel
theorem dX3_copyFrom_126 : decode cX3_copyFrom 126 = .ok (.iload_n 2, 1) := by decide +kernel
theorem dX3_copyFrom_127 : decode cX3_copyFrom 127 = .ok (.aaload, 1) := by decide +kernel
theorem dX3_copyFrom_128 : decode cX3_copyFrom 128 = .ok (.aload_n 1, 1) := by decide +kernel
theorem dX3_copyFrom_129 : decode cX3_copyFrom 129 = .ok (.getfield 39, 3) := by decide +kernel
theorem dX3_copyFrom_132 : decode cX3_copyFrom 132 = .ok (.iload_n 2, 1) := by decide +kernel
theorem dX3_copyFrom_133 : decode cX3_copyFrom 133 = .ok (.aaload, 1) := by decide +kernel
theorem dX3_copyFrom_134 : decode cX3_copyFrom 134 = .ok (.invokevirtual 70, 3) := by decide +kernel
theorem dX3_copyFrom_137 : decode cX3_copyFrom 137 = .ok (.iinc 2 1, 3) := by decide +kernel
theorem dX3_copyFrom_140 : decode cX3_copyFrom 140 = .ok (.goto (-26), 3) := by decide +kernel
theorem dX3_copyFrom_143 : decode cX3_copyFrom 143 = .ok (.aload_n 0, 1) := by decide +kernel
theorem dX3_copyFrom_144 : decode cX3_copyFrom 144 = .ok (.aload_n 1, 1) := by decide +kernel
theorem dX3_copyFrom_145 : decode cX3_copyFrom 145 = .ok (.getfield 73, 3) := by decide +kernel
theorem dX3_copyFrom_148 : decode cX3_copyFrom 148 = .ok (.putfield 73, 3) := by decide +kernel
theorem dX3_copyFrom_151 : decode cX3_copyFrom 151 = .ok (.aload_n 0, 1) := by decide +kernel
theorem dX3_copyFrom_152 : decode cX3_copyFrom 152 = .ok (.aload_n 1, 1) := by decide +kernel
theorem dX3_copyFrom_153 : decode cX3_copyFrom 153 = .ok (.getfield 76, 3) := by decide +kernel
theorem dX3_copyFrom_156 : decode cX3_copyFrom 156 = .ok (.putfield 76, 3) := by decide +kernel
theorem dX3_copyFrom_159 : decode cX3_copyFrom 159 = .ok (.aload_n 0, 1) := by decide +kernel
theorem dX3_copyFrom_160 : decode cX3_copyFrom 160 = .ok (.aload_n 1, 1) := by decide +kernel
theorem dX3_copyFrom_161 : decode cX3_copyFrom 161 = .ok (.getfield 79, 3) := by decide +kernel
theorem dX3_copyFrom_164 : decode cX3_copyFrom 164 = .ok (.putfield 79, 3) := by decide +kernel
theorem dX3_copyFrom_167 : decode cX3_copyFrom 167 = .ok (.return_, 1) := by decide +kernel
theorem dX3_hasLine_0 : decode cX3_hasLine 0 = .ok (.iload_n 1, 1) := by decide +kernel
theorem dX3_hasLine_1 : decode cX3_hasLine 1 = .ok (.iconst 0, 1) := by decide +kernel
theorem dX3_hasLine_2 : decode cX3_hasLine 2 = .ok (.aload_n 0, 1) := by decide +kernel
theorem dX3_hasLine_3 : decode cX3_hasLine 3 = .ok (.getfield 54, 3) := by decide +kernel
theorem dX3_hasLine_6 : decode cX3_hasLine 6 = .ok (.iconst 1, 1) := by decide +kernel
theorem dX3_hasLine_7 : decode cX3_hasLine 7 = .ok (.isub, 1) := by decide +kernel
theorem dX3_hasLine_8 : decode cX3_hasLine 8 = .ok (.invokestatic 82, 3) := by decide +kernel
theorem dX3_hasLine_11 : decode cX3_hasLine 11 = .ok (.ireturn, 1) := by decide +kernel
theorem dX3_hasTimer_0 : decode cX3_hasTimer 0 = .ok (.iload_n 1, 1) := by decide +kernel
theorem dX3_hasTimer_1 : decode cX3_hasTimer 1 = .ok (.iconst 0, 1) := by decide +kernel
theorem dX3_hasTimer_2 : decode cX3_hasTimer 2 = .ok (.aload_n 0, 1) := by decide +kernel
theorem dX3_hasTimer_3 : decode cX3_hasTimer 3 = .ok (.getfield 61, 3) := by decide +kernel
theorem dX3_hasTimer_6 : decode cX3_hasTimer 6 = .ok (.iconst 1, 1) := by decide +kernel
theorem dX3_hasTimer_7 : decode cX3_hasTimer 7 = .ok (.isub, 1) := by decide +kernel
theorem dX3_hasTimer_8 : decode cX3_hasTimer 8 = .ok (.invokestatic 82, 3) := by decide +kernel
theorem dX3_hasTimer_11 : decode cX3_hasTimer 11 = .ok (.ireturn, 1) := by decide +kernel
theorem dX3_changeSetting_0 : decode cX3_changeSetting 0 = .ok (.iload_n 1, 1) := by decide +kernel
theorem dX3_changeSetting_1 : decode cX3_changeSetting 1 = .ok (.iconst 0, 1) := by decide +kernel
theorem dX3_changeSetting_2 : decode cX3_changeSetting 2 = .ok (.aload_n 0, 1) := by decide +kernel
theorem dX3_changeSetting_3 : decode cX3_changeSetting 3 = .ok (.getfield 18, 3) := by decide +kernel
theorem dX3_changeSetting_6 : decode cX3_changeSetting 6 = .ok (.arraylength, 1) := by decide +kernel
theorem dX3_changeSetting_7 : decode cX3_changeSetting 7 = .ok (.iconst 1, 1) := by decide +kernel
theorem dX3_changeSetting_8 : decode cX3_changeSetting 8 = .ok (.isub, 1) := by decide +kernel
theorem dX3_changeSetting_9 : decode cX3_changeSetting 9 = .ok (.invokestatic 82, 3) := by decide +kernel
theorem dX3_changeSetting_12 : decode cX3_changeSetting 12 = .ok (.ifCond .ne 6, 3) := by decide +kernel
theorem dX3_changeSetting_15 : decode cX3_changeSetting 15 = .ok (.bipush (-2), 2) := by decide +kernel
theorem dX3_changeSetting_17 : decode cX3_changeSetting 17 = .ok (.ireturn, 1) := by decide +kernel
theorem dX3_changeSetting_18 : decode cX3_changeSetting 18 = .ok (.iload_n 2, 1) := by decide +kernel
theorem dX3_changeSetting_19 : decode cX3_changeSetting 19 = .ok (.getstatic 86, 3) := by decide +kernel
theorem dX3_changeSetting_22 : decode cX3_changeSetting 22 = .ok (.iload_n 1, 1) := by decide +kernel
theorem dX3_changeSetting_23 : decode cX3_changeSetting 23 = .ok (.iaload, 1) := by decide +kernel
theorem dX3_changeSetting_24 : decode cX3_changeSetting 24 = .ok (.getstatic 89, 3) := by decide +kernel
theorem dX3_changeSetting_27 : decode cX3_changeSetting 27 = .ok (.iload_n 1, 1) := by decide +kernel
theorem dX3_changeSetting_28 : decode cX3_changeSetting 28 = .ok (.iaload, 1) := by decide +kernel
theorem dX3_changeSetting_29 : decode cX3_changeSetting 29 = .ok (.invokestatic 82, 3) := by decide +kernel
theorem dX3_changeSetting_32 : decode cX3_changeSetting 32 = .ok (.ifCond .ne 6, 3) := by decide +kernel
theorem dX3_changeSetting_35 : decode cX3_changeSetting 35 = .ok (.bipush (-2), 2) := by decide +kernel
theorem dX3_changeSetting_37 : decode cX3_changeSetting 37 = .ok (.ireturn, 1) := by decide +kernel
theorem dX3_changeSetting_38 : decode cX3_changeSetting 38 = .ok (.aload_n 0, 1) := by decide +kernel
theorem dX3_changeSetting_39 : decode cX3_changeSetting 39 = .ok (.getfield 18, 3) := by decide +kernel
theorem dX3_changeSetting_42 : decode cX3_changeSetting 42 = .ok (.iload_n 1, 1) := by decide +kernel
theorem dX3_changeSetting_43 : decode cX3_changeSetting 43 = .ok (.iaload, 1) := by decide +kernel
theorem dX3_changeSetting_44 : decode cX3_changeSetting 44 = .ok (.istore_n 3, 1) := by decide +kernel
theorem dX3_changeSetting_45 : decode cX3_changeSetting 45 = .ok (.aload_n 0, 1) := by decide +kernel
theorem dX3_changeSetting_46 : decode cX3_changeSetting 46 = .ok (.getfield 18, 3) := by decide +kernel
theorem dX3_changeSetting_49 : decode cX3_changeSetting 49 = .ok (.iload_n 1, 1) := by decide +kernel
theorem dX3_changeSetting_50 : decode cX3_changeSetting 50 = .ok (.iload_n 2, 1) := by decide +kernel
theorem dX3_changeSetting_51 : decode cX3_changeSetting 51 = .ok (.iastore, 1) := by decide +kernel
theorem dX3_changeSetting_52 : decode cX3_changeSetting 52 = .ok (.iload_n 3, 1) := by decide +kernel
theorem dX3_changeSetting_53 : decode cX3_changeSetting 53 = .ok (.ireturn, 1) := by decide +kernel
theorem dX3_addLine_0 : decode cX3_addLine 0 = .ok (.iload_n 1, 1) := by decide +kernel
theorem dX3_addLine_1 : decode cX3_addLine 1 = .ok (.iload_n 2, 1) := by decide +kernel
theorem dX3_addLine_2 : decode cX3_addLine 2 = .ok (.iload_n 3, 1) := by decide +kernel
theorem dX3_addLine_3 : decode cX3_addLine 3 = .ok (.invokestatic 92, 3) := by decide +kernel
theorem dX3_addLine_6 : decode cX3_addLine 6 = .ok (.ifCond .eq 13, 3) := by decide +kernel
theorem dX3_addLine_9 : decode cX3_addLine 9 = .ok (.iload 4, 2) := by decide +kernel
theorem dX3_addLine_11 : decode cX3_addLine 11 = .ok (.iconst 0, 1) := by decide +kernel
theorem dX3_addLine_12 : decode cX3_addLine 12 = .ok (.iconst 1, 1) := by decide +kernel
theorem dX3_addLine_13 : decode cX3_addLine 13 = .ok (.invokestatic 82, 3) := by decide +kernel
theorem dX3_addLine_16 : decode cX3_addLine 16 = .ok (.ifCond .ne 6, 3) := by decide +kernel
theorem dX3_addLine_19 : decode cX3_addLine 19 = .ok (.bipush (-2), 2) := by decide +kernel
theorem dX3_addLine_21 : decode cX3_addLine 21 = .ok (.ireturn, 1) := by decide +kernel
theorem dX3_addLine_22 : decode cX3_addLine 22 = .ok (.aload_n 0, 1) := by decide +kernel
theorem dX3_addLine_23 : decode cX3_addLine 23 = .ok (.getfield 54, 3) := by decide +kernel
theorem dX3_addLine_26 : decode cX3_addLine 26 = .ok (.bipush 12, 2) := by decide +kernel
theorem dX3_addLine_28 : decode cX3_addLine 28 = .ok (.if_icmp .lt 6, 3) := by decide +kernel
theorem dX3_addLine_31 : decode cX3_addLine 31 = .ok (.bipush (-4), 2) := by decide +kernel
theorem dX3_addLine_33 : decode cX3_addLine 33 = .ok (.ireturn, 1) := by decide +kernel
theorem dX3_addLine_34 : decode cX3_addLine 34 = .ok (.aload_n 0, 1) := by decide +kernel
theorem dX3_addLine_35 : decode cX3_addLine 35 = .ok (.getfield 25, 3) := by decide +kernel
theorem dX3_addLine_38 : decode cX3_addLine 38 = .ok (.aload_n 0, 1) := by decide +kernel
theorem dX3_addLine_39 : decode cX3_addLine 39 = .ok (.getfield 54, 3) := by decide +kernel
theorem dX3_addLine_42 : decode cX3_addLine 42 = .ok (.aaload, 1) := by decide +kernel
theorem dX3_addLine_43 : decode cX3_addLine 43 = .ok (.iload 4, 2) := by decide +kernel
theorem dX3_addLine_45 : decode cX3_addLine 45 = .ok (.iconst 1, 1) := by decide +kernel
theorem dX3_addLine_46 : decode cX3_addLine 46 = .ok (.if_icmp .ne 7, 3) := by decide +kernel
theorem dX3_addLine_49 : decode cX3_addLine 49 = .ok (.iconst 1, 1) := by decide +kernel
theorem dX3_addLine_50 : decode cX3_addLine 50 = .ok (.goto 4, 3) := by decide +kernel
theorem dX3_addLine_53 : decode cX3_addLine 53 = .ok (.iconst 0, 1) := by decide +kernel
theorem dX3_addLine_54 : decode cX3_addLine 54 = .ok (.invokevirtual 95, 3) := by decide +kernel
theorem dX3_addLine_57 : decode cX3_addLine 57 = .ok (.aload_n 0, 1) := by decide +kernel
theorem dX3_addLine_58 : decode cX3_addLine 58 = .ok (.getfield 25, 3) := by decide +kernel
theorem dX3_addLine_61 : decode cX3_addLine 61 = .ok (.aload_n 0, 1) := by decide +kernel
theorem dX3_addLine_62 : decode cX3_addLine 62 = .ok (.getfield 54, 3) := by decide +kernel
theorem dX3_addLine_65 : decode cX3_addLine 65 = .ok (.aaload, 1) := by decide +kernel
theorem dX3_addLine_66 : decode cX3_addLine 66 = .ok (.iload_n 1, 1) := by decide +kernel
theorem dX3_addLine_67 : decode cX3_addLine 67 = .ok (.iload_n 2, 1) := by decide +kernel
theorem dX3_addLine_68 : decode cX3_addLine 68 = .ok (.iload_n 3, 1) := by decide +kernel
theorem dX3_addLine_69 : decode cX3_addLine 69 = .ok (.invokevirtual 99, 3) := by decide +kernel
theorem dX3_addLine_72 : decode cX3_addLine 72 = .ok (.aload_n 0, 1) := by decide +kernel
theorem dX3_addLine_73 : decode cX3_addLine 73 = .ok (.dup, 1) := by decide +kernel
theorem dX3_addLine_74 : decode cX3_addLine 74 = .ok (.getfield 54, 3) := by decide +kernel
theorem dX3_addLine_77 : decode cX3_addLine 77 = .ok (.iconst 1, 1) := by decide +kernel
theorem dX3_addLine_78 : decode cX3_addLine 78 = .ok (.iadd, 1) := by decide +kernel
theorem dX3_addLine_79 : decode cX3_addLine 79 = .ok (.putfield 54, 3) := by decide +kernel
theorem dX3_addLine_82 : decode cX3_addLine 82 = .ok (.aload_n 0, 1) := by decide +kernel
theorem dX3_addLine_83 : decode cX3_addLine 83 = .ok (.getfield 54, 3) := by decide +kernel
theorem dX3_addLine_86 : decode cX3_addLine 86 = .ok (.iconst 1, 1) := by decide +kernel
theorem dX3_addLine_87 : decode cX3_addLine 87 = .ok (.isub, 1) := by decide +kernel
theorem dX3_addLine_88 : decode cX3_addLine 88 = .ok (.ireturn, 1) := by decide +kernel
theorem dX3_changeLine_0 : decode cX3_changeLine 0 = .ok (.aload_n 0, 1) := by decide +kernel
theorem dX3_changeLine_1 : decode cX3_changeLine 1 = .ok (.iload_n 1, 1) := by decide +kernel
theorem dX3_changeLine_2 : decode cX3_changeLine 2 = .ok (.invokevirtual 103, 3) := by decide +kernel
theorem dX3_changeLine_5 : decode cX3_changeLine 5 = .ok (.ifCond .ne 5, 3) := by decide +kernel
theorem dX3_changeLine_8 : decode cX3_changeLine 8 = .ok (.iconst (-1), 1) := by decide +kernel
theorem dX3_changeLine_9 : decode cX3_changeLine 9 = .ok (.ireturn, 1) := by decide +kernel
theorem dX3_changeLine_10 : decode cX3_changeLine 10 = .ok (.iload_n 2, 1) := by decide +kernel
theorem dX3_changeLine_11 : decode cX3_changeLine 11 = .ok (.iload_n 3, 1) := by decide +kernel
theorem dX3_changeLine_12 : decode cX3_changeLine 12 = .ok (.iload 4, 2) := by decide +kernel
theorem dX3_changeLine_14 : decode cX3_changeLine 14 = .ok (.invokestatic 92, 3) := by decide +kernel
theorem dX3_changeLine_17 : decode cX3_changeLine 17 = .ok (.ifCond .ne 6, 3) := by decide +kernel
theorem dX3_changeLine_20 : decode cX3_changeLine 20 = .ok (.bipush (-2), 2) := by decide +kernel
theorem dX3_changeLine_22 : decode cX3_changeLine 22 = .ok (.ireturn, 1) := by decide +kernel
theorem dX3_changeLine_23 : decode cX3_changeLine 23 = .ok (.aload_n 0, 1) := by decide +kernel
theorem dX3_changeLine_24 : decode cX3_changeLine 24 = .ok (.getfield 25, 3) := by decide +kernel
theorem dX3_changeLine_27 : decode cX3_changeLine 27 = .ok (.iload_n 1, 1) := by decide +kernel
theorem dX3_changeLine_28 : decode cX3_changeLine 28 = .ok (.aaload, 1) := by decide +kernel
theorem dX3_changeLine_29 : decode cX3_changeLine 29 = .ok (.getfield 107, 3) := by decide +kernel
theorem dX3_changeLine_32 : decode cX3_changeLine 32 = .ok (.istore 5, 2) := by decide +kernel
theorem dX3_changeLine_34 : decode cX3_changeLine 34 = .ok (.aload_n 0, 1) := by decide +kernel
theorem dX3_changeLine_35 : decode cX3_changeLine 35 = .ok (.getfield 25, 3) := by decide +kernel
theorem dX3_changeLine_38 : decode cX3_changeLine 38 = .ok (.iload_n 1, 1) := by decide +kernel
theorem dX3_changeLine_39 : decode cX3_changeLine 39 = .ok (.aaload, 1) := by decide +kernel
theorem dX3_changeLine_40 : decode cX3_changeLine 40 = .ok (.iload_n 2, 1) := by decide +kernel
theorem dX3_changeLine_41 : decode cX3_changeLine 41 = .ok (.iload_n 3, 1) := by decide +kernel
theorem dX3_changeLine_42 : decode cX3_changeLine 42 = .ok (.iload 4, 2) := by decide +kernel
theorem dX3_changeLine_44 : decode cX3_changeLine 44 = .ok (.invokevirtual 99, 3) := by decide +kernel
theorem dX3_changeLine_47 : decode cX3_changeLine 47 = .ok (.iload 5, 2) := by decide +kernel
theorem dX3_changeLine_49 : decode cX3_changeLine 49 = .ok (.ireturn, 1) := by decide +kernel
theorem dX3_isShape_0 : decode cX3_isShape 0 = .ok (.iload_n 0, 1) := by decide +kernel
theorem dX3_isShape_1 : decode cX3_isShape 1 = .ok (.iconst 0, 1) := by decide +kernel
theorem dX3_isShape_2 : decode cX3_isShape 2 = .ok (.bipush 15, 2) := by decide +kernel
theorem dX3_isShape_4 : decode cX3_isShape 4 = .ok (.invokestatic 82, 3) := by decide +kernel
theorem dX3_isShape_7 : decode cX3_isShape 7 = .ok (.ifCond .eq 28, 3) := by decide +kernel
theorem dX3_isShape_10 : decode cX3_isShape 10 = .ok (.iload_n 1, 1) := by decide +kernel
theorem dX3_isShape_11 : decode cX3_isShape 11 = .ok (.iconst 1, 1) := by decide +kernel
theorem dX3_isShape_12 : decode cX3_isShape 12 = .ok (.bipush 50, 2) := by decide +kernel
theorem dX3_isShape_14 : decode cX3_isShape 14 = .ok (.invokestatic 82, 3) := by decide +kernel
theorem dX3_isShape_17 : decode cX3_isShape 17 = .ok (.ifCond .eq 18, 3) := by decide +kernel
theorem dX3_isShape_20 : decode cX3_isShape 20 = .ok (.iload_n 2, 1) := by decide +kernel
theorem dX3_isShape_21 : decode cX3_isShape 21 = .ok (.iconst 0, 1) := by decide +kernel
theorem dX3_isShape_22 : decode cX3_isShape 22 = .ok (.sipush 500, 3) := by decide +kernel
theorem dX3_isShape_25 : decode cX3_isShape 25 = .ok (.invokestatic 82, 3) := by decide +kernel
theorem dX3_isShape_28 : decode cX3_isShape 28 = .ok (.ifCond .eq 7, 3) := by decide +kernel
theorem dX3_isShape_31 : decode cX3_isShape 31 = .ok (.iconst 1, 1) := by decide +kernel
theorem dX3_isShape_32 : decode cX3_isShape 32 = .ok (.goto 4, 3) := by decide +kernel
theorem dX3_isShape_35 : decode cX3_isShape 35 = .ok (.iconst 0, 1) := by decide +kernel
theorem dX3_isShape_36 : decode cX3_isShape 36 = .ok (.ireturn, 1) := by decide +kernel
theorem dX3_addTimer_0 : decode cX3_addTimer 0 = .ok (.aload_n 0, 1) := by decide +kernel
theorem dX3_addTimer_1 : decode cX3_addTimer 1 = .ok (.iload_n 1, 1) := by decide +kernel
theorem dX3_addTimer_2 : decode cX3_addTimer 2 = .ok (.invokevirtual 103, 3) := by decide +kernel
theorem dX3_addTimer_5 : decode cX3_addTimer 5 = .ok (.ifCond .ne 5, 3) := by decide +kernel
theorem dX3_addTimer_8 : decode cX3_addTimer 8 = .ok (.iconst (-1), 1) := by decide +kernel
theorem dX3_addTimer_9 : decode cX3_addTimer 9 = .ok (.ireturn, 1) := by decide +kernel
theorem dX3_addTimer_10 : decode cX3_addTimer 10 = .ok (.iload_n 2, 1) := by decide +kernel
theorem dX3_addTimer_11 : decode cX3_addTimer 11 = .ok (.iconst 1, 1) := by decide +kernel
theorem dX3_addTimer_12 : decode cX3_addTimer 12 = .ok (.sipush 200, 3) := by decide +kernel
theorem dX3_addTimer_15 : decode cX3_addTimer 15 = .ok (.invokestatic 82, 3) := by decide +kernel
theorem dX3_addTimer_18 : decode cX3_addTimer 18 = .ok (.ifCond .eq 22, 3) := by decide +kernel
theorem dX3_addTimer_21 : decode cX3_addTimer 21 = .ok (.iload_n 3, 1) := by decide +kernel
theorem dX3_addTimer_22 : decode cX3_addTimer 22 = .ok (.aload_n 0, 1) := by decide +kernel
theorem dX3_addTimer_23 : decode cX3_addTimer 23 = .ok (.getfield 44, 3) := by decide +kernel
theorem dX3_addTimer_26 : decode cX3_addTimer 26 = .ok (.aload_n 0, 1) := by decide +kernel
theorem dX3_addTimer_27 : decode cX3_addTimer 27 = .ok (.getfield 44, 3) := by decide +kernel
theorem dX3_addTimer_30 : decode cX3_addTimer 30 = .ok (.sipush 500, 3) := by decide +kernel
theorem dX3_addTimer_33 : decode cX3_addTimer 33 = .ok (.iadd, 1) := by decide +kernel
theorem dX3_addTimer_34 : decode cX3_addTimer 34 = .ok (.invokestatic 82, 3) := by decide +kernel
theorem dX3_addTimer_37 : decode cX3_addTimer 37 = .ok (.ifCond .ne 6, 3) := by decide +kernel
theorem dX3_addTimer_40 : decode cX3_addTimer 40 = .ok (.bipush (-2), 2) := by decide +kernel
theorem dX3_addTimer_42 : decode cX3_addTimer 42 = .ok (.ireturn, 1) := by decide +kernel
theorem dX3_addTimer_43 : decode cX3_addTimer 43 = .ok (.aload_n 0, 1) := by decide +kernel
theorem dX3_addTimer_44 : decode cX3_addTimer 44 = .ok (.getfield 61, 3) := by decide +kernel
theorem dX3_addTimer_47 : decode cX3_addTimer 47 = .ok (.bipush 6, 2) := by decide +kernel
theorem dX3_addTimer_49 : decode cX3_addTimer 49 = .ok (.if_icmp .lt 6, 3) := by decide +kernel
theorem dX3_addTimer_52 : decode cX3_addTimer 52 = .ok (.bipush (-4), 2) := by decide +kernel
theorem dX3_addTimer_54 : decode cX3_addTimer 54 = .ok (.ireturn, 1) := by decide +kernel
theorem dX3_addTimer_55 : decode cX3_addTimer 55 = .ok (.aload_n 0, 1) := by decide +kernel
theorem dX3_addTimer_56 : decode cX3_addTimer 56 = .ok (.getfield 25, 3) := by decide +kernel
theorem dX3_addTimer_59 : decode cX3_addTimer 59 = .ok (.iload_n 1, 1) := by decide +kernel
theorem dX3_addTimer_60 : decode cX3_addTimer 60 = .ok (.aaload, 1) := by decide +kernel
theorem dX3_addTimer_61 : decode cX3_addTimer 61 = .ok (.getfield 110, 3) := by decide +kernel
theorem dX3_addTimer_64 : decode cX3_addTimer 64 = .ok (.ifCond .eq 6, 3) := by decide +kernel
theorem dX3_addTimer_67 : decode cX3_addTimer 67 = .ok (.bipush (-5), 2) := by decide +kernel
theorem dX3_addTimer_69 : decode cX3_addTimer 69 = .ok (.ireturn, 1) := by decide +kernel
theorem dX3_addTimer_70 : decode cX3_addTimer 70 = .ok (.aload_n 0, 1) := by decide +kernel
theorem dX3_addTimer_71 : decode cX3_addTimer 71 = .ok (.getfield 32, 3) := by decide +kernel
theorem dX3_addTimer_74 : decode cX3_addTimer 74 = .ok (.aload_n 0, 1) := by decide +kernel
theorem dX3_addTimer_75 : decode cX3_addTimer 75 = .ok (.getfield 61, 3) := by decide +kernel
theorem dX3_addTimer_78 : decode cX3_addTimer 78 = .ok (.aaload, 1) := by decide +kernel
theorem dX3_addTimer_79 : decode cX3_addTimer 79 = .ok (.astore 4, 2) := by decide +kernel
theorem dX3_addTimer_81 : decode cX3_addTimer 81 = .ok (.aload 4, 2) := by decide +kernel
theorem dX3_addTimer_83 : decode cX3_addTimer 83 = .ok (.iload_n 1, 1) := by decide +kernel
theorem dX3_addTimer_84 : decode cX3_addTimer 84 = .ok (.putfield 114, 3) := by decide +kernel
theorem dX3_addTimer_87 : decode cX3_addTimer 87 = .ok (.aload 4, 2) := by decide +kernel
theorem dX3_addTimer_89 : decode cX3_addTimer 89 = .ok (.iload_n 2, 1) := by decide +kernel
theorem dX3_addTimer_90 : decode cX3_addTimer 90 = .ok (.putfield 117, 3) := by decide +kernel
theorem dX3_addTimer_93 : decode cX3_addTimer 93 = .ok (.aload 4, 2) := by decide +kernel
theorem dX3_addTimer_95 : decode cX3_addTimer 95 = .ok (.iload_n 3, 1) := by decide +kernel
theorem dX3_addTimer_96 : decode cX3_addTimer 96 = .ok (.putfield 120, 3) := by decide +kernel
theorem dX3_addTimer_99 : decode cX3_addTimer 99 = .ok (.aload_n 0, 1) := by decide +kernel
theorem dX3_addTimer_100 : decode cX3_addTimer 100 = .ok (.dup, 1) := by decide +kernel
theorem dX3_addTimer_101 : decode cX3_addTimer 101 = .ok (.getfield 61, 3) := by decide +kernel
theorem dX3_addTimer_104 : decode cX3_addTimer 104 = .ok (.iconst 1, 1) := by decide +kernel
theorem dX3_addTimer_105 : decode cX3_addTimer 105 = .ok (.iadd, 1) := by decide +kernel
theorem dX3_addTimer_106 : decode cX3_addTimer 106 = .ok (.putfield 61, 3) := by decide +kernel
theorem dX3_addTimer_109 : decode cX3_addTimer 109 = .ok (.aload_n 0, 1) := by decide +kernel
theorem dX3_addTimer_110 : decode cX3_addTimer 110 = .ok (.getfield 61, 3) := by decide +kernel
theorem dX3_addTimer_113 : decode cX3_addTimer 113 = .ok (.iconst 1, 1) := by decide +kernel
theorem dX3_addTimer_114 : decode cX3_addTimer 114 = .ok (.isub, 1) := by decide +kernel
theorem dX3_addTimer_115 : decode cX3_addTimer 115 = .ok (.ireturn, 1) := by decide +kernel
theorem dX3_removeTimer_0 : decode cX3_removeTimer 0 = .ok (.aload_n 0, 1) := by decide +kernel
theorem dX3_removeTimer_1 : decode cX3_removeTimer 1 = .ok (.iload_n 1, 1) := by decide +kernel
theorem dX3_removeTimer_2 : decode cX3_removeTimer 2 = .ok (.invokevirtual 123, 3) := by decide +kernel
theorem dX3_removeTimer_5 : decode cX3_removeTimer 5 = .ok (.ifCond .ne 5, 3) := by decide +kernel
theorem dX3_removeTimer_8 : decode cX3_removeTimer 8 = .ok (.iconst (-1), 1) := by decide +kernel
theorem dX3_removeTimer_9 : decode cX3_removeTimer 9 = .ok (.ireturn, 1) := by decide +kernel
theorem dX3_removeTimer_10 : decode cX3_removeTimer 10 = .ok (.iload_n 1, 1) := by decide +kernel
theorem dX3_removeTimer_11 : decode cX3_removeTimer 11 = .ok (.istore_n 2, 1) := by decide +kernel
theorem dX3_removeTimer_12 : decode cX3_removeTimer 12 = .ok (.iload_n 2, 1) := by decide +kernel
theorem dX3_removeTimer_13 : decode cX3_removeTimer 13 = .ok (.iconst 1, 1) := by decide +kernel
theorem dX3_removeTimer_14 : decode cX3_removeTimer 14 = .ok (.iadd, 1) := by decide +kernel
theorem dX3_removeTimer_15 : decode cX3_removeTimer 15 = .ok (.aload_n 0, 1) := by decide +kernel
theorem dX3_removeTimer_16 : decode cX3_removeTimer 16 = .ok (.getfield 61, 3) := by decide +kernel
theorem dX3_removeTimer_19 : decode cX3_removeTimer 19 = .ok (.if_icmp .ge 26, 3) := by decide +kernel
theorem dX3_removeTimer_22 : decode cX3_removeTimer 22 = .ok (.aload_n 0, 1) := by decide +kernel
theorem dX3_removeTimer_23 : decode cX3_removeTimer 23 = .ok (.getfield 32, 3) := by decide +kernel
theorem dX3_removeTimer_26 : decode cX3_removeTimer 26 = .ok (.iload_n 2, 1) := by decide +kernel
theorem dX3_removeTimer_27 : decode cX3_removeTimer 27 = .ok (.aaload, 1) := by decide +kernel
theorem dX3_removeTimer_28 : decode cX3_removeTimer 28 = .ok (.aload_n 0, 1) := by decide +kernel
theorem dX3_removeTimer_29 : decode cX3_removeTimer 29 = .ok (.getfield 32, 3) := by decide +kernel
theorem dX3_removeTimer_32 : decode cX3_removeTimer 32 = .ok (.iload_n 2, 1) := by decide +kernel
theorem dX3_removeTimer_33 : decode cX3_removeTimer 33 = .ok (.iconst 1, 1) := by decide +kernel
theorem dX3_removeTimer_34 : decode cX3_removeTimer 34 = .ok (.iadd, 1) := by decide +kernel
theorem dX3_removeTimer_35 : decode cX3_removeTimer 35 = .ok (.aaload, 1) := by decide +kernel
theorem dX3_removeTimer_36 : decode cX3_removeTimer 36 = .ok (.invokevirtual 64, 3) := by decide +kernel
theorem dX3_removeTimer_39 : decode cX3_removeTimer 39 = .ok (.iinc 2 1, 3) := by decide +kernel
theorem dX3_removeTimer_42 : decode cX3_removeTimer 42 = .ok (.goto (-30), 3) := by decide +kernel
theorem dX3_removeTimer_45 : decode cX3_removeTimer 45 = .ok (.aload_n 0, 1) := by decide +kernel
theorem dX3_removeTimer_46 : decode cX3_removeTimer 46 = .ok (.dup, 1) := by decide +kernel
theorem dX3_removeTimer_47 : decode cX3_removeTimer 47 = .ok (.getfield 61, 3) := by decide +kernel
theorem dX3_removeTimer_50 : decode cX3_removeTimer 50 = .ok (.iconst 1, 1) := by decide +kernel
theorem dX3_removeTimer_51 : decode cX3_removeTimer 51 = .ok (.isub, 1) := by decide +kernel
theorem dX3_removeTimer_52 : decode cX3_removeTimer 52 = .ok (.putfield 61, 3) := by decide +kernel
theorem dX3_removeTimer_55 : decode cX3_removeTimer 55 = .ok (.aload_n 0, 1) := by decide +kernel
theorem dX3_removeTimer_56 : decode cX3_removeTimer 56 = .ok (.getfield 61, 3) := by decide +kernel
theorem dX3_removeTimer_59 : decode cX3_removeTimer 59 = .ok (.ireturn, 1) := by decide +kernel
theorem dX3_raiseLine_0 : decode cX3_raiseLine 0 = .ok (.aload_n 0, 1) := by decide +kernel
theorem dX3_raiseLine_1 : decode cX3_raiseLine 1 = .ok (.iload_n 1, 1) := by decide +kernel
theorem dX3_raiseLine_2 : decode cX3_raiseLine 2 = .ok (.invokevirtual 103, 3) := by decide +kernel
theorem dX3_raiseLine_5 : decode cX3_raiseLine 5 = .ok (.ifCond .ne 5, 3) := by decide +kernel
theorem dX3_raiseLine_8 : decode cX3_raiseLine 8 = .ok (.iconst (-1), 1) := by decide +kernel
theorem dX3_raiseLine_9 : decode cX3_raiseLine 9 = .ok (.ireturn, 1) := by decide +kernel
theorem dX3_raiseLine_10 : decode cX3_raiseLine 10 = .ok (.aload_n 0, 1) := by decide +kernel
theorem dX3_raiseLine_11 : decode cX3_raiseLine 11 = .ok (.getfield 25, 3) := by decide +kernel
theorem dX3_raiseLine_14 : decode cX3_raiseLine 14 = .ok (.iload_n 1, 1) := by decide +kernel
theorem dX3_raiseLine_15 : decode cX3_raiseLine 15 = .ok (.aaload, 1) := by decide +kernel
theorem dX3_raiseLine_16 : decode cX3_raiseLine 16 = .ok (.getfield 110, 3) := by decide +kernel
theorem dX3_raiseLine_19 : decode cX3_raiseLine 19 = .ok (.ifCond .eq 6, 3) := by decide +kernel
theorem dX3_raiseLine_22 : decode cX3_raiseLine 22 = .ok (.bipush (-5), 2) := by decide +kernel
theorem dX3_raiseLine_24 : decode cX3_raiseLine 24 = .ok (.ireturn, 1) := by decide +kernel
theorem dX3_raiseLine_25 : decode cX3_raiseLine 25 = .ok (.aload_n 0, 1) := by decide +kernel
theorem dX3_raiseLine_26 : decode cX3_raiseLine 26 = .ok (.getfield 25, 3) := by decide +kernel
theorem dX3_raiseLine_29 : decode cX3_raiseLine 29 = .ok (.iload_n 1, 1) := by decide +kernel
theorem dX3_raiseLine_30 : decode cX3_raiseLine 30 = .ok (.aaload, 1) := by decide +kernel
theorem dX3_raiseLine_31 : decode cX3_raiseLine 31 = .ok (.aload_n 0, 1) := by decide +kernel
theorem dX3_raiseLine_32 : decode cX3_raiseLine 32 = .ok (.getfield 18, 3) := by decide +kernel
theorem dX3_raiseLine_35 : decode cX3_raiseLine 35 = .ok (.iconst 5, 1) := by decide +kernel
theorem dX3_raiseLine_36 : decode cX3_raiseLine 36 = .ok (.iaload, 1) := by decide +kernel
theorem dX3_raiseLine_37 : decode cX3_raiseLine 37 = .ok (.iconst 1, 1) := by decide +kernel
theorem dX3_raiseLine_38 : decode cX3_raiseLine 38 = .ok (.if_icmp .ne 7, 3) := by decide +kernel
theorem dX3_raiseLine_41 : decode cX3_raiseLine 41 = .ok (.iconst 1, 1) := by decide +kernel
theorem dX3_raiseLine_42 : decode cX3_raiseLine 42 = .ok (.goto 4, 3) := by decide +kernel
theorem dX3_raiseLine_45 : decode cX3_raiseLine 45 = .ok (.iconst 0, 1) := by decide +kernel
theorem dX3_raiseLine_46 : decode cX3_raiseLine 46 = .ok (.invokevirtual 126, 3) := by decide +kernel
theorem dX3_raiseLine_49 : decode cX3_raiseLine 49 = .ok (.ifCond .eq 7, 3) := by decide +kernel
theorem dX3_raiseLine_52 : decode cX3_raiseLine 52 = .ok (.iconst 1, 1) := by decide +kernel
theorem dX3_raiseLine_53 : decode cX3_raiseLine 53 = .ok (.goto 4, 3) := by decide +kernel
theorem dX3_raiseLine_56 : decode cX3_raiseLine 56 = .ok (.iconst 0, 1) := by decide +kernel
theorem dX3_raiseLine_57 : decode cX3_raiseLine 57 = .ok (.ireturn, 1) := by decide +kernel
theorem dX3_holdLine_0 : decode cX3_holdLine 0 = .ok (.aload_n 0, 1) := by decide +kernel
theorem dX3_holdLine_1 : decode cX3_holdLine 1 = .ok (.iload_n 1, 1) := by decide +kernel
theorem dX3_holdLine_2 : decode cX3_holdLine 2 = .ok (.invokevirtual 103, 3) := by decide +kernel
theorem dX3_holdLine_5 : decode cX3_holdLine 5 = .ok (.ifCond .ne 5, 3) := by decide +kernel
theorem dX3_holdLine_8 : decode cX3_holdLine 8 = .ok (.iconst (-1), 1) := by decide +kernel
theorem dX3_holdLine_9 : decode cX3_holdLine 9 = .ok (.ireturn, 1) := by decide +kernel
theorem dX3_holdLine_10 : decode cX3_holdLine 10 = .ok (.iload_n 2, 1) := by decide +kernel
theorem dX3_holdLine_11 : decode cX3_holdLine 11 = .ok (.iconst 0, 1) := by decide +kernel
theorem dX3_holdLine_12 : decode cX3_holdLine 12 = .ok (.iconst 3, 1) := by decide +kernel
theorem dX3_holdLine_13 : decode cX3_holdLine 13 = .ok (.invokestatic 82, 3) := by decide +kernel
theorem dX3_holdLine_16 : decode cX3_holdLine 16 = .ok (.ifCond .eq 12, 3) := by decide +kernel
theorem dX3_holdLine_19 : decode cX3_holdLine 19 = .ok (.iload_n 3, 1) := by decide +kernel
theorem dX3_holdLine_20 : decode cX3_holdLine 20 = .ok (.iconst 0, 1) := by decide +kernel
theorem dX3_holdLine_21 : decode cX3_holdLine 21 = .ok (.iconst 1, 1) := by decide +kernel
theorem dX3_holdLine_22 : decode cX3_holdLine 22 = .ok (.invokestatic 82, 3) := by decide +kernel
theorem dX3_holdLine_25 : decode cX3_holdLine 25 = .ok (.ifCond .ne 6, 3) := by decide +kernel
theorem dX3_holdLine_28 : decode cX3_holdLine 28 = .ok (.bipush (-2), 2) := by decide +kernel
theorem dX3_holdLine_30 : decode cX3_holdLine 30 = .ok (.ireturn, 1) := by decide +kernel
theorem dX3_holdLine_31 : decode cX3_holdLine 31 = .ok (.aload_n 0, 1) := by decide +kernel
theorem dX3_holdLine_32 : decode cX3_holdLine 32 = .ok (.getfield 25, 3) := by decide +kernel
theorem dX3_holdLine_35 : decode cX3_holdLine 35 = .ok (.iload_n 1, 1) := by decide +kernel
theorem dX3_holdLine_36 : decode cX3_holdLine 36 = .ok (.aaload, 1) := by decide +kernel
theorem dX3_holdLine_37 : decode cX3_holdLine 37 = .ok (.getfield 110, 3) := by decide +kernel
theorem dX3_holdLine_40 : decode cX3_holdLine 40 = .ok (.ifCond .ne 6, 3) := by decide +kernel
theorem dX3_holdLine_43 : decode cX3_holdLine 43 = .ok (.bipush (-5), 2) := by decide +kernel
theorem dX3_holdLine_45 : decode cX3_holdLine 45 = .ok (.ireturn, 1) := by decide +kernel
theorem dX3_holdLine_46 : decode cX3_holdLine 46 = .ok (.aload_n 0, 1) := by decide +kernel
theorem dX3_holdLine_47 : decode cX3_holdLine 47 = .ok (.getfield 25, 3) := by decide +kernel
theorem dX3_holdLine_50 : decode cX3_holdLine 50 = .ok (.iload_n 1, 1) := by decide +kernel
theorem dX3_holdLine_51 : decode cX3_holdLine 51 = .ok (.aaload, 1) := by decide +kernel
theorem dX3_holdLine_52 : decode cX3_holdLine 52 = .ok (.iload_n 2, 1) := by decide +kernel
theorem dX3_holdLine_53 : decode cX3_holdLine 53 = .ok (.iload_n 3, 1) := by decide +kernel
theorem dX3_holdLine_54 : decode cX3_holdLine 54 = .ok (.iconst 1, 1) := by decide +kernel
theorem dX3_holdLine_55 : decode cX3_holdLine 55 = .ok (.if_icmp .ne 7, 3) := by decide +kernel
theorem dX3_holdLine_58 : decode cX3_holdLine 58 = .ok (.iconst 1, 1) := by decide +kernel
theorem dX3_holdLine_59 : decode cX3_holdLine 59 = .ok (.goto 4, 3) := by decide +kernel
theorem dX3_holdLine_62 : decode cX3_holdLine 62 = .ok (.iconst 0, 1) := by decide +kernel
theorem dX3_holdLine_63 : decode cX3_holdLine 63 = .ok (.invokevirtual 130, 3) := by decide +kernel
theorem dX3_holdLine_66 : decode cX3_holdLine 66 = .ok (.aload_n 0, 1) := by decide +kernel
theorem dX3_holdLine_67 : decode cX3_holdLine 67 = .ok (.getfield 25, 3) := by decide +kernel
theorem dX3_holdLine_70 : decode cX3_holdLine 70 = .ok (.iload_n 1, 1) := by decide +kernel
theorem dX3_holdLine_71 : decode cX3_holdLine 71 = .ok (.aaload, 1) := by decide +kernel
theorem dX3_holdLine_72 : decode cX3_holdLine 72 = .ok (.getfield 134, 3) := by decide +kernel
theorem dX3_holdLine_75 : decode cX3_holdLine 75 = .ok (.ireturn, 1) := by decide +kernel
theorem dX3_maskLine_0 : decode cX3_maskLine 0 = .ok (.aload_n 0, 1) := by decide +kernel
theorem dX3_maskLine_1 : decode cX3_maskLine 1 = .ok (.iload_n 1, 1) := by decide +kernel
theorem dX3_maskLine_2 : decode cX3_maskLine 2 = .ok (.invokevirtual 103, 3) := by decide +kernel
theorem dX3_maskLine_5 : decode cX3_maskLine 5 = .ok (.ifCond .ne 5, 3) := by decide +kernel
theorem dX3_maskLine_8 : decode cX3_maskLine 8 = .ok (.iconst (-1), 1) := by decide +kernel
theorem dX3_maskLine_9 : decode cX3_maskLine 9 = .ok (.ireturn, 1) := by decide +kernel
theorem dX3_maskLine_10 : decode cX3_maskLine 10 = .ok (.iload_n 2, 1) := by decide +kernel
theorem dX3_maskLine_11 : decode cX3_maskLine 11 = .ok (.iconst 0, 1) := by decide +kernel
theorem dX3_maskLine_12 : decode cX3_maskLine 12 = .ok (.iconst 1, 1) := by decide +kernel
theorem dX3_maskLine_13 : decode cX3_maskLine 13 = .ok (.invokestatic 82, 3) := by decide +kernel
theorem dX3_maskLine_16 : decode cX3_maskLine 16 = .ok (.ifCond .ne 6, 3) := by decide +kernel
theorem dX3_maskLine_19 : decode cX3_maskLine 19 = .ok (.bipush (-2), 2) := by decide +kernel
theorem dX3_maskLine_21 : decode cX3_maskLine 21 = .ok (.ireturn, 1) := by decide +kernel
theorem dX3_maskLine_22 : decode cX3_maskLine 22 = .ok (.aload_n 0, 1) := by decide +kernel
theorem dX3_maskLine_23 : decode cX3_maskLine 23 = .ok (.getfield 25, 3) := by decide +kernel
theorem dX3_maskLine_26 : decode cX3_maskLine 26 = .ok (.iload_n 1, 1) := by decide +kernel
theorem dX3_maskLine_27 : decode cX3_maskLine 27 = .ok (.aaload, 1) := by decide +kernel
theorem dX3_maskLine_28 : decode cX3_maskLine 28 = .ok (.getfield 137, 3) := by decide +kernel
theorem dX3_maskLine_31 : decode cX3_maskLine 31 = .ok (.ifCond .eq 7, 3) := by decide +kernel
theorem dX3_maskLine_34 : decode cX3_maskLine 34 = .ok (.iconst 1, 1) := by decide +kernel
theorem dX3_maskLine_35 : decode cX3_maskLine 35 = .ok (.goto 4, 3) := by decide +kernel
theorem dX3_maskLine_38 : decode cX3_maskLine 38 = .ok (.iconst 0, 1) := by decide +kernel
theorem dX3_maskLine_39 : decode cX3_maskLine 39 = .ok (.istore_n 3, 1) := by decide +kernel
theorem dX3_maskLine_40 : decode cX3_maskLine 40 = .ok (.aload_n 0, 1) := by decide +kernel
theorem dX3_maskLine_41 : decode cX3_maskLine 41 = .ok (.getfield 25, 3) := by decide +kernel
theorem dX3_maskLine_44 : decode cX3_maskLine 44 = .ok (.iload_n 1, 1) := by decide +kernel
theorem dX3_maskLine_45 : decode cX3_maskLine 45 = .ok (.aaload, 1) := by decide +kernel
theorem dX3_maskLine_46 : decode cX3_maskLine 46 = .ok (.iload_n 2, 1) := by decide +kernel
theorem dX3_maskLine_47 : decode cX3_maskLine 47 = .ok (.iconst 1, 1) := by decide +kernel
theorem dX3_maskLine_48 : decode cX3_maskLine 48 = .ok (.if_icmp .ne 7, 3) := by decide +kernel
theorem dX3_maskLine_51 : decode cX3_maskLine 51 = .ok (.iconst 1, 1) := by decide +kernel
theorem dX3_maskLine_52 : decode cX3_maskLine 52 = .ok (.goto 4, 3) := by decide +kernel
theorem dX3_maskLine_55 : decode cX3_maskLine 55 = .ok (.iconst 0, 1) := by decide +kernel
theorem dX3_maskLine_56 : decode cX3_maskLine 56 = .ok (.putfield 137, 3) := by decide +kernel
theorem dX3_maskLine_59 : decode cX3_maskLine 59 = .ok (.iload_n 3, 1) := by decide +kernel
theorem dX3_maskLine_60 : decode cX3_maskLine 60 = .ok (.ireturn, 1) := by decide +kernel
theorem dX3_passTicks_0 : decode cX3_passTicks 0 = .ok (.iload_n 1, 1) := by decide +kernel
theorem dX3_passTicks_1 : decode cX3_passTicks 1 = .ok (.iconst 1, 1) := by decide +kernel
theorem dX3_passTicks_2 : decode cX3_passTicks 2 = .ok (.sipush 500, 3) := by decide +kernel
theorem dX3_passTicks_5 : decode cX3_passTicks 5 = .ok (.invokestatic 82, 3) := by decide +kernel
theorem dX3_passTicks_8 : decode cX3_passTicks 8 = .ok (.ifCond .ne 6, 3) := by decide +kernel
theorem dX3_passTicks_11 : decode cX3_passTicks 11 = .ok (.bipush (-2), 2) := by decide +kernel
theorem dX3_passTicks_13 : decode cX3_passTicks 13 = .ok (.ireturn, 1) := by decide +kernel
theorem dX3_passTicks_14 : decode cX3_passTicks 14 = .ok (.iconst 0, 1) := by decide +kernel
theorem dX3_passTicks_15 : decode cX3_passTicks 15 = .ok (.istore_n 2, 1) := by decide +kernel
theorem dX3_passTicks_16 : decode cX3_passTicks 16 = .ok (.iload_n 2, 1) := by decide +kernel
theorem dX3_passTicks_17 : decode cX3_passTicks 17 = .ok (.iload_n 1, 1) := by decide +kernel
theorem dX3_passTicks_18 : decode cX3_passTicks 18 = .ok (.if_icmp .ge 14, 3) := by decide +kernel
theorem dX3_passTicks_21 : decode cX3_passTicks 21 = .ok (.aload_n 0, 1) := by decide +kernel
theorem dX3_passTicks_22 : decode cX3_passTicks 22 = .ok (.invokevirtual 140, 3) := by decide +kernel
theorem dX3_passTicks_25 : decode cX3_passTicks 25 = .ok (.pop, 1) := by decide +kernel
theorem dX3_passTicks_26 : decode cX3_passTicks 26 = .ok (.iinc 2 1, 3) := by decide +kernel
theorem dX3_passTicks_29 : decode cX3_passTicks 29 = .ok (.goto (-13), 3) := by decide +kernel
theorem dX3_passTicks_32 : decode cX3_passTicks 32 = .ok (.aload_n 0, 1) := by decide +kernel
theorem dX3_passTicks_33 : decode cX3_passTicks 33 = .ok (.getfield 44, 3) := by decide +kernel
theorem dX3_passTicks_36 : decode cX3_passTicks 36 = .ok (.ireturn, 1) := by decide +kernel
theorem dX3_passTick_0 : decode cX3_passTick 0 = .ok (.aload_n 0, 1) := by decide +kernel
theorem dX3_passTick_1 : decode cX3_passTick 1 = .ok (.invokevirtual 144, 3) := by decide +kernel
theorem dX3_passTick_4 : decode cX3_passTick 4 = .ok (.aload_n 0, 1) := by decide +kernel
theorem dX3_passTick_5 : decode cX3_passTick 5 = .ok (.invokevirtual 147, 3) := by decide +kernel
theorem dX3_passTick_8 : decode cX3_passTick 8 = .ok (.istore_n 1, 1) := by decide +kernel
theorem dX3_passTick_9 : decode cX3_passTick 9 = .ok (.aload_n 0, 1) := by decide +kernel
theorem dX3_passTick_10 : decode cX3_passTick 10 = .ok (.invokevirtual 150, 3) := by decide +kernel
theorem dX3_passTick_13 : decode cX3_passTick 13 = .ok (.aload_n 0, 1) := by decide +kernel
theorem dX3_passTick_14 : decode cX3_passTick 14 = .ok (.invokevirtual 153, 3) := by decide +kernel
theorem dX3_passTick_17 : decode cX3_passTick 17 = .ok (.aload_n 0, 1) := by decide +kernel
theorem dX3_passTick_18 : decode cX3_passTick 18 = .ok (.dup, 1) := by decide +kernel
theorem dX3_passTick_19 : decode cX3_passTick 19 = .ok (.getfield 44, 3) := by decide +kernel
theorem dX3_passTick_22 : decode cX3_passTick 22 = .ok (.iconst 1, 1) := by decide +kernel
theorem dX3_passTick_23 : decode cX3_passTick 23 = .ok (.iadd, 1) := by decide +kernel
theorem dX3_passTick_24 : decode cX3_passTick 24 = .ok (.putfield 44, 3) := by decide +kernel
theorem dX3_passTick_27 : decode cX3_passTick 27 = .ok (.iload_n 1, 1) := by decide +kernel
theorem dX3_passTick_28 : decode cX3_passTick 28 = .ok (.ireturn, 1) := by decide +kernel
theorem dX3_raiseByTimers_0 : decode cX3_raiseByTimers 0 = .ok (.iconst 0, 1) := by decide +kernel
theorem dX3_raiseByTimers_1 : decode cX3_raiseByTimers 1 = .ok (.istore_n 1, 1) := by decide +kernel
theorem dX3_raiseByTimers_2 : decode cX3_raiseByTimers 2 = .ok (.iload_n 1, 1) := by decide +kernel
theorem dX3_raiseByTimers_3 : decode cX3_raiseByTimers 3 = .ok (.aload_n 0, 1) := by decide +kernel
theorem dX3_raiseByTimers_4 : decode cX3_raiseByTimers 4 = .ok (.getfield 61, 3) := by decide +kernel
theorem dX3_raiseByTimers_7 : decode cX3_raiseByTimers 7 = .ok (.if_icmp .ge 68, 3) := by decide +kernel
theorem dX3_raiseByTimers_10 : decode cX3_raiseByTimers 10 = .ok (.aload_n 0, 1) := by decide +kernel
theorem dX3_raiseByTimers_11 : decode cX3_raiseByTimers 11 = .ok (.getfield 32, 3) := by decide +kernel
theorem dX3_raiseByTimers_14 : decode cX3_raiseByTimers 14 = .ok (.iload_n 1, 1) := by decide +kernel
theorem dX3_raiseByTimers_15 : decode cX3_raiseByTimers 15 = .ok (.aaload, 1) := by decide +kernel
theorem dX3_raiseByTimers_16 : decode cX3_raiseByTimers 16 = .ok (.astore_n 2, 1) := by decide +kernel
theorem dX3_raiseByTimers_17 : decode cX3_raiseByTimers 17 = .ok (.aload_n 2, 1) := by decide +kernel
theorem dX3_raiseByTimers_18 : decode cX3_raiseByTimers 18 = .ok (.getfield 120, 3) := by decide +kernel
theorem dX3_raiseByTimers_21 : decode cX3_raiseByTimers 21 = .ok (.aload_n 0, 1) := by decide +kernel
theorem dX3_raiseByTimers_22 : decode cX3_raiseByTimers 22 = .ok (.getfield 44, 3) := by decide +kernel
theorem dX3_raiseByTimers_25 : decode cX3_raiseByTimers 25 = .ok (.if_icmp .gt 44, 3) := by decide +kernel
theorem dX3_raiseByTimers_28 : decode cX3_raiseByTimers 28 = .ok (.aload_n 0, 1) := by decide +kernel
theorem dX3_raiseByTimers_29 : decode cX3_raiseByTimers 29 = .ok (.getfield 25, 3) := by decide +kernel
theorem dX3_raiseByTimers_32 : decode cX3_raiseByTimers 32 = .ok (.aload_n 2, 1) := by decide +kernel
theorem dX3_raiseByTimers_33 : decode cX3_raiseByTimers 33 = .ok (.getfield 114, 3) := by decide +kernel
theorem dX3_raiseByTimers_36 : decode cX3_raiseByTimers 36 = .ok (.aaload, 1) := by decide +kernel
theorem dX3_raiseByTimers_37 : decode cX3_raiseByTimers 37 = .ok (.aload_n 0, 1) := by decide +kernel
theorem dX3_raiseByTimers_38 : decode cX3_raiseByTimers 38 = .ok (.getfield 18, 3) := by decide +kernel
theorem dX3_raiseByTimers_41 : decode cX3_raiseByTimers 41 = .ok (.iconst 5, 1) := by decide +kernel
theorem dX3_raiseByTimers_42 : decode cX3_raiseByTimers 42 = .ok (.iaload, 1) := by decide +kernel
theorem dX3_raiseByTimers_43 : decode cX3_raiseByTimers 43 = .ok (.iconst 1, 1) := by decide +kernel
theorem dX3_raiseByTimers_44 : decode cX3_raiseByTimers 44 = .ok (.if_icmp .ne 7, 3) := by decide +kernel
theorem dX3_raiseByTimers_47 : decode cX3_raiseByTimers 47 = .ok (.iconst 1, 1) := by decide +kernel
theorem dX3_raiseByTimers_48 : decode cX3_raiseByTimers 48 = .ok (.goto 4, 3) := by decide +kernel
theorem dX3_raiseByTimers_51 : decode cX3_raiseByTimers 51 = .ok (.iconst 0, 1) := by decide +kernel
theorem dX3_raiseByTimers_52 : decode cX3_raiseByTimers 52 = .ok (.invokevirtual 126, 3) := by decide +kernel
theorem dX3_raiseByTimers_55 : decode cX3_raiseByTimers 55 = .ok (.pop, 1) := by decide +kernel
theorem dX3_raiseByTimers_56 : decode cX3_raiseByTimers 56 = .ok (.aload_n 2, 1) := by decide +kernel
theorem dX3_raiseByTimers_57 : decode cX3_raiseByTimers 57 = .ok (.dup, 1) := by decide +kernel
theorem dX3_raiseByTimers_58 : decode cX3_raiseByTimers 58 = .ok (.getfield 120, 3) := by decide +kernel
theorem dX3_raiseByTimers_61 : decode cX3_raiseByTimers 61 = .ok (.aload_n 2, 1) := by decide +kernel
theorem dX3_raiseByTimers_62 : decode cX3_raiseByTimers 62 = .ok (.getfield 117, 3) := by decide +kernel
theorem dX3_raiseByTimers_65 : decode cX3_raiseByTimers 65 = .ok (.iadd, 1) := by decide +kernel
theorem dX3_raiseByTimers_66 : decode cX3_raiseByTimers 66 = .ok (.putfield 120, 3) := by decide +kernel
theorem dX3_raiseByTimers_69 : decode cX3_raiseByTimers 69 = .ok (.iinc 1 1, 3) := by decide +kernel
theorem dX3_raiseByTimers_72 : decode cX3_raiseByTimers 72 = .ok (.goto (-70), 3) := by decide +kernel
theorem dX3_raiseByTimers_75 : decode cX3_raiseByTimers 75 = .ok (.return_, 1) := by decide +kernel
theorem dX3_foundLine_0 : decode cX3_foundLine 0 = .ok (.bipush (-6), 2) := by decide +kernel
theorem dX3_foundLine_2 : decode cX3_foundLine 2 = .ok (.istore_n 1, 1) := by decide +kernel
theorem dX3_foundLine_3 : decode cX3_foundLine 3 = .ok (.iconst 0, 1) := by decide +kernel
theorem dX3_foundLine_4 : decode cX3_foundLine 4 = .ok (.istore_n 2, 1) := by decide +kernel
theorem dX3_foundLine_5 : decode cX3_foundLine 5 = .ok (.iconst 0, 1) := by decide +kernel
theorem dX3_foundLine_6 : decode cX3_foundLine 6 = .ok (.istore_n 3, 1) := by decide +kernel
theorem dX3_foundLine_7 : decode cX3_foundLine 7 = .ok (.iload_n 3, 1) := by decide +kernel
theorem dX3_foundLine_8 : decode cX3_foundLine 8 = .ok (.aload_n 0, 1) := by decide +kernel
theorem dX3_foundLine_9 : decode cX3_foundLine 9 = .ok (.getfield 54, 3) := by decide +kernel
theorem dX3_foundLine_12 : decode cX3_foundLine 12 = .ok (.if_icmp .ge 118, 3) := by decide +kernel
theorem dX3_foundLine_15 : decode cX3_foundLine 15 = .ok (.aload_n 0, 1) := by decide +kernel
theorem dX3_foundLine_16 : decode cX3_foundLine 16 = .ok (.getfield 25, 3) := by decide +kernel
theorem dX3_foundLine_19 : decode cX3_foundLine 19 = .ok (.iload_n 3, 1) := by decide +kernel
theorem dX3_foundLine_20 : decode cX3_foundLine 20 = .ok (.aaload, 1) := by decide +kernel
theorem dX3_foundLine_21 : decode cX3_foundLine 21 = .ok (.invokevirtual 156, 3) := by decide +kernel
theorem dX3_foundLine_24 : decode cX3_foundLine 24 = .ok (.ifCond .ne 6, 3) := by decide +kernel
theorem dX3_foundLine_27 : decode cX3_foundLine 27 = .ok (.goto 97, 3) := by decide +kernel
theorem dX3_foundLine_30 : decode cX3_foundLine 30 = .ok (.aload_n 0, 1) := by decide +kernel
theorem dX3_foundLine_31 : decode cX3_foundLine 31 = .ok (.getfield 25, 3) := by decide +kernel
theorem dX3_foundLine_34 : decode cX3_foundLine 34 = .ok (.iload_n 3, 1) := by decide +kernel
theorem dX3_foundLine_35 : decode cX3_foundLine 35 = .ok (.aaload, 1) := by decide +kernel
theorem dX3_foundLine_36 : decode cX3_foundLine 36 = .ok (.aload_n 0, 1) := by decide +kernel
theorem dX3_foundLine_37 : decode cX3_foundLine 37 = .ok (.getfield 18, 3) := by decide +kernel
theorem dX3_foundLine_40 : decode cX3_foundLine 40 = .ok (.iconst 0, 1) := by decide +kernel
theorem dX3_foundLine_41 : decode cX3_foundLine 41 = .ok (.iaload, 1) := by decide +kernel
theorem dX3_foundLine_42 : decode cX3_foundLine 42 = .ok (.aload_n 0, 1) := by decide +kernel
theorem dX3_foundLine_43 : decode cX3_foundLine 43 = .ok (.getfield 18, 3) := by decide +kernel
theorem dX3_foundLine_46 : decode cX3_foundLine 46 = .ok (.iconst 1, 1) := by decide +kernel
theorem dX3_foundLine_47 : decode cX3_foundLine 47 = .ok (.iaload, 1) := by decide +kernel
theorem dX3_foundLine_48 : decode cX3_foundLine 48 = .ok (.invokevirtual 160, 3) := by decide +kernel
theorem dX3_foundLine_51 : decode cX3_foundLine 51 = .ok (.istore 4, 2) := by decide +kernel
theorem dX3_foundLine_53 : decode cX3_foundLine 53 = .ok (.iload 4, 2) := by decide +kernel
theorem dX3_foundLine_55 : decode cX3_foundLine 55 = .ok (.aload_n 0, 1) := by decide +kernel
theorem dX3_foundLine_56 : decode cX3_foundLine 56 = .ok (.getfield 18, 3) := by decide +kernel
theorem dX3_foundLine_59 : decode cX3_foundLine 59 = .ok (.bipush 6, 2) := by decide +kernel
theorem dX3_foundLine_61 : decode cX3_foundLine 61 = .ok (.iaload, 1) := by decide +kernel
theorem dX3_foundLine_62 : decode cX3_foundLine 62 = .ok (.if_icmp .ge 6, 3) := by decide +kernel
theorem dX3_foundLine_65 : decode cX3_foundLine 65 = .ok (.goto 59, 3) := by decide +kernel
theorem dX3_foundLine_68 : decode cX3_foundLine 68 = .ok (.iload_n 1, 1) := by decide +kernel
theorem dX3_foundLine_69 : decode cX3_foundLine 69 = .ok (.bipush (-6), 2) := by decide +kernel
theorem dX3_foundLine_71 : decode cX3_foundLine 71 = .ok (.if_icmp .eq 36, 3) := by decide +kernel
theorem dX3_foundLine_74 : decode cX3_foundLine 74 = .ok (.iload 4, 2) := by decide +kernel
theorem dX3_foundLine_76 : decode cX3_foundLine 76 = .ok (.iload_n 2, 1) := by decide +kernel
theorem dX3_foundLine_77 : decode cX3_foundLine 77 = .ok (.if_icmp .gt 30, 3) := by decide +kernel
theorem dX3_foundLine_80 : decode cX3_foundLine 80 = .ok (.iload 4, 2) := by decide +kernel
theorem dX3_foundLine_82 : decode cX3_foundLine 82 = .ok (.iload_n 2, 1) := by decide +kernel
theorem dX3_foundLine_83 : decode cX3_foundLine 83 = .ok (.if_icmp .ne 28, 3) := by decide +kernel
theorem dX3_foundLine_86 : decode cX3_foundLine 86 = .ok (.aload_n 0, 1) := by decide +kernel
theorem dX3_foundLine_87 : decode cX3_foundLine 87 = .ok (.getfield 25, 3) := by decide +kernel
theorem dX3_foundLine_90 : decode cX3_foundLine 90 = .ok (.iload_n 3, 1) := by decide +kernel
theorem dX3_foundLine_91 : decode cX3_foundLine 91 = .ok (.aaload, 1) := by decide +kernel
theorem dX3_foundLine_92 : decode cX3_foundLine 92 = .ok (.getfield 164, 3) := by decide +kernel
theorem dX3_foundLine_95 : decode cX3_foundLine 95 = .ok (.aload_n 0, 1) := by decide +kernel
theorem dX3_foundLine_96 : decode cX3_foundLine 96 = .ok (.getfield 25, 3) := by decide +kernel
theorem dX3_foundLine_99 : decode cX3_foundLine 99 = .ok (.iload_n 1, 1) := by decide +kernel
theorem dX3_foundLine_100 : decode cX3_foundLine 100 = .ok (.aaload, 1) := by decide +kernel
theorem dX3_foundLine_101 : decode cX3_foundLine 101 = .ok (.getfield 164, 3) := by decide +kernel
theorem dX3_foundLine_104 : decode cX3_foundLine 104 = .ok (.if_icmp .le 7, 3) := by decide +kernel
theorem dX3_foundLine_107 : decode cX3_foundLine 107 = .ok (.iconst 1, 1) := by decide +kernel
theorem dX3_foundLine_108 : decode cX3_foundLine 108 = .ok (.goto 4, 3) := by decide +kernel
theorem dX3_foundLine_111 : decode cX3_foundLine 111 = .ok (.iconst 0, 1) := by decide +kernel
theorem dX3_foundLine_112 : decode cX3_foundLine 112 = .ok (.istore 5, 2) := by decide +kernel
theorem dX3_foundLine_114 : decode cX3_foundLine 114 = .ok (.iload 5, 2) := by decide +kernel
theorem dX3_foundLine_116 : decode cX3_foundLine 116 = .ok (.ifCond .eq 8, 3) := by decide +kernel
theorem dX3_foundLine_119 : decode cX3_foundLine 119 = .ok (.iload_n 3, 1) := by decide +kernel
theorem dX3_foundLine_120 : decode cX3_foundLine 120 = .ok (.istore_n 1, 1) := by decide +kernel
theorem dX3_foundLine_121 : decode cX3_foundLine 121 = .ok (.iload 4, 2) := by decide +kernel
theorem dX3_foundLine_123 : decode cX3_foundLine 123 = .ok (.istore_n 2, 1) := by decide +kernel
theorem dX3_foundLine_124 : decode cX3_foundLine 124 = .ok (.iinc 3 1, 3) := by decide +kernel
theorem dX3_foundLine_127 : decode cX3_foundLine 127 = .ok (.goto (-120), 3) := by decide +kernel
theorem dX3_foundLine_130 : decode cX3_foundLine 130 = .ok (.iload_n 1, 1) := by decide +kernel
theorem dX3_foundLine_131 : decode cX3_foundLine 131 = .ok (.ireturn, 1) := by decide +kernel
theorem dX3_beginFoundLine_0 : decode cX3_beginFoundLine 0 = .ok (.aload_n 0, 1) := by decide +kernel
theorem dX3_beginFoundLine_1 : decode cX3_beginFoundLine 1 = .ok (.invokevirtual 167, 3) := by decide +kernel
theorem dX3_beginFoundLine_4 : decode cX3_beginFoundLine 4 = .ok (.istore_n 1, 1) := by decide +kernel
theorem dX3_beginFoundLine_5 : decode cX3_beginFoundLine 5 = .ok (.iload_n 1, 1) := by decide +kernel
theorem dX3_beginFoundLine_6 : decode cX3_beginFoundLine 6 = .ok (.bipush (-6), 2) := by decide +kernel
theorem dX3_beginFoundLine_8 : decode cX3_beginFoundLine 8 = .ok (.if_icmp .ne 6, 3) := by decide +kernel
theorem dX3_beginFoundLine_11 : decode cX3_beginFoundLine 11 = .ok (.bipush (-6), 2) := by decide +kernel
theorem dX3_beginFoundLine_13 : decode cX3_beginFoundLine 13 = .ok (.ireturn, 1) := by decide +kernel
theorem dX3_beginFoundLine_14 : decode cX3_beginFoundLine 14 = .ok (.aload_n 0, 1) := by decide +kernel
theorem dX3_beginFoundLine_15 : decode cX3_beginFoundLine 15 = .ok (.getfield 25, 3) := by decide +kernel
theorem dX3_beginFoundLine_18 : decode cX3_beginFoundLine 18 = .ok (.iload_n 1, 1) := by decide +kernel
theorem dX3_beginFoundLine_19 : decode cX3_beginFoundLine 19 = .ok (.aaload, 1) := by decide +kernel
theorem dX3_beginFoundLine_20 : decode cX3_beginFoundLine 20 = .ok (.astore_n 2, 1) := by decide +kernel
theorem dX3_beginFoundLine_21 : decode cX3_beginFoundLine 21 = .ok (.aload_n 2, 1) := by decide +kernel
theorem dX3_beginFoundLine_22 : decode cX3_beginFoundLine 22 = .ok (.aload_n 0, 1) := by decide +kernel
theorem dX3_beginFoundLine_23 : decode cX3_beginFoundLine 23 = .ok (.getfield 18, 3) := by decide +kernel
theorem dX3_beginFoundLine_26 : decode cX3_beginFoundLine 26 = .ok (.iconst 0, 1) := by decide +kernel
theorem dX3_beginFoundLine_27 : decode cX3_beginFoundLine 27 = .ok (.iaload, 1) := by decide +kernel
theorem dX3_beginFoundLine_28 : decode cX3_beginFoundLine 28 = .ok (.aload_n 0, 1) := by decide +kernel
theorem dX3_beginFoundLine_29 : decode cX3_beginFoundLine 29 = .ok (.getfield 18, 3) := by decide +kernel
theorem dX3_beginFoundLine_32 : decode cX3_beginFoundLine 32 = .ok (.iconst 1, 1) := by decide +kernel
theorem dX3_beginFoundLine_33 : decode cX3_beginFoundLine 33 = .ok (.iaload, 1) := by decide +kernel
theorem dX3_beginFoundLine_34 : decode cX3_beginFoundLine 34 = .ok (.invokevirtual 160, 3) := by decide +kernel
theorem dX3_beginFoundLine_37 : decode cX3_beginFoundLine 37 = .ok (.istore_n 3, 1) := by decide +kernel
theorem dX3_beginFoundLine_38 : decode cX3_beginFoundLine 38 = .ok (.aload_n 0, 1) := by decide +kernel
theorem dX3_beginFoundLine_39 : decode cX3_beginFoundLine 39 = .ok (.iload_n 3, 1) := by decide +kernel
theorem dX3_beginFoundLine_40 : decode cX3_beginFoundLine 40 = .ok (.invokevirtual 170, 3) := by decide +kernel
theorem dX3_beginFoundLine_43 : decode cX3_beginFoundLine 43 = .ok (.ifCond .ne 6, 3) := by decide +kernel
theorem dX3_beginFoundLine_46 : decode cX3_beginFoundLine 46 = .ok (.bipush (-6), 2) := by decide +kernel
theorem dX3_beginFoundLine_48 : decode cX3_beginFoundLine 48 = .ok (.ireturn, 1) := by decide +kernel
theorem dX3_beginFoundLine_49 : decode cX3_beginFoundLine 49 = .ok (.aload_n 0, 1) := by decide +kernel
theorem dX3_beginFoundLine_50 : decode cX3_beginFoundLine 50 = .ok (.getfield 67, 3) := by decide +kernel
theorem dX3_beginFoundLine_53 : decode cX3_beginFoundLine 53 = .ok (.ifCond .le 13, 3) := by decide +kernel
theorem dX3_beginFoundLine_56 : decode cX3_beginFoundLine 56 = .ok (.aload_n 0, 1) := by decide +kernel
theorem dX3_beginFoundLine_57 : decode cX3_beginFoundLine 57 = .ok (.dup, 1) := by decide +kernel
theorem dX3_beginFoundLine_58 : decode cX3_beginFoundLine 58 = .ok (.getfield 79, 3) := by decide +kernel
theorem dX3_beginFoundLine_61 : decode cX3_beginFoundLine 61 = .ok (.iconst 1, 1) := by decide +kernel
theorem dX3_beginFoundLine_62 : decode cX3_beginFoundLine 62 = .ok (.iadd, 1) := by decide +kernel
theorem dX3_beginFoundLine_63 : decode cX3_beginFoundLine 63 = .ok (.putfield 79, 3) := by decide +kernel
theorem dX3_beginFoundLine_66 : decode cX3_beginFoundLine 66 = .ok (.aload_n 0, 1) := by decide +kernel
theorem dX3_beginFoundLine_67 : decode cX3_beginFoundLine 67 = .ok (.getfield 39, 3) := by decide +kernel
theorem dX3_beginFoundLine_70 : decode cX3_beginFoundLine 70 = .ok (.aload_n 0, 1) := by decide +kernel
theorem dX3_beginFoundLine_71 : decode cX3_beginFoundLine 71 = .ok (.getfield 67, 3) := by decide +kernel
theorem dX3_beginFoundLine_74 : decode cX3_beginFoundLine 74 = .ok (.aaload, 1) := by decide +kernel
theorem dX3_beginFoundLine_75 : decode cX3_beginFoundLine 75 = .ok (.astore 4, 2) := by decide +kernel
theorem dX3_beginFoundLine_77 : decode cX3_beginFoundLine 77 = .ok (.aload 4, 2) := by decide +kernel
theorem dX3_beginFoundLine_79 : decode cX3_beginFoundLine 79 = .ok (.iload_n 1, 1) := by decide +kernel
theorem dX3_beginFoundLine_80 : decode cX3_beginFoundLine 80 = .ok (.putfield 173, 3) := by decide +kernel
theorem dX3_beginFoundLine_83 : decode cX3_beginFoundLine 83 = .ok (.aload 4, 2) := by decide +kernel
theorem dX3_beginFoundLine_85 : decode cX3_beginFoundLine 85 = .ok (.iload_n 3, 1) := by decide +kernel
theorem dX3_beginFoundLine_86 : decode cX3_beginFoundLine 86 = .ok (.putfield 174, 3) := by decide +kernel
theorem dX3_beginFoundLine_89 : decode cX3_beginFoundLine 89 = .ok (.aload 4, 2) := by decide +kernel
theorem dX3_beginFoundLine_91 : decode cX3_beginFoundLine 91 = .ok (.aload_n 0, 1) := by decide +kernel
theorem dX3_beginFoundLine_92 : decode cX3_beginFoundLine 92 = .ok (.iload_n 1, 1) := by decide +kernel
theorem dX3_beginFoundLine_93 : decode cX3_beginFoundLine 93 = .ok (.invokevirtual 175, 3) := by decide +kernel
theorem dX3_beginFoundLine_96 : decode cX3_beginFoundLine 96 = .ok (.putfield 179, 3) := by decide +kernel
theorem dX3_beginFoundLine_99 : decode cX3_beginFoundLine 99 = .ok (.aload 4, 2) := by decide +kernel
theorem dX3_beginFoundLine_101 : decode cX3_beginFoundLine 101 = .ok (.aload_n 0, 1) := by decide +kernel
theorem dX3_beginFoundLine_102 : decode cX3_beginFoundLine 102 = .ok (.getfield 44, 3) := by decide +kernel
theorem dX3_beginFoundLine_105 : decode cX3_beginFoundLine 105 = .ok (.putfield 182, 3) := by decide +kernel
theorem dX3_beginFoundLine_108 : decode cX3_beginFoundLine 108 = .ok (.aload_n 2, 1) := by decide +kernel
theorem dX3_beginFoundLine_109 : decode cX3_beginFoundLine 109 = .ok (.aload_n 0, 1) := by decide +kernel
theorem dX3_beginFoundLine_110 : decode cX3_beginFoundLine 110 = .ok (.getfield 67, 3) := by decide +kernel
theorem dX3_beginFoundLine_113 : decode cX3_beginFoundLine 113 = .ok (.invokevirtual 185, 3) := by decide +kernel
theorem dX3_beginFoundLine_116 : decode cX3_beginFoundLine 116 = .ok (.aload_n 0, 1) := by decide +kernel
theorem dX3_beginFoundLine_117 : decode cX3_beginFoundLine 117 = .ok (.dup, 1) := by decide +kernel
theorem dX3_beginFoundLine_118 : decode cX3_beginFoundLine 118 = .ok (.getfield 67, 3) := by decide +kernel
theorem dX3_beginFoundLine_121 : decode cX3_beginFoundLine 121 = .ok (.iconst 1, 1) := by decide +kernel
theorem dX3_beginFoundLine_122 : decode cX3_beginFoundLine 122 = .ok (.iadd, 1) := by decide +kernel
theorem dX3_beginFoundLine_123 : decode cX3_beginFoundLine 123 = .ok (.putfield 67, 3) := by decide +kernel
theorem dX3_beginFoundLine_126 : decode cX3_beginFoundLine 126 = .ok (.aload_n 0, 1) := by decide +kernel
theorem dX3_beginFoundLine_127 : decode cX3_beginFoundLine 127 = .ok (.getfield 67, 3) := by decide +kernel
theorem dX3_beginFoundLine_130 : decode cX3_beginFoundLine 130 = .ok (.aload_n 0, 1) := by decide +kernel
theorem dX3_beginFoundLine_131 : decode cX3_beginFoundLine 131 = .ok (.getfield 76, 3) := by decide +kernel
theorem dX3_beginFoundLine_134 : decode cX3_beginFoundLine 134 = .ok (.if_icmp .le 11, 3) := by decide +kernel
theorem dX3_beginFoundLine_137 : decode cX3_beginFoundLine 137 = .ok (.aload_n 0, 1) := by decide +kernel
theorem dX3_beginFoundLine_138 : decode cX3_beginFoundLine 138 = .ok (.aload_n 0, 1) := by decide +kernel
theorem dX3_beginFoundLine_139 : decode cX3_beginFoundLine 139 = .ok (.getfield 67, 3) := by decide +kernel
theorem dX3_beginFoundLine_142 : decode cX3_beginFoundLine 142 = .ok (.putfield 76, 3) := by decide +kernel
theorem dX3_beginFoundLine_145 : decode cX3_beginFoundLine 145 = .ok (.iload_n 1, 1) := by decide +kernel
theorem dX3_beginFoundLine_146 : decode cX3_beginFoundLine 146 = .ok (.ireturn, 1) := by decide +kernel
theorem dX3_nestTakes_0 : decode cX3_nestTakes 0 = .ok (.aload_n 0, 1) := by decide +kernel
theorem dX3_nestTakes_1 : decode cX3_nestTakes 1 = .ok (.getfield 67, 3) := by decide +kernel
theorem dX3_nestTakes_4 : decode cX3_nestTakes 4 = .ok (.ifCond .ne 5, 3) := by decide +kernel
theorem dX3_nestTakes_7 : decode cX3_nestTakes 7 = .ok (.iconst 1, 1) := by decide +kernel
theorem dX3_nestTakes_8 : decode cX3_nestTakes 8 = .ok (.ireturn, 1) := by decide +kernel
theorem dX3_nestTakes_9 : decode cX3_nestTakes 9 = .ok (.aload_n 0, 1) := by decide +kernel
theorem dX3_nestTakes_10 : decode cX3_nestTakes 10 = .ok (.getfield 67, 3) := by decide +kernel
theorem dX3_nestTakes_13 : decode cX3_nestTakes 13 = .ok (.aload_n 0, 1) := by decide +kernel
theorem dX3_nestTakes_14 : decode cX3_nestTakes 14 = .ok (.getfield 18, 3) := by decide +kernel
theorem dX3_nestTakes_17 : decode cX3_nestTakes 17 = .ok (.iconst 3, 1) := by decide +kernel
theorem dX3_nestTakes_18 : decode cX3_nestTakes 18 = .ok (.iaload, 1) := by decide +kernel
theorem dX3_nestTakes_19 : decode cX3_nestTakes 19 = .ok (.if_icmp .ge 16, 3) := by decide +kernel
theorem dX3_nestTakes_22 : decode cX3_nestTakes 22 = .ok (.aload_n 0, 1) := by decide +kernel
theorem dX3_nestTakes_23 : decode cX3_nestTakes 23 = .ok (.getfield 67, 3) := by decide +kernel
theorem dX3_nestTakes_26 : decode cX3_nestTakes 26 = .ok (.bipush 8, 2) := by decide +kernel
theorem dX3_nestTakes_28 : decode cX3_nestTakes 28 = .ok (.if_icmp .ge 7, 3) := by decide +kernel
theorem dX3_nestTakes_31 : decode cX3_nestTakes 31 = .ok (.iconst 1, 1) := by decide +kernel
theorem dX3_nestTakes_32 : decode cX3_nestTakes 32 = .ok (.goto 4, 3) := by decide +kernel
theorem dX3_nestTakes_35 : decode cX3_nestTakes 35 = .ok (.iconst 0, 1) := by decide +kernel
theorem dX3_nestTakes_36 : decode cX3_nestTakes 36 = .ok (.istore_n 2, 1) := by decide +kernel
theorem dX3_nestTakes_37 : decode cX3_nestTakes 37 = .ok (.iload_n 2, 1) := by decide +kernel
theorem dX3_nestTakes_38 : decode cX3_nestTakes 38 = .ok (.ifCond .eq 32, 3) := by decide +kernel
theorem dX3_nestTakes_41 : decode cX3_nestTakes 41 = .ok (.iload_n 1, 1) := by decide +kernel
theorem dX3_nestTakes_42 : decode cX3_nestTakes 42 = .ok (.aload_n 0, 1) := by decide +kernel
theorem dX3_nestTakes_43 : decode cX3_nestTakes 43 = .ok (.getfield 39, 3) := by decide +kernel
theorem dX3_nestTakes_46 : decode cX3_nestTakes 46 = .ok (.aload_n 0, 1) := by decide +kernel
theorem dX3_nestTakes_47 : decode cX3_nestTakes 47 = .ok (.getfield 67, 3) := by decide +kernel
theorem dX3_nestTakes_50 : decode cX3_nestTakes 50 = .ok (.iconst 1, 1) := by decide +kernel
theorem dX3_nestTakes_51 : decode cX3_nestTakes 51 = .ok (.isub, 1) := by decide +kernel
theorem dX3_nestTakes_52 : decode cX3_nestTakes 52 = .ok (.aaload, 1) := by decide +kernel
theorem dX3_nestTakes_53 : decode cX3_nestTakes 53 = .ok (.getfield 174, 3) := by decide +kernel
theorem dX3_nestTakes_56 : decode cX3_nestTakes 56 = .ok (.aload_n 0, 1) := by decide +kernel
theorem dX3_nestTakes_57 : decode cX3_nestTakes 57 = .ok (.getfield 18, 3) := by decide +kernel
theorem dX3_nestTakes_60 : decode cX3_nestTakes 60 = .ok (.iconst 2, 1) := by decide +kernel
theorem dX3_nestTakes_61 : decode cX3_nestTakes 61 = .ok (.iaload, 1) := by decide +kernel
theorem dX3_nestTakes_62 : decode cX3_nestTakes 62 = .ok (.iadd, 1) := by decide +kernel
theorem dX3_nestTakes_63 : decode cX3_nestTakes 63 = .ok (.if_icmp .lt 7, 3) := by decide +kernel
theorem dX3_nestTakes_66 : decode cX3_nestTakes 66 = .ok (.iconst 1, 1) := by decide +kernel
theorem dX3_nestTakes_67 : decode cX3_nestTakes 67 = .ok (.goto 4, 3) := by decide +kernel
theorem dX3_nestTakes_70 : decode cX3_nestTakes 70 = .ok (.iconst 0, 1) := by decide +kernel
theorem dX3_nestTakes_71 : decode cX3_nestTakes 71 = .ok (.ireturn, 1) := by decide +kernel
theorem dX3_serveTop_0 : decode cX3_serveTop 0 = .ok (.aload_n 0, 1) := by decide +kernel
theorem dX3_serveTop_1 : decode cX3_serveTop 1 = .ok (.getfield 67, 3) := by decide +kernel
theorem dX3_serveTop_4 : decode cX3_serveTop 4 = .ok (.ifCond .ne 4, 3) := by decide +kernel
theorem dX3_serveTop_7 : decode cX3_serveTop 7 = .ok (.return_, 1) := by decide +kernel
theorem dX3_serveTop_8 : decode cX3_serveTop 8 = .ok (.aload_n 0, 1) := by decide +kernel
theorem dX3_serveTop_9 : decode cX3_serveTop 9 = .ok (.getfield 39, 3) := by decide +kernel
theorem dX3_serveTop_12 : decode cX3_serveTop 12 = .ok (.aload_n 0, 1) := by decide +kernel
theorem dX3_serveTop_13 : decode cX3_serveTop 13 = .ok (.getfield 67, 3) := by decide +kernel
theorem dX3_serveTop_16 : decode cX3_serveTop 16 = .ok (.iconst 1, 1) := by decide +kernel
theorem dX3_serveTop_17 : decode cX3_serveTop 17 = .ok (.isub, 1) := by decide +kernel
theorem dX3_serveTop_18 : decode cX3_serveTop 18 = .ok (.aaload, 1) := by decide +kernel
theorem dX3_serveTop_19 : decode cX3_serveTop 19 = .ok (.astore_n 1, 1) := by decide +kernel
theorem dX3_serveTop_20 : decode cX3_serveTop 20 = .ok (.aload_n 0, 1) := by decide +kernel
theorem dX3_serveTop_21 : decode cX3_serveTop 21 = .ok (.dup, 1) := by decide +kernel
theorem dX3_serveTop_22 : decode cX3_serveTop 22 = .ok (.getfield 73, 3) := by decide +kernel
theorem dX3_serveTop_25 : decode cX3_serveTop 25 = .ok (.iconst 1, 1) := by decide +kernel
theorem dX3_serveTop_26 : decode cX3_serveTop 26 = .ok (.iadd, 1) := by decide +kernel
theorem dX3_serveTop_27 : decode cX3_serveTop 27 = .ok (.putfield 73, 3) := by decide +kernel
theorem dX3_serveTop_30 : decode cX3_serveTop 30 = .ok (.aload_n 1, 1) := by decide +kernel
theorem dX3_serveTop_31 : decode cX3_serveTop 31 = .ok (.dup, 1) := by decide +kernel
theorem dX3_serveTop_32 : decode cX3_serveTop 32 = .ok (.getfield 179, 3) := by decide +kernel
theorem dX3_serveTop_35 : decode cX3_serveTop 35 = .ok (.iconst 1, 1) := by decide +kernel
theorem dX3_serveTop_36 : decode cX3_serveTop 36 = .ok (.isub, 1) := by decide +kernel
theorem dX3_serveTop_37 : decode cX3_serveTop 37 = .ok (.putfield 179, 3) := by decide +kernel
theorem dX3_serveTop_40 : decode cX3_serveTop 40 = .ok (.aload_n 1, 1) := by decide +kernel
theorem dX3_serveTop_41 : decode cX3_serveTop 41 = .ok (.getfield 179, 3) := by decide +kernel
theorem dX3_serveTop_44 : decode cX3_serveTop 44 = .ok (.ifCond .gt 25, 3) := by decide +kernel
theorem dX3_serveTop_47 : decode cX3_serveTop 47 = .ok (.aload_n 0, 1) := by decide +kernel
theorem dX3_serveTop_48 : decode cX3_serveTop 48 = .ok (.dup, 1) := by decide +kernel
theorem dX3_serveTop_49 : decode cX3_serveTop 49 = .ok (.getfield 67, 3) := by decide +kernel
theorem dX3_serveTop_52 : decode cX3_serveTop 52 = .ok (.iconst 1, 1) := by decide +kernel
theorem dX3_serveTop_53 : decode cX3_serveTop 53 = .ok (.isub, 1) := by decide +kernel
theorem dX3_serveTop_54 : decode cX3_serveTop 54 = .ok (.putfield 67, 3) := by decide +kernel
theorem dX3_serveTop_57 : decode cX3_serveTop 57 = .ok (.aload_n 0, 1) := by decide +kernel
theorem dX3_serveTop_58 : decode cX3_serveTop 58 = .ok (.getfield 25, 3) := by decide +kernel
theorem dX3_serveTop_61 : decode cX3_serveTop 61 = .ok (.aload_n 1, 1) := by decide +kernel
theorem dX3_serveTop_62 : decode cX3_serveTop 62 = .ok (.getfield 173, 3) := by decide +kernel
theorem dX3_serveTop_65 : decode cX3_serveTop 65 = .ok (.aaload, 1) := by decide +kernel
theorem dX3_serveTop_66 : decode cX3_serveTop 66 = .ok (.invokevirtual 189, 3) := by decide +kernel
theorem dX3_serveTop_69 : decode cX3_serveTop 69 = .ok (.return_, 1) := by decide +kernel
theorem dX3_growWaits_0 : decode cX3_growWaits 0 = .ok (.iconst 0, 1) := by decide +kernel
theorem dX3_growWaits_1 : decode cX3_growWaits 1 = .ok (.istore_n 1, 1) := by decide +kernel
theorem dX3_growWaits_2 : decode cX3_growWaits 2 = .ok (.iload_n 1, 1) := by decide +kernel
theorem dX3_growWaits_3 : decode cX3_growWaits 3 = .ok (.aload_n 0, 1) := by decide +kernel
theorem dX3_growWaits_4 : decode cX3_growWaits 4 = .ok (.getfield 54, 3) := by decide +kernel
theorem dX3_growWaits_7 : decode cX3_growWaits 7 = .ok (.if_icmp .ge 36, 3) := by decide +kernel
theorem dX3_growWaits_10 : decode cX3_growWaits 10 = .ok (.aload_n 0, 1) := by decide +kernel
theorem dX3_growWaits_11 : decode cX3_growWaits 11 = .ok (.getfield 25, 3) := by decide +kernel
theorem dX3_growWaits_14 : decode cX3_growWaits 14 = .ok (.iload_n 1, 1) := by decide +kernel
theorem dX3_growWaits_15 : decode cX3_growWaits 15 = .ok (.aaload, 1) := by decide +kernel
theorem dX3_growWaits_16 : decode cX3_growWaits 16 = .ok (.getfield 192, 3) := by decide +kernel
theorem dX3_growWaits_19 : decode cX3_growWaits 19 = .ok (.ifCond .eq 18, 3) := by decide +kernel
theorem dX3_growWaits_22 : decode cX3_growWaits 22 = .ok (.aload_n 0, 1) := by decide +kernel
theorem dX3_growWaits_23 : decode cX3_growWaits 23 = .ok (.getfield 25, 3) := by decide +kernel
theorem dX3_growWaits_26 : decode cX3_growWaits 26 = .ok (.iload_n 1, 1) := by decide +kernel
theorem dX3_growWaits_27 : decode cX3_growWaits 27 = .ok (.aaload, 1) := by decide +kernel
theorem dX3_growWaits_28 : decode cX3_growWaits 28 = .ok (.dup, 1) := by decide +kernel
theorem dX3_growWaits_29 : decode cX3_growWaits 29 = .ok (.getfield 164, 3) := by decide +kernel
theorem dX3_growWaits_32 : decode cX3_growWaits 32 = .ok (.iconst 1, 1) := by decide +kernel
theorem dX3_growWaits_33 : decode cX3_growWaits 33 = .ok (.iadd, 1) := by decide +kernel
theorem dX3_growWaits_34 : decode cX3_growWaits 34 = .ok (.putfield 164, 3) := by decide +kernel
theorem dX3_growWaits_37 : decode cX3_growWaits 37 = .ok (.iinc 1 1, 3) := by decide +kernel
theorem dX3_growWaits_40 : decode cX3_growWaits 40 = .ok (.goto (-38), 3) := by decide +kernel
theorem dX3_growWaits_43 : decode cX3_growWaits 43 = .ok (.return_, 1) := by decide +kernel
theorem dX3_numberOfLine_0 : decode cX3_numberOfLine 0 = .ok (.aload_n 0, 1) := by decide +kernel
theorem dX3_numberOfLine_1 : decode cX3_numberOfLine 1 = .ok (.iload_n 1, 1) := by decide +kernel
theorem dX3_numberOfLine_2 : decode cX3_numberOfLine 2 = .ok (.invokevirtual 103, 3) := by decide +kernel
theorem dX3_numberOfLine_5 : decode cX3_numberOfLine 5 = .ok (.ifCond .ne 5, 3) := by decide +kernel
theorem dX3_numberOfLine_8 : decode cX3_numberOfLine 8 = .ok (.iconst (-1), 1) := by decide +kernel
theorem dX3_numberOfLine_9 : decode cX3_numberOfLine 9 = .ok (.ireturn, 1) := by decide +kernel
theorem dX3_numberOfLine_10 : decode cX3_numberOfLine 10 = .ok (.aload_n 0, 1) := by decide +kernel
theorem dX3_numberOfLine_11 : decode cX3_numberOfLine 11 = .ok (.getfield 25, 3) := by decide +kernel
theorem dX3_numberOfLine_14 : decode cX3_numberOfLine 14 = .ok (.iload_n 1, 1) := by decide +kernel
theorem dX3_numberOfLine_15 : decode cX3_numberOfLine 15 = .ok (.aaload, 1) := by decide +kernel
theorem dX3_numberOfLine_16 : decode cX3_numberOfLine 16 = .ok (.iload_n 2, 1) := by decide +kernel
theorem dX3_numberOfLine_17 : decode cX3_numberOfLine 17 = .ok (.aload_n 0, 1) := by decide +kernel
theorem dX3_numberOfLine_18 : decode cX3_numberOfLine 18 = .ok (.getfield 18, 3) := by decide +kernel
theorem dX3_numberOfLine_21 : decode cX3_numberOfLine 21 = .ok (.iconst 0, 1) := by decide +kernel
theorem dX3_numberOfLine_22 : decode cX3_numberOfLine 22 = .ok (.iaload, 1) := by decide +kernel
theorem dX3_numberOfLine_23 : decode cX3_numberOfLine 23 = .ok (.aload_n 0, 1) := by decide +kernel
theorem dX3_numberOfLine_24 : decode cX3_numberOfLine 24 = .ok (.getfield 18, 3) := by decide +kernel
theorem dX3_numberOfLine_27 : decode cX3_numberOfLine 27 = .ok (.iconst 1, 1) := by decide +kernel
theorem dX3_numberOfLine_28 : decode cX3_numberOfLine 28 = .ok (.iaload, 1) := by decide +kernel
theorem dX3_numberOfLine_29 : decode cX3_numberOfLine 29 = .ok (.invokevirtual 195, 3) := by decide +kernel
theorem dX3_numberOfLine_32 : decode cX3_numberOfLine 32 = .ok (.ireturn, 1) := by decide +kernel
theorem dX3_numberOfPlace_0 : decode cX3_numberOfPlace 0 = .ok (.iload_n 1, 1) := by decide +kernel
theorem dX3_numberOfPlace_1 : decode cX3_numberOfPlace 1 = .ok (.iconst 0, 1) := by decide +kernel
theorem dX3_numberOfPlace_2 : decode cX3_numberOfPlace 2 = .ok (.aload_n 0, 1) := by decide +kernel
theorem dX3_numberOfPlace_3 : decode cX3_numberOfPlace 3 = .ok (.getfield 67, 3) := by decide +kernel
theorem dX3_numberOfPlace_6 : decode cX3_numberOfPlace 6 = .ok (.iconst 1, 1) := by decide +kernel
theorem dX3_numberOfPlace_7 : decode cX3_numberOfPlace 7 = .ok (.isub, 1) := by decide +kernel
theorem dX3_numberOfPlace_8 : decode cX3_numberOfPlace 8 = .ok (.invokestatic 82, 3) := by decide +kernel
theorem dX3_numberOfPlace_11 : decode cX3_numberOfPlace 11 = .ok (.ifCond .eq 16, 3) := by decide +kernel
theorem dX3_numberOfPlace_14 : decode cX3_numberOfPlace 14 = .ok (.aload_n 0, 1) := by decide +kernel
theorem dX3_numberOfPlace_15 : decode cX3_numberOfPlace 15 = .ok (.getfield 39, 3) := by decide +kernel
theorem dX3_numberOfPlace_18 : decode cX3_numberOfPlace 18 = .ok (.iload_n 1, 1) := by decide +kernel
theorem dX3_numberOfPlace_19 : decode cX3_numberOfPlace 19 = .ok (.aaload, 1) := by decide +kernel
theorem dX3_numberOfPlace_20 : decode cX3_numberOfPlace 20 = .ok (.iload_n 2, 1) := by decide +kernel
theorem dX3_numberOfPlace_21 : decode cX3_numberOfPlace 21 = .ok (.invokevirtual 199, 3) := by decide +kernel
theorem dX3_numberOfPlace_24 : decode cX3_numberOfPlace 24 = .ok (.goto 4, 3) := by decide +kernel
theorem dX3_numberOfPlace_27 : decode cX3_numberOfPlace 27 = .ok (.iconst (-1), 1) := by decide +kernel
theorem dX3_numberOfPlace_28 : decode cX3_numberOfPlace 28 = .ok (.ireturn, 1) := by decide +kernel
theorem dX3_numberOfTimer_0 : decode cX3_numberOfTimer 0 = .ok (.aload_n 0, 1) := by decide +kernel
theorem dX3_numberOfTimer_1 : decode cX3_numberOfTimer 1 = .ok (.iload_n 1, 1) := by decide +kernel
theorem dX3_numberOfTimer_2 : decode cX3_numberOfTimer 2 = .ok (.invokevirtual 123, 3) := by decide +kernel
theorem dX3_numberOfTimer_5 : decode cX3_numberOfTimer 5 = .ok (.ifCond .eq 16, 3) := by decide +kernel
theorem dX3_numberOfTimer_8 : decode cX3_numberOfTimer 8 = .ok (.aload_n 0, 1) := by decide +kernel
theorem dX3_numberOfTimer_9 : decode cX3_numberOfTimer 9 = .ok (.getfield 32, 3) := by decide +kernel
theorem dX3_numberOfTimer_12 : decode cX3_numberOfTimer 12 = .ok (.iload_n 1, 1) := by decide +kernel
theorem dX3_numberOfTimer_13 : decode cX3_numberOfTimer 13 = .ok (.aaload, 1) := by decide +kernel
theorem dX3_numberOfTimer_14 : decode cX3_numberOfTimer 14 = .ok (.iload_n 2, 1) := by decide +kernel
theorem dX3_numberOfTimer_15 : decode cX3_numberOfTimer 15 = .ok (.invokevirtual 201, 3) := by decide +kernel
theorem dX3_numberOfTimer_18 : decode cX3_numberOfTimer 18 = .ok (.goto 4, 3) := by decide +kernel
theorem dX3_numberOfTimer_21 : decode cX3_numberOfTimer 21 = .ok (.iconst (-1), 1) := by decide +kernel
theorem dX3_numberOfTimer_22 : decode cX3_numberOfTimer 22 = .ok (.ireturn, 1) := by decide +kernel
theorem dX3_numberOfAll_0 : decode cX3_numberOfAll 0 = .ok (.iload_n 1, 1) := by decide +kernel
theorem dX3_numberOfAll_1 : decode cX3_numberOfAll 1 = .ok (.bipush 12, 2) := by decide +kernel
theorem dX3_numberOfAll_3 : decode cX3_numberOfAll 3 = .ok (.isub, 1) := by decide +kernel
theorem dX3_numberOfAll_4 : decode cX3_numberOfAll 4 = .ok (.istore_n 2, 1) := by decide +kernel
theorem dX3_numberOfAll_5 : decode cX3_numberOfAll 5 = .ok (.iload_n 1, 1) := by decide +kernel
theorem dX3_numberOfAll_6 : decode cX3_numberOfAll 6 = .ok (.bipush 12, 2) := by decide +kernel
theorem dX3_numberOfAll_8 : decode cX3_numberOfAll 8 = .ok (.if_icmp .lt 19, 3) := by decide +kernel
theorem dX3_numberOfAll_11 : decode cX3_numberOfAll 11 = .ok (.iload_n 2, 1) := by decide +kernel
theorem dX3_numberOfAll_12 : decode cX3_numberOfAll 12 = .ok (.aload_n 0, 1) := by decide +kernel
theorem dX3_numberOfAll_13 : decode cX3_numberOfAll 13 = .ok (.getfield 18, 3) := by decide +kernel
theorem dX3_numberOfAll_16 : decode cX3_numberOfAll 16 = .ok (.arraylength, 1) := by decide +kernel
theorem dX3_numberOfAll_17 : decode cX3_numberOfAll 17 = .ok (.if_icmp .ge 10, 3) := by decide +kernel
theorem dX3_numberOfAll_20 : decode cX3_numberOfAll 20 = .ok (.aload_n 0, 1) := by decide +kernel
theorem dX3_numberOfAll_21 : decode cX3_numberOfAll 21 = .ok (.getfield 18, 3) := by decide +kernel
theorem dX3_numberOfAll_24 : decode cX3_numberOfAll 24 = .ok (.iload_n 2, 1) := by decide +kernel
theorem dX3_numberOfAll_25 : decode cX3_numberOfAll 25 = .ok (.iaload, 1) := by decide +kernel
theorem dX3_numberOfAll_26 : decode cX3_numberOfAll 26 = .ok (.ireturn, 1) := by decide +kernel
theorem dX3_numberOfAll_27 : decode cX3_numberOfAll 27 = .ok (.iload_n 1, 1) := by decide +kernel
theorem dX3_numberOfAll_28 : decode cX3_numberOfAll 28 = .ok (.tableswitch 106 0 9 #[56, 61, 66, 71, 76, 81, 86, 91, 96, 101], 56) := by decide +kernel
theorem dX3_numberOfAll_84 : decode cX3_numberOfAll 84 = .ok (.aload_n 0, 1) := by decide +kernel
theorem dX3_numberOfAll_85 : decode cX3_numberOfAll 85 = .ok (.getfield 44, 3) := by decide +kernel
theorem dX3_numberOfAll_88 : decode cX3_numberOfAll 88 = .ok (.ireturn, 1) := by decide +kernel
theorem dX3_numberOfAll_89 : decode cX3_numberOfAll 89 = .ok (.aload_n 0, 1) := by decide +kernel
theorem dX3_numberOfAll_90 : decode cX3_numberOfAll 90 = .ok (.getfield 54, 3) := by decide +kernel
theorem dX3_numberOfAll_93 : decode cX3_numberOfAll 93 = .ok (.ireturn, 1) := by decide +kernel
theorem dX3_numberOfAll_94 : decode cX3_numberOfAll 94 = .ok (.aload_n 0, 1) := by decide +kernel
theorem dX3_numberOfAll_95 : decode cX3_numberOfAll 95 = .ok (.getfield 61, 3) := by decide +kernel
theorem dX3_numberOfAll_98 : decode cX3_numberOfAll 98 = .ok (.ireturn, 1) := by decide +kernel
theorem dX3_numberOfAll_99 : decode cX3_numberOfAll 99 = .ok (.aload_n 0, 1) := by decide +kernel
theorem dX3_numberOfAll_100 : decode cX3_numberOfAll 100 = .ok (.getfield 67, 3) := by decide +kernel
theorem dX3_numberOfAll_103 : decode cX3_numberOfAll 103 = .ok (.ireturn, 1) := by decide +kernel
theorem dX3_numberOfAll_104 : decode cX3_numberOfAll 104 = .ok (.aload_n 0, 1) := by decide +kernel
theorem dX3_numberOfAll_105 : decode cX3_numberOfAll 105 = .ok (.invokevirtual 202, 3) := by decide +kernel
theorem dX3_numberOfAll_108 : decode cX3_numberOfAll 108 = .ok (.ireturn, 1) := by decide +kernel
theorem dX3_numberOfAll_109 : decode cX3_numberOfAll 109 = .ok (.aload_n 0, 1) := by decide +kernel
theorem dX3_numberOfAll_110 : decode cX3_numberOfAll 110 = .ok (.invokevirtual 167, 3) := by decide +kernel
theorem dX3_numberOfAll_113 : decode cX3_numberOfAll 113 = .ok (.ireturn, 1) := by decide +kernel
theorem dX3_numberOfAll_114 : decode cX3_numberOfAll 114 = .ok (.aload_n 0, 1) := by decide +kernel
theorem dX3_numberOfAll_115 : decode cX3_numberOfAll 115 = .ok (.getfield 73, 3) := by decide +kernel
theorem dX3_numberOfAll_118 : decode cX3_numberOfAll 118 = .ok (.ireturn, 1) := by decide +kernel
theorem dX3_numberOfAll_119 : decode cX3_numberOfAll 119 = .ok (.aload_n 0, 1) := by decide +kernel
theorem dX3_numberOfAll_120 : decode cX3_numberOfAll 120 = .ok (.getfield 76, 3) := by decide +kernel
theorem dX3_numberOfAll_123 : decode cX3_numberOfAll 123 = .ok (.ireturn, 1) := by decide +kernel
theorem dX3_numberOfAll_124 : decode cX3_numberOfAll 124 = .ok (.aload_n 0, 1) := by decide +kernel
theorem dX3_numberOfAll_125 : decode cX3_numberOfAll 125 = .ok (.invokevirtual 205, 3) := by decide +kernel
theorem dX3_numberOfAll_128 : decode cX3_numberOfAll 128 = .ok (.ireturn, 1) := by decide +kernel
theorem dX3_numberOfAll_129 : decode cX3_numberOfAll 129 = .ok (.aload_n 0, 1) := by decide +kernel
theorem dX3_numberOfAll_130 : decode cX3_numberOfAll 130 = .ok (.getfield 79, 3) := by decide +kernel
theorem dX3_numberOfAll_133 : decode cX3_numberOfAll 133 = .ok (.ireturn, 1) := by decide +kernel
theorem dX3_numberOfAll_134 : decode cX3_numberOfAll 134 = .ok (.bipush (-2), 2) := by decide +kernel
theorem dX3_numberOfAll_136 : decode cX3_numberOfAll 136 = .ok (.ireturn, 1) := by decide +kernel
theorem dX3_waitingLines_0 : decode cX3_waitingLines 0 = .ok (.iconst 0, 1) := by decide +kernel
theorem dX3_waitingLines_1 : decode cX3_waitingLines 1 = .ok (.istore_n 1, 1) := by decide +kernel
theorem dX3_waitingLines_2 : decode cX3_waitingLines 2 = .ok (.iconst 0, 1) := by decide +kernel
theorem dX3_waitingLines_3 : decode cX3_waitingLines 3 = .ok (.istore_n 2, 1) := by decide +kernel
theorem dX3_waitingLines_4 : decode cX3_waitingLines 4 = .ok (.iload_n 2, 1) := by decide +kernel
theorem dX3_waitingLines_5 : decode cX3_waitingLines 5 = .ok (.aload_n 0, 1) := by decide +kernel
theorem dX3_waitingLines_6 : decode cX3_waitingLines 6 = .ok (.getfield 54, 3) := by decide +kernel
theorem dX3_waitingLines_9 : decode cX3_waitingLines 9 = .ok (.if_icmp .ge 27, 3) := by decide +kernel
theorem dX3_waitingLines_12 : decode cX3_waitingLines 12 = .ok (.aload_n 0, 1) := by decide +kernel
theorem dX3_waitingLines_13 : decode cX3_waitingLines 13 = .ok (.getfield 25, 3) := by decide +kernel
theorem dX3_waitingLines_16 : decode cX3_waitingLines 16 = .ok (.iload_n 2, 1) := by decide +kernel
theorem dX3_waitingLines_17 : decode cX3_waitingLines 17 = .ok (.aaload, 1) := by decide +kernel
theorem dX3_waitingLines_18 : decode cX3_waitingLines 18 = .ok (.getfield 192, 3) := by decide +kernel
theorem dX3_waitingLines_21 : decode cX3_waitingLines 21 = .ok (.ifCond .eq 9, 3) := by decide +kernel
theorem dX3_waitingLines_24 : decode cX3_waitingLines 24 = .ok (.iload_n 1, 1) := by decide +kernel
theorem dX3_waitingLines_25 : decode cX3_waitingLines 25 = .ok (.iconst 1, 1) := by decide +kernel
theorem dX3_waitingLines_26 : decode cX3_waitingLines 26 = .ok (.iload_n 2, 1) := by decide +kernel
theorem dX3_waitingLines_27 : decode cX3_waitingLines 27 = .ok (.ishl, 1) := by decide +kernel
theorem dX3_waitingLines_28 : decode cX3_waitingLines 28 = .ok (.ior, 1) := by decide +kernel
theorem dX3_waitingLines_29 : decode cX3_waitingLines 29 = .ok (.istore_n 1, 1) := by decide +kernel
theorem dX3_waitingLines_30 : decode cX3_waitingLines 30 = .ok (.iinc 2 1, 3) := by decide +kernel
theorem dX3_waitingLines_33 : decode cX3_waitingLines 33 = .ok (.goto (-29), 3) := by decide +kernel
theorem dX3_waitingLines_36 : decode cX3_waitingLines 36 = .ok (.iload_n 1, 1) := by decide +kernel
theorem dX3_waitingLines_37 : decode cX3_waitingLines 37 = .ok (.ireturn, 1) := by decide +kernel
theorem dX3_missesOfAll_0 : decode cX3_missesOfAll 0 = .ok (.iconst 0, 1) := by decide +kernel
theorem dX3_missesOfAll_1 : decode cX3_missesOfAll 1 = .ok (.istore_n 1, 1) := by decide +kernel
theorem dX3_missesOfAll_2 : decode cX3_missesOfAll 2 = .ok (.iconst 0, 1) := by decide +kernel
theorem dX3_missesOfAll_3 : decode cX3_missesOfAll 3 = .ok (.istore_n 2, 1) := by decide +kernel
theorem dX3_missesOfAll_4 : decode cX3_missesOfAll 4 = .ok (.iload_n 2, 1) := by decide +kernel
theorem dX3_missesOfAll_5 : decode cX3_missesOfAll 5 = .ok (.aload_n 0, 1) := by decide +kernel
theorem dX3_missesOfAll_6 : decode cX3_missesOfAll 6 = .ok (.getfield 54, 3) := by decide +kernel
theorem dX3_missesOfAll_9 : decode cX3_missesOfAll 9 = .ok (.if_icmp .ge 21, 3) := by decide +kernel
theorem dX3_missesOfAll_12 : decode cX3_missesOfAll 12 = .ok (.iload_n 1, 1) := by decide +kernel
theorem dX3_missesOfAll_13 : decode cX3_missesOfAll 13 = .ok (.aload_n 0, 1) := by decide +kernel
theorem dX3_missesOfAll_14 : decode cX3_missesOfAll 14 = .ok (.getfield 25, 3) := by decide +kernel
theorem dX3_missesOfAll_17 : decode cX3_missesOfAll 17 = .ok (.iload_n 2, 1) := by decide +kernel
theorem dX3_missesOfAll_18 : decode cX3_missesOfAll 18 = .ok (.aaload, 1) := by decide +kernel
theorem dX3_missesOfAll_19 : decode cX3_missesOfAll 19 = .ok (.getfield 208, 3) := by decide +kernel
theorem dX3_missesOfAll_22 : decode cX3_missesOfAll 22 = .ok (.iadd, 1) := by decide +kernel
theorem dX3_missesOfAll_23 : decode cX3_missesOfAll 23 = .ok (.istore_n 1, 1) := by decide +kernel
theorem dX3_missesOfAll_24 : decode cX3_missesOfAll 24 = .ok (.iinc 2 1, 3) := by decide +kernel
theorem dX3_missesOfAll_27 : decode cX3_missesOfAll 27 = .ok (.goto (-23), 3) := by decide +kernel
theorem dX3_missesOfAll_30 : decode cX3_missesOfAll 30 = .ok (.iload_n 1, 1) := by decide +kernel
theorem dX3_missesOfAll_31 : decode cX3_missesOfAll 31 = .ok (.ireturn, 1) := by decide +kernel
theorem dX3_costOf_0 : decode cX3_costOf 0 = .ok (.aload_n 0, 1) := by decide +kernel
theorem dX3_costOf_1 : decode cX3_costOf 1 = .ok (.getfield 25, 3) := by decide +kernel
theorem dX3_costOf_4 : decode cX3_costOf 4 = .ok (.iload_n 1, 1) := by decide +kernel
theorem dX3_costOf_5 : decode cX3_costOf 5 = .ok (.aaload, 1) := by decide +kernel
theorem dX3_costOf_6 : decode cX3_costOf 6 = .ok (.getfield 211, 3) := by decide +kernel
theorem dX3_costOf_9 : decode cX3_costOf 9 = .ok (.aload_n 0, 1) := by decide +kernel
theorem dX3_costOf_10 : decode cX3_costOf 10 = .ok (.getfield 18, 3) := by decide +kernel
theorem dX3_costOf_13 : decode cX3_costOf 13 = .ok (.iconst 4, 1) := by decide +kernel
theorem dX3_costOf_14 : decode cX3_costOf 14 = .ok (.iaload, 1) := by decide +kernel
theorem dX3_costOf_15 : decode cX3_costOf 15 = .ok (.iadd, 1) := by decide +kernel
theorem dX3_costOf_16 : decode cX3_costOf 16 = .ok (.ireturn, 1) := by decide +kernel
theorem dX4_init_0 : decode cX4_init 0 = .ok (.aload_n 0, 1) := by decide +kernel
theorem dX4_init_1 : decode cX4_init 1 = .ok (.invokespecial 3, 3) := by decide +kernel
theorem dX4_init_4 : decode cX4_init 4 = .ok (.return_, 1) := by decide +kernel
theorem dX4_copyFrom_0 : decode cX4_copyFrom 0 = .ok (.aload_n 0, 1) := by decide +kernel
theorem dX4_copyFrom_1 : decode cX4_copyFrom 1 = .ok (.aload_n 1, 1) := by decide +kernel
theorem dX4_copyFrom_2 : decode cX4_copyFrom 2 = .ok (.getfield 9, 3) := by decide +kernel
theorem dX4_copyFrom_5 : decode cX4_copyFrom 5 = .ok (.putfield 9, 3) := by decide +kernel
theorem dX4_copyFrom_8 : decode cX4_copyFrom 8 = .ok (.aload_n 0, 1) := by decide +kernel
theorem dX4_copyFrom_9 : decode cX4_copyFrom 9 = .ok (.aload_n 1, 1) := by decide +kernel
theorem dX4_copyFrom_10 : decode cX4_copyFrom 10 = .ok (.getfield 15, 3) := by decide +kernel
theorem dX4_copyFrom_13 : decode cX4_copyFrom 13 = .ok (.putfield 15, 3) := by decide +kernel
theorem dX4_copyFrom_16 : decode cX4_copyFrom 16 = .ok (.aload_n 0, 1) := by decide +kernel
theorem dX4_copyFrom_17 : decode cX4_copyFrom 17 = .ok (.aload_n 1, 1) := by decide +kernel
theorem dX4_copyFrom_18 : decode cX4_copyFrom 18 = .ok (.getfield 18, 3) := by decide +kernel
theorem dX4_copyFrom_21 : decode cX4_copyFrom 21 = .ok (.putfield 18, 3) := by decide +kernel
theorem dX4_copyFrom_24 : decode cX4_copyFrom 24 = .ok (.aload_n 0, 1) := by decide +kernel
theorem dX4_copyFrom_25 : decode cX4_copyFrom 25 = .ok (.aload_n 1, 1) := by decide +kernel
theorem dX4_copyFrom_26 : decode cX4_copyFrom 26 = .ok (.getfield 21, 3) := by decide +kernel
theorem dX4_copyFrom_29 : decode cX4_copyFrom 29 = .ok (.putfield 21, 3) := by decide +kernel
theorem dX4_copyFrom_32 : decode cX4_copyFrom 32 = .ok (.return_, 1) := by decide +kernel
theorem dX4_number_0 : decode cX4_number 0 = .ok (.iload_n 1, 1) := by decide +kernel
theorem dX4_number_1 : decode cX4_number 1 = .ok (.tableswitch 51 0 3 #[31, 36, 41, 46], 31) := by decide +kernel
theorem dX4_number_32 : decode cX4_number 32 = .ok (.aload_n 0, 1) := by decide +kernel
theorem dX4_number_33 : decode cX4_number 33 = .ok (.getfield 9, 3) := by decide +kernel
theorem dX4_number_36 : decode cX4_number 36 = .ok (.ireturn, 1) := by decide +kernel
theorem dX4_number_37 : decode cX4_number 37 = .ok (.aload_n 0, 1) := by decide +kernel
theorem dX4_number_38 : decode cX4_number 38 = .ok (.getfield 15, 3) := by decide +kernel
theorem dX4_number_41 : decode cX4_number 41 = .ok (.ireturn, 1) := by decide +kernel
theorem dX4_number_42 : decode cX4_number 42 = .ok (.aload_n 0, 1) := by decide +kernel
theorem dX4_number_43 : decode cX4_number 43 = .ok (.getfield 18, 3) := by decide +kernel
theorem dX4_number_46 : decode cX4_number 46 = .ok (.ireturn, 1) := by decide +kernel
theorem dX4_number_47 : decode cX4_number 47 = .ok (.aload_n 0, 1) := by decide +kernel
theorem dX4_number_48 : decode cX4_number 48 = .ok (.getfield 21, 3) := by decide +kernel
theorem dX4_number_51 : decode cX4_number 51 = .ok (.ireturn, 1) := by decide +kernel
theorem dX4_number_52 : decode cX4_number 52 = .ok (.bipush (-2), 2) := by decide +kernel
theorem dX4_number_54 : decode cX4_number 54 = .ok (.ireturn, 1) := by decide +kernel
theorem dX5_init_0 : decode cX5_init 0 = .ok (.aload_n 0, 1) := by decide +kernel
theorem dX5_init_1 : decode cX5_init 1 = .ok (.invokespecial 3, 3) := by decide +kernel
theorem dX5_init_4 : decode cX5_init 4 = .ok (.return_, 1) := by decide +kernel
theorem dX5_copyFrom_0 : decode cX5_copyFrom 0 = .ok (.aload_n 0, 1) := by decide +kernel
theorem dX5_copyFrom_1 : decode cX5_copyFrom 1 = .ok (.aload_n 1, 1) := by decide +kernel
theorem dX5_copyFrom_2 : decode cX5_copyFrom 2 = .ok (.getfield 9, 3) := by decide +kernel
theorem dX5_copyFrom_5 : decode cX5_copyFrom 5 = .ok (.putfield 9, 3) := by decide +kernel
theorem dX5_copyFrom_8 : decode cX5_copyFrom 8 = .ok (.aload_n 0, 1) := by decide +kernel
theorem dX5_copyFrom_9 : decode cX5_copyFrom 9 = .ok (.aload_n 1, 1) := by decide +kernel
theorem dX5_copyFrom_10 : decode cX5_copyFrom 10 = .ok (.getfield 15, 3) := by decide +kernel
theorem dX5_copyFrom_13 : decode cX5_copyFrom 13 = .ok (.putfield 15, 3) := by decide +kernel
theorem dX5_copyFrom_16 : decode cX5_copyFrom 16 = .ok (.aload_n 0, 1) := by decide +kernel
theorem dX5_copyFrom_17 : decode cX5_copyFrom 17 = .ok (.aload_n 1, 1) := by decide +kernel
theorem dX5_copyFrom_18 : decode cX5_copyFrom 18 = .ok (.getfield 18, 3) := by decide +kernel
theorem dX5_copyFrom_21 : decode cX5_copyFrom 21 = .ok (.putfield 18, 3) := by decide +kernel
theorem dX5_copyFrom_24 : decode cX5_copyFrom 24 = .ok (.return_, 1) := by decide +kernel
theorem dX5_number_0 : decode cX5_number 0 = .ok (.iload_n 1, 1) := by decide +kernel
theorem dX5_number_1 : decode cX5_number 1 = .ok (.tableswitch 42 0 2 #[27, 32, 37], 27) := by decide +kernel
theorem dX5_number_28 : decode cX5_number 28 = .ok (.aload_n 0, 1) := by decide +kernel
theorem dX5_number_29 : decode cX5_number 29 = .ok (.getfield 9, 3) := by decide +kernel
theorem dX5_number_32 : decode cX5_number 32 = .ok (.ireturn, 1) := by decide +kernel
theorem dX5_number_33 : decode cX5_number 33 = .ok (.aload_n 0, 1) := by decide +kernel
theorem dX5_number_34 : decode cX5_number 34 = .ok (.getfield 15, 3) := by decide +kernel
theorem dX5_number_37 : decode cX5_number 37 = .ok (.ireturn, 1) := by decide +kernel
theorem dX5_number_38 : decode cX5_number 38 = .ok (.aload_n 0, 1) := by decide +kernel
theorem dX5_number_39 : decode cX5_number 39 = .ok (.getfield 18, 3) := by decide +kernel
theorem dX5_number_42 : decode cX5_number 42 = .ok (.ireturn, 1) := by decide +kernel
theorem dX5_number_43 : decode cX5_number 43 = .ok (.bipush (-2), 2) := by decide +kernel
theorem dX5_number_45 : decode cX5_number 45 = .ok (.ireturn, 1) := by decide +kernel
theorem dX6_init_0 : decode cX6_init 0 = .ok (.aload_n 0, 1) := by decide +kernel
theorem dX6_init_1 : decode cX6_init 1 = .ok (.invokespecial 1, 3) := by decide +kernel
theorem dX6_init_4 : decode cX6_init 4 = .ok (.aload_n 0, 1) := by decide +kernel
theorem dX6_init_5 : decode cX6_init 5 = .ok (.new 7, 3) := by decide +kernel
theorem dX6_init_8 : decode cX6_init 8 = .ok (.dup, 1) := by decide +kernel
theorem dX6_init_9 : decode cX6_init 9 = .ok (.invokespecial 9, 3) := by decide +kernel
theorem dX6_init_12 : decode cX6_init 12 = .ok (.putfield 10, 3) := by decide +kernel
theorem dX6_init_15 : decode cX6_init 15 = .ok (.aload_n 0, 1) := by decide +kernel
theorem dX6_init_16 : decode cX6_init 16 = .ok (.new 7, 3) := by decide +kernel
theorem dX6_init_19 : decode cX6_init 19 = .ok (.dup, 1) := by decide +kernel
theorem dX6_init_20 : decode cX6_init 20 = .ok (.invokespecial 9, 3) := by decide +kernel
theorem dX6_init_23 : decode cX6_init 23 = .ok (.putfield 16, 3) := by decide +kernel
theorem dX6_init_26 : decode cX6_init 26 = .ok (.aload_n 0, 1) := by decide +kernel
theorem dX6_init_27 : decode cX6_init 27 = .ok (.iconst 2, 1) := by decide +kernel
theorem dX6_init_28 : decode cX6_init 28 = .ok (.anewarray 7, 3) := by decide +kernel
theorem dX6_init_31 : decode cX6_init 31 = .ok (.putfield 19, 3) := by decide +kernel
theorem dX6_init_34 : decode cX6_init 34 = .ok (.iconst 0, 1) := by decide +kernel
theorem dX6_init_35 : decode cX6_init 35 = .ok (.istore_n 1, 1) := by decide +kernel
theorem dX6_init_36 : decode cX6_init 36 = .ok (.iload_n 1, 1) := by decide +kernel
theorem dX6_init_37 : decode cX6_init 37 = .ok (.iconst 2, 1) := by decide +kernel
theorem dX6_init_38 : decode cX6_init 38 = .ok (.if_icmp .ge 22, 3) := by decide +kernel
theorem dX6_init_41 : decode cX6_init 41 = .ok (.aload_n 0, 1) := by decide +kernel
theorem dX6_init_42 : decode cX6_init 42 = .ok (.getfield 19, 3) := by decide +kernel
theorem dX6_init_45 : decode cX6_init 45 = .ok (.iload_n 1, 1) := by decide +kernel
theorem dX6_init_46 : decode cX6_init 46 = .ok (.new 7, 3) := by decide +kernel
theorem dX6_init_49 : decode cX6_init 49 = .ok (.dup, 1) := by decide +kernel
theorem dX6_init_50 : decode cX6_init 50 = .ok (.invokespecial 9, 3) := by decide +kernel
theorem dX6_init_53 : decode cX6_init 53 = .ok (.aastore, 1) := by decide +kernel
theorem dX6_init_54 : decode cX6_init 54 = .ok (.iinc 1 1, 3) := by decide +kernel
theorem dX6_init_57 : decode cX6_init 57 = .ok (.goto (-21), 3) := by decide +kernel
theorem dX6_init_60 : decode cX6_init 60 = .ok (.aload_n 0, 1) := by decide +kernel
theorem dX6_init_61 : decode cX6_init 61 = .ok (.iconst 2, 1) := by decide +kernel
theorem dX6_init_62 : decode cX6_init 62 = .ok (.newarray .boolean, 2) := by decide +kernel
theorem dX6_init_64 : decode cX6_init 64 = .ok (.putfield 23, 3) := by decide +kernel
theorem dX6_init_67 : decode cX6_init 67 = .ok (.aload_n 0, 1) := by decide +kernel
theorem dX6_init_68 : decode cX6_init 68 = .ok (.new 27, 3) := by decide +kernel
theorem dX6_init_71 : decode cX6_init 71 = .ok (.dup, 1) := by decide +kernel
theorem dX6_init_72 : decode cX6_init 72 = .ok (.invokespecial 29, 3) := by decide +kernel
theorem dX6_init_75 : decode cX6_init 75 = .ok (.putfield 30, 3) := by decide +kernel
theorem dX6_init_78 : decode cX6_init 78 = .ok (.aload_n 0, 1) := by decide +kernel
theorem dX6_init_79 : decode cX6_init 79 = .ok (.new 34, 3) := by decide +kernel
theorem dX6_init_82 : decode cX6_init 82 = .ok (.dup, 1) := by decide +kernel
theorem dX6_init_83 : decode cX6_init 83 = .ok (.invokespecial 36, 3) := by decide +kernel
theorem dX6_init_86 : decode cX6_init 86 = .ok (.putfield 37, 3) := by decide +kernel
theorem dX6_init_89 : decode cX6_init 89 = .ok (.return_, 1) := by decide +kernel
theorem dX6_set_0 : decode cX6_set 0 = .ok (.aload_n 0, 1) := by decide +kernel
theorem dX6_set_1 : decode cX6_set 1 = .ok (.getfield 30, 3) := by decide +kernel
theorem dX6_set_4 : decode cX6_set 4 = .ok (.aload_n 0, 1) := by decide +kernel
theorem dX6_set_5 : decode cX6_set 5 = .ok (.getfield 10, 3) := by decide +kernel
theorem dX6_set_8 : decode cX6_set 8 = .ok (.invokevirtual 41, 3) := by decide +kernel
theorem dX6_set_11 : decode cX6_set 11 = .ok (.aload_n 0, 1) := by decide +kernel
theorem dX6_set_12 : decode cX6_set 12 = .ok (.getfield 30, 3) := by decide +kernel
theorem dX6_set_15 : decode cX6_set 15 = .ok (.aload_n 0, 1) := by decide +kernel
theorem dX6_set_16 : decode cX6_set 16 = .ok (.getfield 10, 3) := by decide +kernel
theorem dX6_set_19 : decode cX6_set 19 = .ok (.iload_n 1, 1) := by decide +kernel
theorem dX6_set_20 : decode cX6_set 20 = .ok (.iload_n 2, 1) := by decide +kernel
theorem dX6_set_21 : decode cX6_set 21 = .ok (.invokevirtual 45, 3) := by decide +kernel
theorem dX6_set_24 : decode cX6_set 24 = .ok (.invokevirtual 49, 3) := by decide +kernel
theorem dX6_set_27 : decode cX6_set 27 = .ok (.ireturn, 1) := by decide +kernel
theorem dX6_line_0 : decode cX6_line 0 = .ok (.aload_n 0, 1) := by decide +kernel
theorem dX6_line_1 : decode cX6_line 1 = .ok (.getfield 30, 3) := by decide +kernel
theorem dX6_line_4 : decode cX6_line 4 = .ok (.aload_n 0, 1) := by decide +kernel
theorem dX6_line_5 : decode cX6_line 5 = .ok (.getfield 10, 3) := by decide +kernel
theorem dX6_line_8 : decode cX6_line 8 = .ok (.invokevirtual 41, 3) := by decide +kernel
theorem dX6_line_11 : decode cX6_line 11 = .ok (.aload_n 0, 1) := by decide +kernel
theorem dX6_line_12 : decode cX6_line 12 = .ok (.getfield 30, 3) := by decide +kernel
theorem dX6_line_15 : decode cX6_line 15 = .ok (.aload_n 0, 1) := by decide +kernel
theorem dX6_line_16 : decode cX6_line 16 = .ok (.getfield 10, 3) := by decide +kernel
theorem dX6_line_19 : decode cX6_line 19 = .ok (.iload_n 1, 1) := by decide +kernel
theorem dX6_line_20 : decode cX6_line 20 = .ok (.iload_n 2, 1) := by decide +kernel
theorem dX6_line_21 : decode cX6_line 21 = .ok (.iload_n 3, 1) := by decide +kernel
theorem dX6_line_22 : decode cX6_line 22 = .ok (.iload 4, 2) := by decide +kernel
theorem dX6_line_24 : decode cX6_line 24 = .ok (.invokevirtual 53, 3) := by decide +kernel
theorem dX6_line_27 : decode cX6_line 27 = .ok (.invokevirtual 49, 3) := by decide +kernel
theorem dX6_line_30 : decode cX6_line 30 = .ok (.ireturn, 1) := by decide +kernel
theorem dX6_timer_0 : decode cX6_timer 0 = .ok (.aload_n 0, 1) := by decide +kernel
theorem dX6_timer_1 : decode cX6_timer 1 = .ok (.getfield 30, 3) := by decide +kernel
theorem dX6_timer_4 : decode cX6_timer 4 = .ok (.aload_n 0, 1) := by decide +kernel
theorem dX6_timer_5 : decode cX6_timer 5 = .ok (.getfield 10, 3) := by decide +kernel
theorem dX6_timer_8 : decode cX6_timer 8 = .ok (.invokevirtual 41, 3) := by decide +kernel
theorem dX6_timer_11 : decode cX6_timer 11 = .ok (.aload_n 0, 1) := by decide +kernel
theorem dX6_timer_12 : decode cX6_timer 12 = .ok (.getfield 30, 3) := by decide +kernel
theorem dX6_timer_15 : decode cX6_timer 15 = .ok (.aload_n 0, 1) := by decide +kernel
theorem dX6_timer_16 : decode cX6_timer 16 = .ok (.getfield 10, 3) := by decide +kernel
theorem dX6_timer_19 : decode cX6_timer 19 = .ok (.iload_n 1, 1) := by decide +kernel
theorem dX6_timer_20 : decode cX6_timer 20 = .ok (.iload_n 2, 1) := by decide +kernel
theorem dX6_timer_21 : decode cX6_timer 21 = .ok (.iload_n 3, 1) := by decide +kernel
theorem dX6_timer_22 : decode cX6_timer 22 = .ok (.invokevirtual 57, 3) := by decide +kernel
theorem dX6_timer_25 : decode cX6_timer 25 = .ok (.invokevirtual 49, 3) := by decide +kernel
theorem dX6_timer_28 : decode cX6_timer 28 = .ok (.ireturn, 1) := by decide +kernel
theorem dX6_stop_0 : decode cX6_stop 0 = .ok (.aload_n 0, 1) := by decide +kernel
theorem dX6_stop_1 : decode cX6_stop 1 = .ok (.getfield 30, 3) := by decide +kernel
theorem dX6_stop_4 : decode cX6_stop 4 = .ok (.aload_n 0, 1) := by decide +kernel
theorem dX6_stop_5 : decode cX6_stop 5 = .ok (.getfield 10, 3) := by decide +kernel
theorem dX6_stop_8 : decode cX6_stop 8 = .ok (.invokevirtual 41, 3) := by decide +kernel
theorem dX6_stop_11 : decode cX6_stop 11 = .ok (.aload_n 0, 1) := by decide +kernel
theorem dX6_stop_12 : decode cX6_stop 12 = .ok (.getfield 30, 3) := by decide +kernel
theorem dX6_stop_15 : decode cX6_stop 15 = .ok (.aload_n 0, 1) := by decide +kernel
theorem dX6_stop_16 : decode cX6_stop 16 = .ok (.getfield 10, 3) := by decide +kernel
theorem dX6_stop_19 : decode cX6_stop 19 = .ok (.iload_n 1, 1) := by decide +kernel
theorem dX6_stop_20 : decode cX6_stop 20 = .ok (.invokevirtual 61, 3) := by decide +kernel
theorem dX6_stop_23 : decode cX6_stop 23 = .ok (.invokevirtual 49, 3) := by decide +kernel
theorem dX6_stop_26 : decode cX6_stop 26 = .ok (.ireturn, 1) := by decide +kernel
theorem dX6_raise_0 : decode cX6_raise 0 = .ok (.aload_n 0, 1) := by decide +kernel
theorem dX6_raise_1 : decode cX6_raise 1 = .ok (.getfield 30, 3) := by decide +kernel
theorem dX6_raise_4 : decode cX6_raise 4 = .ok (.aload_n 0, 1) := by decide +kernel
theorem dX6_raise_5 : decode cX6_raise 5 = .ok (.getfield 10, 3) := by decide +kernel
theorem dX6_raise_8 : decode cX6_raise 8 = .ok (.invokevirtual 41, 3) := by decide +kernel
theorem dX6_raise_11 : decode cX6_raise 11 = .ok (.aload_n 0, 1) := by decide +kernel
theorem dX6_raise_12 : decode cX6_raise 12 = .ok (.getfield 30, 3) := by decide +kernel
theorem dX6_raise_15 : decode cX6_raise 15 = .ok (.aload_n 0, 1) := by decide +kernel
theorem dX6_raise_16 : decode cX6_raise 16 = .ok (.getfield 10, 3) := by decide +kernel
theorem dX6_raise_19 : decode cX6_raise 19 = .ok (.iload_n 1, 1) := by decide +kernel
theorem dX6_raise_20 : decode cX6_raise 20 = .ok (.invokevirtual 64, 3) := by decide +kernel
theorem dX6_raise_23 : decode cX6_raise 23 = .ok (.invokevirtual 49, 3) := by decide +kernel
theorem dX6_raise_26 : decode cX6_raise 26 = .ok (.ireturn, 1) := by decide +kernel
theorem dX6_hold_0 : decode cX6_hold 0 = .ok (.aload_n 0, 1) := by decide +kernel
theorem dX6_hold_1 : decode cX6_hold 1 = .ok (.getfield 30, 3) := by decide +kernel
theorem dX6_hold_4 : decode cX6_hold 4 = .ok (.aload_n 0, 1) := by decide +kernel
theorem dX6_hold_5 : decode cX6_hold 5 = .ok (.getfield 10, 3) := by decide +kernel
theorem dX6_hold_8 : decode cX6_hold 8 = .ok (.invokevirtual 41, 3) := by decide +kernel
theorem dX6_hold_11 : decode cX6_hold 11 = .ok (.aload_n 0, 1) := by decide +kernel
theorem dX6_hold_12 : decode cX6_hold 12 = .ok (.getfield 30, 3) := by decide +kernel
theorem dX6_hold_15 : decode cX6_hold 15 = .ok (.aload_n 0, 1) := by decide +kernel
theorem dX6_hold_16 : decode cX6_hold 16 = .ok (.getfield 10, 3) := by decide +kernel
theorem dX6_hold_19 : decode cX6_hold 19 = .ok (.iload_n 1, 1) := by decide +kernel
theorem dX6_hold_20 : decode cX6_hold 20 = .ok (.iload_n 2, 1) := by decide +kernel
theorem dX6_hold_21 : decode cX6_hold 21 = .ok (.iload_n 3, 1) := by decide +kernel
theorem dX6_hold_22 : decode cX6_hold 22 = .ok (.invokevirtual 67, 3) := by decide +kernel
theorem dX6_hold_25 : decode cX6_hold 25 = .ok (.invokevirtual 49, 3) := by decide +kernel
theorem dX6_hold_28 : decode cX6_hold 28 = .ok (.ireturn, 1) := by decide +kernel
theorem dX6_mask_0 : decode cX6_mask 0 = .ok (.aload_n 0, 1) := by decide +kernel
theorem dX6_mask_1 : decode cX6_mask 1 = .ok (.getfield 30, 3) := by decide +kernel
theorem dX6_mask_4 : decode cX6_mask 4 = .ok (.aload_n 0, 1) := by decide +kernel
theorem dX6_mask_5 : decode cX6_mask 5 = .ok (.getfield 10, 3) := by decide +kernel
theorem dX6_mask_8 : decode cX6_mask 8 = .ok (.invokevirtual 41, 3) := by decide +kernel
theorem dX6_mask_11 : decode cX6_mask 11 = .ok (.aload_n 0, 1) := by decide +kernel
theorem dX6_mask_12 : decode cX6_mask 12 = .ok (.getfield 30, 3) := by decide +kernel
theorem dX6_mask_15 : decode cX6_mask 15 = .ok (.aload_n 0, 1) := by decide +kernel
theorem dX6_mask_16 : decode cX6_mask 16 = .ok (.getfield 10, 3) := by decide +kernel
theorem dX6_mask_19 : decode cX6_mask 19 = .ok (.iload_n 1, 1) := by decide +kernel
theorem dX6_mask_20 : decode cX6_mask 20 = .ok (.iload_n 2, 1) := by decide +kernel
theorem dX6_mask_21 : decode cX6_mask 21 = .ok (.invokevirtual 70, 3) := by decide +kernel
theorem dX6_mask_24 : decode cX6_mask 24 = .ok (.invokevirtual 49, 3) := by decide +kernel
theorem dX6_mask_27 : decode cX6_mask 27 = .ok (.ireturn, 1) := by decide +kernel
theorem dX6_change_0 : decode cX6_change 0 = .ok (.aload_n 0, 1) := by decide +kernel
theorem dX6_change_1 : decode cX6_change 1 = .ok (.getfield 30, 3) := by decide +kernel
theorem dX6_change_4 : decode cX6_change 4 = .ok (.aload_n 0, 1) := by decide +kernel
theorem dX6_change_5 : decode cX6_change 5 = .ok (.getfield 10, 3) := by decide +kernel
theorem dX6_change_8 : decode cX6_change 8 = .ok (.invokevirtual 41, 3) := by decide +kernel
theorem dX6_change_11 : decode cX6_change 11 = .ok (.aload_n 0, 1) := by decide +kernel
theorem dX6_change_12 : decode cX6_change 12 = .ok (.getfield 30, 3) := by decide +kernel
theorem dX6_change_15 : decode cX6_change 15 = .ok (.aload_n 0, 1) := by decide +kernel
theorem dX6_change_16 : decode cX6_change 16 = .ok (.getfield 10, 3) := by decide +kernel
theorem dX6_change_19 : decode cX6_change 19 = .ok (.iload_n 1, 1) := by decide +kernel
theorem dX6_change_20 : decode cX6_change 20 = .ok (.iload_n 2, 1) := by decide +kernel
theorem dX6_change_21 : decode cX6_change 21 = .ok (.iload_n 3, 1) := by decide +kernel
theorem dX6_change_22 : decode cX6_change 22 = .ok (.iload 4, 2) := by decide +kernel
theorem dX6_change_24 : decode cX6_change 24 = .ok (.invokevirtual 73, 3) := by decide +kernel
theorem dX6_change_27 : decode cX6_change 27 = .ok (.invokevirtual 49, 3) := by decide +kernel
theorem dX6_change_30 : decode cX6_change 30 = .ok (.ireturn, 1) := by decide +kernel
theorem dX6_ticks_0 : decode cX6_ticks 0 = .ok (.aload_n 0, 1) := by decide +kernel
theorem dX6_ticks_1 : decode cX6_ticks 1 = .ok (.getfield 30, 3) := by decide +kernel
theorem dX6_ticks_4 : decode cX6_ticks 4 = .ok (.aload_n 0, 1) := by decide +kernel
theorem dX6_ticks_5 : decode cX6_ticks 5 = .ok (.getfield 10, 3) := by decide +kernel
theorem dX6_ticks_8 : decode cX6_ticks 8 = .ok (.invokevirtual 41, 3) := by decide +kernel
theorem dX6_ticks_11 : decode cX6_ticks 11 = .ok (.aload_n 0, 1) := by decide +kernel
theorem dX6_ticks_12 : decode cX6_ticks 12 = .ok (.getfield 30, 3) := by decide +kernel
theorem dX6_ticks_15 : decode cX6_ticks 15 = .ok (.aload_n 0, 1) := by decide +kernel
theorem dX6_ticks_16 : decode cX6_ticks 16 = .ok (.getfield 10, 3) := by decide +kernel
theorem dX6_ticks_19 : decode cX6_ticks 19 = .ok (.iload_n 1, 1) := by decide +kernel
theorem dX6_ticks_20 : decode cX6_ticks 20 = .ok (.invokevirtual 76, 3) := by decide +kernel
theorem dX6_ticks_23 : decode cX6_ticks 23 = .ok (.invokevirtual 49, 3) := by decide +kernel
theorem dX6_ticks_26 : decode cX6_ticks 26 = .ok (.ireturn, 1) := by decide +kernel
theorem dX6_ofLine_0 : decode cX6_ofLine 0 = .ok (.aload_n 0, 1) := by decide +kernel
theorem dX6_ofLine_1 : decode cX6_ofLine 1 = .ok (.getfield 10, 3) := by decide +kernel
theorem dX6_ofLine_4 : decode cX6_ofLine 4 = .ok (.iload_n 1, 1) := by decide +kernel
theorem dX6_ofLine_5 : decode cX6_ofLine 5 = .ok (.iload_n 2, 1) := by decide +kernel
theorem dX6_ofLine_6 : decode cX6_ofLine 6 = .ok (.invokevirtual 79, 3) := by decide +kernel
theorem dX6_ofLine_9 : decode cX6_ofLine 9 = .ok (.ireturn, 1) := by decide +kernel
theorem dX6_ofNest_0 : decode cX6_ofNest 0 = .ok (.aload_n 0, 1) := by decide +kernel
theorem dX6_ofNest_1 : decode cX6_ofNest 1 = .ok (.getfield 10, 3) := by decide +kernel
theorem dX6_ofNest_4 : decode cX6_ofNest 4 = .ok (.iload_n 1, 1) := by decide +kernel
theorem dX6_ofNest_5 : decode cX6_ofNest 5 = .ok (.iload_n 2, 1) := by decide +kernel
theorem dX6_ofNest_6 : decode cX6_ofNest 6 = .ok (.invokevirtual 82, 3) := by decide +kernel
theorem dX6_ofNest_9 : decode cX6_ofNest 9 = .ok (.ireturn, 1) := by decide +kernel
theorem dX6_ofTimer_0 : decode cX6_ofTimer 0 = .ok (.aload_n 0, 1) := by decide +kernel
theorem dX6_ofTimer_1 : decode cX6_ofTimer 1 = .ok (.getfield 10, 3) := by decide +kernel
theorem dX6_ofTimer_4 : decode cX6_ofTimer 4 = .ok (.iload_n 1, 1) := by decide +kernel
theorem dX6_ofTimer_5 : decode cX6_ofTimer 5 = .ok (.iload_n 2, 1) := by decide +kernel
theorem dX6_ofTimer_6 : decode cX6_ofTimer 6 = .ok (.invokevirtual 85, 3) := by decide +kernel
theorem dX6_ofTimer_9 : decode cX6_ofTimer 9 = .ok (.ireturn, 1) := by decide +kernel
theorem dX6_count_0 : decode cX6_count 0 = .ok (.iload_n 1, 1) := by decide +kernel
theorem dX6_count_1 : decode cX6_count 1 = .ok (.lookupswitch 43 #[(10, 27), (11, 35)], 27) := by decide +kernel
theorem dX6_count_28 : decode cX6_count 28 = .ok (.aload_n 0, 1) := by decide +kernel
theorem dX6_count_29 : decode cX6_count 29 = .ok (.getfield 37, 3) := by decide +kernel
theorem dX6_count_32 : decode cX6_count 32 = .ok (.getfield 88, 3) := by decide +kernel
theorem dX6_count_35 : decode cX6_count 35 = .ok (.ireturn, 1) := by decide +kernel
theorem dX6_count_36 : decode cX6_count 36 = .ok (.aload_n 0, 1) := by decide +kernel
theorem dX6_count_37 : decode cX6_count 37 = .ok (.getfield 30, 3) := by decide +kernel
theorem dX6_count_40 : decode cX6_count 40 = .ok (.getfield 92, 3) := by decide +kernel
theorem dX6_count_43 : decode cX6_count 43 = .ok (.ireturn, 1) := by decide +kernel
theorem dX6_count_44 : decode cX6_count 44 = .ok (.aload_n 0, 1) := by decide +kernel
theorem dX6_count_45 : decode cX6_count 45 = .ok (.getfield 10, 3) := by decide +kernel
theorem dX6_count_48 : decode cX6_count 48 = .ok (.iload_n 1, 1) := by decide +kernel
theorem dX6_count_49 : decode cX6_count 49 = .ok (.invokevirtual 95, 3) := by decide +kernel
theorem dX6_count_52 : decode cX6_count 52 = .ok (.ireturn, 1) := by decide +kernel
theorem dX6_within_0 : decode cX6_within 0 = .ok (.iload_n 0, 1) := by decide +kernel
theorem dX6_within_1 : decode cX6_within 1 = .ok (.iload_n 1, 1) := by decide +kernel
theorem dX6_within_2 : decode cX6_within 2 = .ok (.if_icmp .lt 12, 3) := by decide +kernel
theorem dX6_within_5 : decode cX6_within 5 = .ok (.iload_n 0, 1) := by decide +kernel
theorem dX6_within_6 : decode cX6_within 6 = .ok (.iload_n 2, 1) := by decide +kernel
theorem dX6_within_7 : decode cX6_within 7 = .ok (.if_icmp .gt 7, 3) := by decide +kernel
theorem dX6_within_10 : decode cX6_within 10 = .ok (.iconst 1, 1) := by decide +kernel
theorem dX6_within_11 : decode cX6_within 11 = .ok (.goto 4, 3) := by decide +kernel
theorem dX6_within_14 : decode cX6_within 14 = .ok (.iconst 0, 1) := by decide +kernel
theorem dX6_within_15 : decode cX6_within 15 = .ok (.ireturn, 1) := by decide +kernel
