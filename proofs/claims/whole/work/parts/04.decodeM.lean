theorem dX9_init_0 : decode cX9_init 0 = .ok (.aload_n 0, 1) := by decide +kernel
theorem dX9_init_1 : decode cX9_init 1 = .ok (.invokespecial 1, 3) := by decide +kernel
theorem dX9_init_4 : decode cX9_init 4 = .ok (.aload_n 0, 1) := by decide +kernel
theorem dX9_init_5 : decode cX9_init 5 = .ok (.sipush 900, 3) := by decide +kernel
theorem dX9_init_8 : decode cX9_init 8 = .ok (.newarray .int, 2) := by decide +kernel
theorem dX9_init_10 : decode cX9_init 10 = .ok (.putfield 7, 3) := by decide +kernel
theorem dX9_init_13 : decode cX9_init 13 = .ok (.aload_n 0, 1) := by decide +kernel
theorem dX9_init_14 : decode cX9_init 14 = .ok (.sipush 900, 3) := by decide +kernel
theorem dX9_init_17 : decode cX9_init 17 = .ok (.newarray .int, 2) := by decide +kernel
theorem dX9_init_19 : decode cX9_init 19 = .ok (.putfield 13, 3) := by decide +kernel
theorem dX9_init_22 : decode cX9_init 22 = .ok (.aload_n 0, 1) := by decide +kernel
theorem dX9_init_23 : decode cX9_init 23 = .ok (.sipush 5400, 3) := by decide +kernel
theorem dX9_init_26 : decode cX9_init 26 = .ok (.newarray .int, 2) := by decide +kernel
theorem dX9_init_28 : decode cX9_init 28 = .ok (.putfield 16, 3) := by decide +kernel
theorem dX9_init_31 : decode cX9_init 31 = .ok (.aload_n 0, 1) := by decide +kernel
theorem dX9_init_32 : decode cX9_init 32 = .ok (.iconst 3, 1) := by decide +kernel
theorem dX9_init_33 : decode cX9_init 33 = .ok (.newarray .int, 2) := by decide +kernel
theorem dX9_init_35 : decode cX9_init 35 = .ok (.putfield 19, 3) := by decide +kernel
theorem dX9_init_38 : decode cX9_init 38 = .ok (.aload_n 0, 1) := by decide +kernel
theorem dX9_init_39 : decode cX9_init 39 = .ok (.bipush 60, 2) := by decide +kernel
theorem dX9_init_41 : decode cX9_init 41 = .ok (.newarray .int, 2) := by decide +kernel
theorem dX9_init_43 : decode cX9_init 43 = .ok (.putfield 22, 3) := by decide +kernel
theorem dX9_init_46 : decode cX9_init 46 = .ok (.aload_n 0, 1) := by decide +kernel
theorem dX9_init_47 : decode cX9_init 47 = .ok (.bipush 25, 2) := by decide +kernel
theorem dX9_init_49 : decode cX9_init 49 = .ok (.newarray .int, 2) := by decide +kernel
theorem dX9_init_51 : decode cX9_init 51 = .ok (.putfield 25, 3) := by decide +kernel
theorem dX9_init_54 : decode cX9_init 54 = .ok (.aload_n 0, 1) := by decide +kernel
theorem dX9_init_55 : decode cX9_init 55 = .ok (.bipush 60, 2) := by decide +kernel
theorem dX9_init_57 : decode cX9_init 57 = .ok (.newarray .int, 2) := by decide +kernel
theorem dX9_init_59 : decode cX9_init 59 = .ok (.putfield 28, 3) := by decide +kernel
theorem dX9_init_62 : decode cX9_init 62 = .ok (.aload_n 0, 1) := by decide +kernel
theorem dX9_init_63 : decode cX9_init 63 = .ok (.bipush 36, 2) := by decide +kernel
theorem dX9_init_65 : decode cX9_init 65 = .ok (.newarray .int, 2) := by decide +kernel
theorem dX9_init_67 : decode cX9_init 67 = .ok (.putfield 31, 3) := by decide +kernel
theorem dX9_init_70 : decode cX9_init 70 = .ok (.aload_n 0, 1) := by decide +kernel
theorem dX9_init_71 : decode cX9_init 71 = .ok (.bipush 36, 2) := by decide +kernel
theorem dX9_init_73 : decode cX9_init 73 = .ok (.newarray .int, 2) := by decide +kernel
theorem dX9_init_75 : decode cX9_init 75 = .ok (.putfield 34, 3) := by decide +kernel
theorem dX9_init_78 : decode cX9_init 78 = .ok (.aload_n 0, 1) := by decide +kernel
theorem dX9_init_79 : decode cX9_init 79 = .ok (.bipush 36, 2) := by decide +kernel
theorem dX9_init_81 : decode cX9_init 81 = .ok (.newarray .int, 2) := by decide +kernel
theorem dX9_init_83 : decode cX9_init 83 = .ok (.putfield 37, 3) := by decide +kernel
theorem dX9_init_86 : decode cX9_init 86 = .ok (.aload_n 0, 1) := by decide +kernel
theorem dX9_init_87 : decode cX9_init 87 = .ok (.bipush 36, 2) := by decide +kernel
theorem dX9_init_89 : decode cX9_init 89 = .ok (.newarray .int, 2) := by decide +kernel
theorem dX9_init_91 : decode cX9_init 91 = .ok (.putfield 40, 3) := by decide +kernel
theorem dX9_init_94 : decode cX9_init 94 = .ok (.aload_n 0, 1) := by decide +kernel
theorem dX9_init_95 : decode cX9_init 95 = .ok (.bipush 36, 2) := by decide +kernel
theorem dX9_init_97 : decode cX9_init 97 = .ok (.newarray .int, 2) := by decide +kernel
theorem dX9_init_99 : decode cX9_init 99 = .ok (.putfield 43, 3) := by decide +kernel
theorem dX9_init_102 : decode cX9_init 102 = .ok (.aload_n 0, 1) := by decide +kernel
theorem dX9_init_103 : decode cX9_init 103 = .ok (.bipush 36, 2) := by decide +kernel
theorem dX9_init_105 : decode cX9_init 105 = .ok (.newarray .int, 2) := by decide +kernel
theorem dX9_init_107 : decode cX9_init 107 = .ok (.putfield 46, 3) := by decide +kernel
theorem dX9_init_110 : decode cX9_init 110 = .ok (.aload_n 0, 1) := by decide +kernel
theorem dX9_init_111 : decode cX9_init 111 = .ok (.getfield 7, 3) := by decide +kernel
theorem dX9_init_114 : decode cX9_init 114 = .ok (.iconst 0, 1) := by decide +kernel
theorem dX9_init_115 : decode cX9_init 115 = .ok (.iconst 0, 1) := by decide +kernel
theorem dX9_init_116 : decode cX9_init 116 = .ok (.iastore, 1) := by decide +kernel
theorem dX9_init_117 : decode cX9_init 117 = .ok (.return_, 1) := by decide +kernel
theorem dX9_in_0 : decode cX9_in 0 = .ok (.iload_n 0, 1) := by decide +kernel
theorem dX9_in_1 : decode cX9_in 1 = .ok (.iload_n 1, 1) := by decide +kernel
theorem dX9_in_2 : decode cX9_in 2 = .ok (.if_icmp .lt 12, 3) := by decide +kernel
theorem dX9_in_5 : decode cX9_in 5 = .ok (.iload_n 0, 1) := by decide +kernel
theorem dX9_in_6 : decode cX9_in 6 = .ok (.iload_n 2, 1) := by decide +kernel
theorem dX9_in_7 : decode cX9_in 7 = .ok (.if_icmp .gt 7, 3) := by decide +kernel
theorem dX9_in_10 : decode cX9_in 10 = .ok (.iconst 1, 1) := by decide +kernel
theorem dX9_in_11 : decode cX9_in 11 = .ok (.goto 4, 3) := by decide +kernel
theorem dX9_in_14 : decode cX9_in 14 = .ok (.iconst 0, 1) := by decide +kernel
theorem dX9_in_15 : decode cX9_in 15 = .ok (.ireturn, 1) := by decide +kernel
theorem dX9_bad_0 : decode cX9_bad 0 = .ok (.aload_n 0, 1) := by decide +kernel
theorem dX9_bad_1 : decode cX9_bad 1 = .ok (.getfield 19, 3) := by decide +kernel
theorem dX9_bad_4 : decode cX9_bad 4 = .ok (.iconst 0, 1) := by decide +kernel
theorem dX9_bad_5 : decode cX9_bad 5 = .ok (.dup2, 1) := by decide +kernel
theorem dX9_bad_6 : decode cX9_bad 6 = .ok (.iaload, 1) := by decide +kernel
theorem dX9_bad_7 : decode cX9_bad 7 = .ok (.iconst 1, 1) := by decide +kernel
theorem dX9_bad_8 : decode cX9_bad 8 = .ok (.iadd, 1) := by decide +kernel
theorem dX9_bad_9 : decode cX9_bad 9 = .ok (.iastore, 1) := by decide +kernel
theorem dX9_bad_10 : decode cX9_bad 10 = .ok (.bipush (-2), 2) := by decide +kernel
theorem dX9_bad_12 : decode cX9_bad 12 = .ok (.ireturn, 1) := by decide +kernel
theorem dX9_laysAside_0 : decode cX9_laysAside 0 = .ok (.iconst 0, 1) := by decide +kernel
theorem dX9_laysAside_1 : decode cX9_laysAside 1 = .ok (.istore_n 1, 1) := by decide +kernel
theorem dX9_laysAside_2 : decode cX9_laysAside 2 = .ok (.iload_n 1, 1) := by decide +kernel
theorem dX9_laysAside_3 : decode cX9_laysAside 3 = .ok (.sipush 900, 3) := by decide +kernel
theorem dX9_laysAside_6 : decode cX9_laysAside 6 = .ok (.if_icmp .ge 21, 3) := by decide +kernel
theorem dX9_laysAside_9 : decode cX9_laysAside 9 = .ok (.aload_n 0, 1) := by decide +kernel
theorem dX9_laysAside_10 : decode cX9_laysAside 10 = .ok (.getfield 13, 3) := by decide +kernel
theorem dX9_laysAside_13 : decode cX9_laysAside 13 = .ok (.iload_n 1, 1) := by decide +kernel
theorem dX9_laysAside_14 : decode cX9_laysAside 14 = .ok (.aload_n 0, 1) := by decide +kernel
theorem dX9_laysAside_15 : decode cX9_laysAside 15 = .ok (.getfield 7, 3) := by decide +kernel
theorem dX9_laysAside_18 : decode cX9_laysAside 18 = .ok (.iload_n 1, 1) := by decide +kernel
theorem dX9_laysAside_19 : decode cX9_laysAside 19 = .ok (.iaload, 1) := by decide +kernel
theorem dX9_laysAside_20 : decode cX9_laysAside 20 = .ok (.iastore, 1) := by decide +kernel
theorem dX9_laysAside_21 : decode cX9_laysAside 21 = .ok (.iinc 1 1, 3) := by decide +kernel
theorem dX9_laysAside_24 : decode cX9_laysAside 24 = .ok (.goto (-22), 3) := by decide +kernel
theorem dX9_laysAside_27 : decode cX9_laysAside 27 = .ok (.return_, 1) := by decide +kernel
theorem dX9_remembers_0 : decode cX9_remembers 0 = .ok (.aload_n 0, 1) := by decide +kernel
theorem dX9_remembers_1 : decode cX9_remembers 1 = .ok (.getfield 49, 3) := by decide +kernel
theorem dX9_remembers_4 : decode cX9_remembers 4 = .ok (.bipush 6, 2) := by decide +kernel
theorem dX9_remembers_6 : decode cX9_remembers 6 = .ok (.if_icmp .ne 44, 3) := by decide +kernel
theorem dX9_remembers_9 : decode cX9_remembers 9 = .ok (.iconst 0, 1) := by decide +kernel
theorem dX9_remembers_10 : decode cX9_remembers 10 = .ok (.istore_n 1, 1) := by decide +kernel
theorem dX9_remembers_11 : decode cX9_remembers 11 = .ok (.iload_n 1, 1) := by decide +kernel
theorem dX9_remembers_12 : decode cX9_remembers 12 = .ok (.sipush 4500, 3) := by decide +kernel
theorem dX9_remembers_15 : decode cX9_remembers 15 = .ok (.if_icmp .ge 25, 3) := by decide +kernel
theorem dX9_remembers_18 : decode cX9_remembers 18 = .ok (.aload_n 0, 1) := by decide +kernel
theorem dX9_remembers_19 : decode cX9_remembers 19 = .ok (.getfield 16, 3) := by decide +kernel
theorem dX9_remembers_22 : decode cX9_remembers 22 = .ok (.iload_n 1, 1) := by decide +kernel
theorem dX9_remembers_23 : decode cX9_remembers 23 = .ok (.aload_n 0, 1) := by decide +kernel
theorem dX9_remembers_24 : decode cX9_remembers 24 = .ok (.getfield 16, 3) := by decide +kernel
theorem dX9_remembers_27 : decode cX9_remembers 27 = .ok (.iload_n 1, 1) := by decide +kernel
theorem dX9_remembers_28 : decode cX9_remembers 28 = .ok (.sipush 900, 3) := by decide +kernel
theorem dX9_remembers_31 : decode cX9_remembers 31 = .ok (.iadd, 1) := by decide +kernel
theorem dX9_remembers_32 : decode cX9_remembers 32 = .ok (.iaload, 1) := by decide +kernel
theorem dX9_remembers_33 : decode cX9_remembers 33 = .ok (.iastore, 1) := by decide +kernel
theorem dX9_remembers_34 : decode cX9_remembers 34 = .ok (.iinc 1 1, 3) := by decide +kernel
theorem dX9_remembers_37 : decode cX9_remembers 37 = .ok (.goto (-26), 3) := by decide +kernel
theorem dX9_remembers_40 : decode cX9_remembers 40 = .ok (.aload_n 0, 1) := by decide +kernel
theorem dX9_remembers_41 : decode cX9_remembers 41 = .ok (.dup, 1) := by decide +kernel
theorem dX9_remembers_42 : decode cX9_remembers 42 = .ok (.getfield 49, 3) := by decide +kernel
theorem dX9_remembers_45 : decode cX9_remembers 45 = .ok (.iconst 1, 1) := by decide +kernel
theorem dX9_remembers_46 : decode cX9_remembers 46 = .ok (.isub, 1) := by decide +kernel
theorem dX9_remembers_47 : decode cX9_remembers 47 = .ok (.putfield 49, 3) := by decide +kernel
theorem dX9_remembers_50 : decode cX9_remembers 50 = .ok (.iconst 0, 1) := by decide +kernel
theorem dX9_remembers_51 : decode cX9_remembers 51 = .ok (.istore_n 1, 1) := by decide +kernel
theorem dX9_remembers_52 : decode cX9_remembers 52 = .ok (.iload_n 1, 1) := by decide +kernel
theorem dX9_remembers_53 : decode cX9_remembers 53 = .ok (.sipush 900, 3) := by decide +kernel
theorem dX9_remembers_56 : decode cX9_remembers 56 = .ok (.if_icmp .ge 30, 3) := by decide +kernel
theorem dX9_remembers_59 : decode cX9_remembers 59 = .ok (.aload_n 0, 1) := by decide +kernel
theorem dX9_remembers_60 : decode cX9_remembers 60 = .ok (.getfield 16, 3) := by decide +kernel
theorem dX9_remembers_63 : decode cX9_remembers 63 = .ok (.sipush 900, 3) := by decide +kernel
theorem dX9_remembers_66 : decode cX9_remembers 66 = .ok (.aload_n 0, 1) := by decide +kernel
theorem dX9_remembers_67 : decode cX9_remembers 67 = .ok (.getfield 49, 3) := by decide +kernel
theorem dX9_remembers_70 : decode cX9_remembers 70 = .ok (.imul, 1) := by decide +kernel
theorem dX9_remembers_71 : decode cX9_remembers 71 = .ok (.iload_n 1, 1) := by decide +kernel
theorem dX9_remembers_72 : decode cX9_remembers 72 = .ok (.iadd, 1) := by decide +kernel
theorem dX9_remembers_73 : decode cX9_remembers 73 = .ok (.aload_n 0, 1) := by decide +kernel
theorem dX9_remembers_74 : decode cX9_remembers 74 = .ok (.getfield 13, 3) := by decide +kernel
theorem dX9_remembers_77 : decode cX9_remembers 77 = .ok (.iload_n 1, 1) := by decide +kernel
theorem dX9_remembers_78 : decode cX9_remembers 78 = .ok (.iaload, 1) := by decide +kernel
theorem dX9_remembers_79 : decode cX9_remembers 79 = .ok (.iastore, 1) := by decide +kernel
theorem dX9_remembers_80 : decode cX9_remembers 80 = .ok (.iinc 1 1, 3) := by decide +kernel
theorem dX9_remembers_83 : decode cX9_remembers 83 = .ok (.goto (-31), 3) := by decide +kernel
theorem dX9_remembers_86 : decode cX9_remembers 86 = .ok (.aload_n 0, 1) := by decide +kernel
theorem dX9_remembers_87 : decode cX9_remembers 87 = .ok (.dup, 1) := by decide +kernel
theorem dX9_remembers_88 : decode cX9_remembers 88 = .ok (.getfield 49, 3) := by decide +kernel
theorem dX9_remembers_91 : decode cX9_remembers 91 = .ok (.iconst 1, 1) := by decide +kernel
theorem dX9_remembers_92 : decode cX9_remembers 92 = .ok (.iadd, 1) := by decide +kernel
theorem dX9_remembers_93 : decode cX9_remembers 93 = .ok (.putfield 49, 3) := by decide +kernel
theorem dX9_remembers_96 : decode cX9_remembers 96 = .ok (.return_, 1) := by decide +kernel
theorem dX9_back_0 : decode cX9_back 0 = .ok (.aload_n 0, 1) := by decide +kernel
theorem dX9_back_1 : decode cX9_back 1 = .ok (.getfield 49, 3) := by decide +kernel
theorem dX9_back_4 : decode cX9_back 4 = .ok (.ifCond .ne 16, 3) := by decide +kernel
theorem dX9_back_7 : decode cX9_back 7 = .ok (.aload_n 0, 1) := by decide +kernel
theorem dX9_back_8 : decode cX9_back 8 = .ok (.getfield 19, 3) := by decide +kernel
theorem dX9_back_11 : decode cX9_back 11 = .ok (.iconst 1, 1) := by decide +kernel
theorem dX9_back_12 : decode cX9_back 12 = .ok (.dup2, 1) := by decide +kernel
theorem dX9_back_13 : decode cX9_back 13 = .ok (.iaload, 1) := by decide +kernel
theorem dX9_back_14 : decode cX9_back 14 = .ok (.iconst 1, 1) := by decide +kernel
theorem dX9_back_15 : decode cX9_back 15 = .ok (.iadd, 1) := by decide +kernel
theorem dX9_back_16 : decode cX9_back 16 = .ok (.iastore, 1) := by decide +kernel
theorem dX9_back_17 : decode cX9_back 17 = .ok (.bipush (-3), 2) := by decide +kernel
theorem dX9_back_19 : decode cX9_back 19 = .ok (.ireturn, 1) := by decide +kernel
theorem dX9_back_20 : decode cX9_back 20 = .ok (.aload_n 0, 1) := by decide +kernel
theorem dX9_back_21 : decode cX9_back 21 = .ok (.dup, 1) := by decide +kernel
theorem dX9_back_22 : decode cX9_back 22 = .ok (.getfield 49, 3) := by decide +kernel
theorem dX9_back_25 : decode cX9_back 25 = .ok (.iconst 1, 1) := by decide +kernel
theorem dX9_back_26 : decode cX9_back 26 = .ok (.isub, 1) := by decide +kernel
theorem dX9_back_27 : decode cX9_back 27 = .ok (.putfield 49, 3) := by decide +kernel
theorem dX9_back_30 : decode cX9_back 30 = .ok (.iconst 0, 1) := by decide +kernel
theorem dX9_back_31 : decode cX9_back 31 = .ok (.istore_n 1, 1) := by decide +kernel
theorem dX9_back_32 : decode cX9_back 32 = .ok (.iload_n 1, 1) := by decide +kernel
theorem dX9_back_33 : decode cX9_back 33 = .ok (.sipush 900, 3) := by decide +kernel
theorem dX9_back_36 : decode cX9_back 36 = .ok (.if_icmp .ge 30, 3) := by decide +kernel
theorem dX9_back_39 : decode cX9_back 39 = .ok (.aload_n 0, 1) := by decide +kernel
theorem dX9_back_40 : decode cX9_back 40 = .ok (.getfield 7, 3) := by decide +kernel
theorem dX9_back_43 : decode cX9_back 43 = .ok (.iload_n 1, 1) := by decide +kernel
theorem dX9_back_44 : decode cX9_back 44 = .ok (.aload_n 0, 1) := by decide +kernel
theorem dX9_back_45 : decode cX9_back 45 = .ok (.getfield 16, 3) := by decide +kernel
theorem dX9_back_48 : decode cX9_back 48 = .ok (.sipush 900, 3) := by decide +kernel
theorem dX9_back_51 : decode cX9_back 51 = .ok (.aload_n 0, 1) := by decide +kernel
theorem dX9_back_52 : decode cX9_back 52 = .ok (.getfield 49, 3) := by decide +kernel
theorem dX9_back_55 : decode cX9_back 55 = .ok (.imul, 1) := by decide +kernel
theorem dX9_back_56 : decode cX9_back 56 = .ok (.iload_n 1, 1) := by decide +kernel
theorem dX9_back_57 : decode cX9_back 57 = .ok (.iadd, 1) := by decide +kernel
theorem dX9_back_58 : decode cX9_back 58 = .ok (.iaload, 1) := by decide +kernel
theorem dX9_back_59 : decode cX9_back 59 = .ok (.iastore, 1) := by decide +kernel
theorem dX9_back_60 : decode cX9_back 60 = .ok (.iinc 1 1, 3) := by decide +kernel
theorem dX9_back_63 : decode cX9_back 63 = .ok (.goto (-31), 3) := by decide +kernel
theorem dX9_back_66 : decode cX9_back 66 = .ok (.aload_n 0, 1) := by decide +kernel
theorem dX9_back_67 : decode cX9_back 67 = .ok (.getfield 49, 3) := by decide +kernel
theorem dX9_back_70 : decode cX9_back 70 = .ok (.ireturn, 1) := by decide +kernel
theorem dX9_isCell_0 : decode cX9_isCell 0 = .ok (.iload_n 0, 1) := by decide +kernel
theorem dX9_isCell_1 : decode cX9_isCell 1 = .ok (.iconst 0, 1) := by decide +kernel
theorem dX9_isCell_2 : decode cX9_isCell 2 = .ok (.iconst 5, 1) := by decide +kernel
theorem dX9_isCell_3 : decode cX9_isCell 3 = .ok (.invokestatic 53, 3) := by decide +kernel
theorem dX9_isCell_6 : decode cX9_isCell 6 = .ok (.ifCond .eq 16, 3) := by decide +kernel
theorem dX9_isCell_9 : decode cX9_isCell 9 = .ok (.iload_n 1, 1) := by decide +kernel
theorem dX9_isCell_10 : decode cX9_isCell 10 = .ok (.iconst 0, 1) := by decide +kernel
theorem dX9_isCell_11 : decode cX9_isCell 11 = .ok (.iconst 5, 1) := by decide +kernel
theorem dX9_isCell_12 : decode cX9_isCell 12 = .ok (.invokestatic 53, 3) := by decide +kernel
theorem dX9_isCell_15 : decode cX9_isCell 15 = .ok (.ifCond .eq 7, 3) := by decide +kernel
theorem dX9_isCell_18 : decode cX9_isCell 18 = .ok (.iconst 1, 1) := by decide +kernel
theorem dX9_isCell_19 : decode cX9_isCell 19 = .ok (.goto 4, 3) := by decide +kernel
theorem dX9_isCell_22 : decode cX9_isCell 22 = .ok (.iconst 0, 1) := by decide +kernel
theorem dX9_isCell_23 : decode cX9_isCell 23 = .ok (.ireturn, 1) := by decide +kernel
theorem dX9_placeOf_0 : decode cX9_placeOf 0 = .ok (.bipush 25, 2) := by decide +kernel
theorem dX9_placeOf_2 : decode cX9_placeOf 2 = .ok (.bipush 6, 2) := by decide +kernel
theorem dX9_placeOf_4 : decode cX9_placeOf 4 = .ok (.iload_n 1, 1) := by decide +kernel
theorem dX9_placeOf_5 : decode cX9_placeOf 5 = .ok (.imul, 1) := by decide +kernel
theorem dX9_placeOf_6 : decode cX9_placeOf 6 = .ok (.iload_n 0, 1) := by decide +kernel
theorem dX9_placeOf_7 : decode cX9_placeOf 7 = .ok (.iadd, 1) := by decide +kernel
theorem dX9_placeOf_8 : decode cX9_placeOf 8 = .ok (.imul, 1) := by decide +kernel
theorem dX9_placeOf_9 : decode cX9_placeOf 9 = .ok (.ireturn, 1) := by decide +kernel
theorem dX9_termPlace_0 : decode cX9_termPlace 0 = .ok (.iload_n 0, 1) := by decide +kernel
theorem dX9_termPlace_1 : decode cX9_termPlace 1 = .ok (.iconst 1, 1) := by decide +kernel
theorem dX9_termPlace_2 : decode cX9_termPlace 2 = .ok (.iadd, 1) := by decide +kernel
theorem dX9_termPlace_3 : decode cX9_termPlace 3 = .ok (.bipush 6, 2) := by decide +kernel
theorem dX9_termPlace_5 : decode cX9_termPlace 5 = .ok (.iload_n 1, 1) := by decide +kernel
theorem dX9_termPlace_6 : decode cX9_termPlace 6 = .ok (.imul, 1) := by decide +kernel
theorem dX9_termPlace_7 : decode cX9_termPlace 7 = .ok (.iadd, 1) := by decide +kernel
theorem dX9_termPlace_8 : decode cX9_termPlace 8 = .ok (.ireturn, 1) := by decide +kernel
theorem dX9_breaks_0 : decode cX9_breaks 0 = .ok (.iconst 0, 1) := by decide +kernel
theorem dX9_breaks_1 : decode cX9_breaks 1 = .ok (.istore_n 2, 1) := by decide +kernel
theorem dX9_breaks_2 : decode cX9_breaks 2 = .ok (.iload_n 2, 1) := by decide +kernel
theorem dX9_breaks_3 : decode cX9_breaks 3 = .ok (.bipush 6, 2) := by decide +kernel
theorem dX9_breaks_5 : decode cX9_breaks 5 = .ok (.if_icmp .ge 26, 3) := by decide +kernel
theorem dX9_breaks_8 : decode cX9_breaks 8 = .ok (.aload_n 0, 1) := by decide +kernel
theorem dX9_breaks_9 : decode cX9_breaks 9 = .ok (.getfield 7, 3) := by decide +kernel
theorem dX9_breaks_12 : decode cX9_breaks 12 = .ok (.iload_n 1, 1) := by decide +kernel
theorem dX9_breaks_13 : decode cX9_breaks 13 = .ok (.iload_n 2, 1) := by decide +kernel
theorem dX9_breaks_14 : decode cX9_breaks 14 = .ok (.iadd, 1) := by decide +kernel
theorem dX9_breaks_15 : decode cX9_breaks 15 = .ok (.iload_n 2, 1) := by decide +kernel
theorem dX9_breaks_16 : decode cX9_breaks 16 = .ok (.ifCond .ne 7, 3) := by decide +kernel
theorem dX9_breaks_19 : decode cX9_breaks 19 = .ok (.iconst 3, 1) := by decide +kernel
theorem dX9_breaks_20 : decode cX9_breaks 20 = .ok (.goto 4, 3) := by decide +kernel
theorem dX9_breaks_23 : decode cX9_breaks 23 = .ok (.iconst 0, 1) := by decide +kernel
theorem dX9_breaks_24 : decode cX9_breaks 24 = .ok (.iastore, 1) := by decide +kernel
theorem dX9_breaks_25 : decode cX9_breaks 25 = .ok (.iinc 2 1, 3) := by decide +kernel
theorem dX9_breaks_28 : decode cX9_breaks 28 = .ok (.goto (-26), 3) := by decide +kernel
theorem dX9_breaks_31 : decode cX9_breaks 31 = .ok (.return_, 1) := by decide +kernel
theorem dX9_empty_0 : decode cX9_empty 0 = .ok (.iconst 0, 1) := by decide +kernel
theorem dX9_empty_1 : decode cX9_empty 1 = .ok (.istore_n 2, 1) := by decide +kernel
theorem dX9_empty_2 : decode cX9_empty 2 = .ok (.iload_n 2, 1) := by decide +kernel
theorem dX9_empty_3 : decode cX9_empty 3 = .ok (.bipush 25, 2) := by decide +kernel
theorem dX9_empty_5 : decode cX9_empty 5 = .ok (.if_icmp .ge 18, 3) := by decide +kernel
theorem dX9_empty_8 : decode cX9_empty 8 = .ok (.aload_n 0, 1) := by decide +kernel
theorem dX9_empty_9 : decode cX9_empty 9 = .ok (.getfield 7, 3) := by decide +kernel
theorem dX9_empty_12 : decode cX9_empty 12 = .ok (.iload_n 1, 1) := by decide +kernel
theorem dX9_empty_13 : decode cX9_empty 13 = .ok (.iload_n 2, 1) := by decide +kernel
theorem dX9_empty_14 : decode cX9_empty 14 = .ok (.iadd, 1) := by decide +kernel
theorem dX9_empty_15 : decode cX9_empty 15 = .ok (.iconst 0, 1) := by decide +kernel
theorem dX9_empty_16 : decode cX9_empty 16 = .ok (.iastore, 1) := by decide +kernel
theorem dX9_empty_17 : decode cX9_empty 17 = .ok (.iinc 2 1, 3) := by decide +kernel
theorem dX9_empty_20 : decode cX9_empty 20 = .ok (.goto (-18), 3) := by decide +kernel
theorem dX9_empty_23 : decode cX9_empty 23 = .ok (.return_, 1) := by decide +kernel
theorem dX9_takes_0 : decode cX9_takes 0 = .ok (.iconst 0, 1) := by decide +kernel
theorem dX9_takes_1 : decode cX9_takes 1 = .ok (.istore_n 3, 1) := by decide +kernel
theorem dX9_takes_2 : decode cX9_takes 2 = .ok (.iload_n 3, 1) := by decide +kernel
theorem dX9_takes_3 : decode cX9_takes 3 = .ok (.bipush 25, 2) := by decide +kernel
theorem dX9_takes_5 : decode cX9_takes 5 = .ok (.if_icmp .ge 25, 3) := by decide +kernel
theorem dX9_takes_8 : decode cX9_takes 8 = .ok (.aload_n 0, 1) := by decide +kernel
theorem dX9_takes_9 : decode cX9_takes 9 = .ok (.getfield 7, 3) := by decide +kernel
theorem dX9_takes_12 : decode cX9_takes 12 = .ok (.iload_n 1, 1) := by decide +kernel
theorem dX9_takes_13 : decode cX9_takes 13 = .ok (.iload_n 3, 1) := by decide +kernel
theorem dX9_takes_14 : decode cX9_takes 14 = .ok (.iadd, 1) := by decide +kernel
theorem dX9_takes_15 : decode cX9_takes 15 = .ok (.aload_n 0, 1) := by decide +kernel
theorem dX9_takes_16 : decode cX9_takes 16 = .ok (.getfield 13, 3) := by decide +kernel
theorem dX9_takes_19 : decode cX9_takes 19 = .ok (.iload_n 2, 1) := by decide +kernel
theorem dX9_takes_20 : decode cX9_takes 20 = .ok (.iload_n 3, 1) := by decide +kernel
theorem dX9_takes_21 : decode cX9_takes 21 = .ok (.iadd, 1) := by decide +kernel
theorem dX9_takes_22 : decode cX9_takes 22 = .ok (.iaload, 1) := by decide +kernel
theorem dX9_takes_23 : decode cX9_takes 23 = .ok (.iastore, 1) := by decide +kernel
theorem dX9_takes_24 : decode cX9_takes 24 = .ok (.iinc 3 1, 3) := by decide +kernel
theorem dX9_takes_27 : decode cX9_takes 27 = .ok (.goto (-25), 3) := by decide +kernel
theorem dX9_takes_30 : decode cX9_takes 30 = .ok (.return_, 1) := by decide +kernel
theorem dX9_filled_0 : decode cX9_filled 0 = .ok (.iconst 0, 1) := by decide +kernel
theorem dX9_filled_1 : decode cX9_filled 1 = .ok (.istore_n 1, 1) := by decide +kernel
theorem dX9_filled_2 : decode cX9_filled 2 = .ok (.iconst 0, 1) := by decide +kernel
theorem dX9_filled_3 : decode cX9_filled 3 = .ok (.istore_n 2, 1) := by decide +kernel
theorem dX9_filled_4 : decode cX9_filled 4 = .ok (.iload_n 2, 1) := by decide +kernel
theorem dX9_filled_5 : decode cX9_filled 5 = .ok (.bipush 36, 2) := by decide +kernel
theorem dX9_filled_7 : decode cX9_filled 7 = .ok (.if_icmp .ge 29, 3) := by decide +kernel
theorem dX9_filled_10 : decode cX9_filled 10 = .ok (.iload_n 1, 1) := by decide +kernel
theorem dX9_filled_11 : decode cX9_filled 11 = .ok (.aload_n 0, 1) := by decide +kernel
theorem dX9_filled_12 : decode cX9_filled 12 = .ok (.getfield 7, 3) := by decide +kernel
theorem dX9_filled_15 : decode cX9_filled 15 = .ok (.bipush 25, 2) := by decide +kernel
theorem dX9_filled_17 : decode cX9_filled 17 = .ok (.iload_n 2, 1) := by decide +kernel
theorem dX9_filled_18 : decode cX9_filled 18 = .ok (.imul, 1) := by decide +kernel
theorem dX9_filled_19 : decode cX9_filled 19 = .ok (.iaload, 1) := by decide +kernel
theorem dX9_filled_20 : decode cX9_filled 20 = .ok (.ifCond .ne 7, 3) := by decide +kernel
theorem dX9_filled_23 : decode cX9_filled 23 = .ok (.iconst 0, 1) := by decide +kernel
theorem dX9_filled_24 : decode cX9_filled 24 = .ok (.goto 4, 3) := by decide +kernel
theorem dX9_filled_27 : decode cX9_filled 27 = .ok (.iconst 1, 1) := by decide +kernel
theorem dX9_filled_28 : decode cX9_filled 28 = .ok (.iadd, 1) := by decide +kernel
theorem dX9_filled_29 : decode cX9_filled 29 = .ok (.istore_n 1, 1) := by decide +kernel
theorem dX9_filled_30 : decode cX9_filled 30 = .ok (.iinc 2 1, 3) := by decide +kernel
theorem dX9_filled_33 : decode cX9_filled 33 = .ok (.goto (-29), 3) := by decide +kernel
theorem dX9_filled_36 : decode cX9_filled 36 = .ok (.iload_n 1, 1) := by decide +kernel
theorem dX9_filled_37 : decode cX9_filled 37 = .ok (.ireturn, 1) := by decide +kernel
theorem dX9_sorts_0 : decode cX9_sorts 0 = .ok (.aload_n 0, 1) := by decide +kernel
theorem dX9_sorts_1 : decode cX9_sorts 1 = .ok (.iload_n 1, 1) := by decide +kernel
theorem dX9_sorts_2 : decode cX9_sorts 2 = .ok (.iload_n 2, 1) := by decide +kernel
theorem dX9_sorts_3 : decode cX9_sorts 3 = .ok (.iadd, 1) := by decide +kernel
theorem dX9_sorts_4 : decode cX9_sorts 4 = .ok (.iaload, 1) := by decide +kernel
theorem dX9_sorts_5 : decode cX9_sorts 5 = .ok (.aload_n 0, 1) := by decide +kernel
theorem dX9_sorts_6 : decode cX9_sorts 6 = .ok (.iload_n 1, 1) := by decide +kernel
theorem dX9_sorts_7 : decode cX9_sorts 7 = .ok (.iload_n 3, 1) := by decide +kernel
theorem dX9_sorts_8 : decode cX9_sorts 8 = .ok (.iadd, 1) := by decide +kernel
theorem dX9_sorts_9 : decode cX9_sorts 9 = .ok (.iaload, 1) := by decide +kernel
theorem dX9_sorts_10 : decode cX9_sorts 10 = .ok (.if_icmp .gt 4, 3) := by decide +kernel
theorem dX9_sorts_13 : decode cX9_sorts 13 = .ok (.return_, 1) := by decide +kernel
theorem dX9_sorts_14 : decode cX9_sorts 14 = .ok (.aload_n 0, 1) := by decide +kernel
theorem dX9_sorts_15 : decode cX9_sorts 15 = .ok (.iload_n 1, 1) := by decide +kernel
theorem dX9_sorts_16 : decode cX9_sorts 16 = .ok (.iload_n 2, 1) := by decide +kernel
theorem dX9_sorts_17 : decode cX9_sorts 17 = .ok (.iadd, 1) := by decide +kernel
theorem dX9_sorts_18 : decode cX9_sorts 18 = .ok (.iaload, 1) := by decide +kernel
theorem dX9_sorts_19 : decode cX9_sorts 19 = .ok (.istore 5, 2) := by decide +kernel
theorem dX9_sorts_21 : decode cX9_sorts 21 = .ok (.aload_n 0, 1) := by decide +kernel
theorem dX9_sorts_22 : decode cX9_sorts 22 = .ok (.iload_n 1, 1) := by decide +kernel
theorem dX9_sorts_23 : decode cX9_sorts 23 = .ok (.iload_n 2, 1) := by decide +kernel
theorem dX9_sorts_24 : decode cX9_sorts 24 = .ok (.iadd, 1) := by decide +kernel
theorem dX9_sorts_25 : decode cX9_sorts 25 = .ok (.aload_n 0, 1) := by decide +kernel
theorem dX9_sorts_26 : decode cX9_sorts 26 = .ok (.iload_n 1, 1) := by decide +kernel
theorem dX9_sorts_27 : decode cX9_sorts 27 = .ok (.iload_n 3, 1) := by decide +kernel
theorem dX9_sorts_28 : decode cX9_sorts 28 = .ok (.iadd, 1) := by decide +kernel
theorem dX9_sorts_29 : decode cX9_sorts 29 = .ok (.iaload, 1) := by decide +kernel
theorem dX9_sorts_30 : decode cX9_sorts 30 = .ok (.iastore, 1) := by decide +kernel
theorem dX9_sorts_31 : decode cX9_sorts 31 = .ok (.aload_n 0, 1) := by decide +kernel
theorem dX9_sorts_32 : decode cX9_sorts 32 = .ok (.iload_n 1, 1) := by decide +kernel
theorem dX9_sorts_33 : decode cX9_sorts 33 = .ok (.iload_n 3, 1) := by decide +kernel
theorem dX9_sorts_34 : decode cX9_sorts 34 = .ok (.iadd, 1) := by decide +kernel
theorem dX9_sorts_35 : decode cX9_sorts 35 = .ok (.iload 5, 2) := by decide +kernel
theorem dX9_sorts_37 : decode cX9_sorts 37 = .ok (.iastore, 1) := by decide +kernel
theorem dX9_sorts_38 : decode cX9_sorts 38 = .ok (.aload_n 0, 1) := by decide +kernel
theorem dX9_sorts_39 : decode cX9_sorts 39 = .ok (.iload_n 1, 1) := by decide +kernel
theorem dX9_sorts_40 : decode cX9_sorts 40 = .ok (.iconst 5, 1) := by decide +kernel
theorem dX9_sorts_41 : decode cX9_sorts 41 = .ok (.iadd, 1) := by decide +kernel
theorem dX9_sorts_42 : decode cX9_sorts 42 = .ok (.iaload, 1) := by decide +kernel
theorem dX9_sorts_43 : decode cX9_sorts 43 = .ok (.iload 4, 2) := by decide +kernel
theorem dX9_sorts_45 : decode cX9_sorts 45 = .ok (.iand, 1) := by decide +kernel
theorem dX9_sorts_46 : decode cX9_sorts 46 = .ok (.istore 6, 2) := by decide +kernel
theorem dX9_sorts_48 : decode cX9_sorts 48 = .ok (.aload_n 0, 1) := by decide +kernel
theorem dX9_sorts_49 : decode cX9_sorts 49 = .ok (.iload_n 1, 1) := by decide +kernel
theorem dX9_sorts_50 : decode cX9_sorts 50 = .ok (.iconst 5, 1) := by decide +kernel
theorem dX9_sorts_51 : decode cX9_sorts 51 = .ok (.iadd, 1) := by decide +kernel
theorem dX9_sorts_52 : decode cX9_sorts 52 = .ok (.iaload, 1) := by decide +kernel
theorem dX9_sorts_53 : decode cX9_sorts 53 = .ok (.iconst 4, 1) := by decide +kernel
theorem dX9_sorts_54 : decode cX9_sorts 54 = .ok (.iload 4, 2) := by decide +kernel
theorem dX9_sorts_56 : decode cX9_sorts 56 = .ok (.imul, 1) := by decide +kernel
theorem dX9_sorts_57 : decode cX9_sorts 57 = .ok (.iand, 1) := by decide +kernel
theorem dX9_sorts_58 : decode cX9_sorts 58 = .ok (.istore 7, 2) := by decide +kernel
theorem dX9_sorts_60 : decode cX9_sorts 60 = .ok (.aload_n 0, 1) := by decide +kernel
theorem dX9_sorts_61 : decode cX9_sorts 61 = .ok (.iload_n 1, 1) := by decide +kernel
theorem dX9_sorts_62 : decode cX9_sorts 62 = .ok (.iconst 5, 1) := by decide +kernel
theorem dX9_sorts_63 : decode cX9_sorts 63 = .ok (.iadd, 1) := by decide +kernel
theorem dX9_sorts_64 : decode cX9_sorts 64 = .ok (.aload_n 0, 1) := by decide +kernel
theorem dX9_sorts_65 : decode cX9_sorts 65 = .ok (.iload_n 1, 1) := by decide +kernel
theorem dX9_sorts_66 : decode cX9_sorts 66 = .ok (.iconst 5, 1) := by decide +kernel
theorem dX9_sorts_67 : decode cX9_sorts 67 = .ok (.iadd, 1) := by decide +kernel
theorem dX9_sorts_68 : decode cX9_sorts 68 = .ok (.iaload, 1) := by decide +kernel
theorem dX9_sorts_69 : decode cX9_sorts 69 = .ok (.iload 6, 2) := by decide +kernel
theorem dX9_sorts_71 : decode cX9_sorts 71 = .ok (.isub, 1) := by decide +kernel
theorem dX9_sorts_72 : decode cX9_sorts 72 = .ok (.iload 7, 2) := by decide +kernel
theorem dX9_sorts_74 : decode cX9_sorts 74 = .ok (.isub, 1) := by decide +kernel
theorem dX9_sorts_75 : decode cX9_sorts 75 = .ok (.iconst 4, 1) := by decide +kernel
theorem dX9_sorts_76 : decode cX9_sorts 76 = .ok (.iload 6, 2) := by decide +kernel
theorem dX9_sorts_78 : decode cX9_sorts 78 = .ok (.imul, 1) := by decide +kernel
theorem dX9_sorts_79 : decode cX9_sorts 79 = .ok (.iadd, 1) := by decide +kernel
theorem dX9_sorts_80 : decode cX9_sorts 80 = .ok (.iload 7, 2) := by decide +kernel
theorem dX9_sorts_82 : decode cX9_sorts 82 = .ok (.iconst 4, 1) := by decide +kernel
theorem dX9_sorts_83 : decode cX9_sorts 83 = .ok (.idiv, 1) := by decide +kernel
theorem dX9_sorts_84 : decode cX9_sorts 84 = .ok (.iadd, 1) := by decide +kernel
theorem dX9_sorts_85 : decode cX9_sorts 85 = .ok (.iastore, 1) := by decide +kernel
theorem dX9_sorts_86 : decode cX9_sorts 86 = .ok (.return_, 1) := by decide +kernel
theorem dX9_blanks_0 : decode cX9_blanks 0 = .ok (.aload_n 0, 1) := by decide +kernel
theorem dX9_blanks_1 : decode cX9_blanks 1 = .ok (.getfield 57, 3) := by decide +kernel
theorem dX9_blanks_4 : decode cX9_blanks 4 = .ok (.aload_n 0, 1) := by decide +kernel
theorem dX9_blanks_5 : decode cX9_blanks 5 = .ok (.getfield 60, 3) := by decide +kernel
theorem dX9_blanks_8 : decode cX9_blanks 8 = .ok (.if_icmp .ge 30, 3) := by decide +kernel
theorem dX9_blanks_11 : decode cX9_blanks 11 = .ok (.aload_n 0, 1) := by decide +kernel
theorem dX9_blanks_12 : decode cX9_blanks 12 = .ok (.getfield 22, 3) := by decide +kernel
theorem dX9_blanks_15 : decode cX9_blanks 15 = .ok (.aload_n 0, 1) := by decide +kernel
theorem dX9_blanks_16 : decode cX9_blanks 16 = .ok (.getfield 57, 3) := by decide +kernel
theorem dX9_blanks_19 : decode cX9_blanks 19 = .ok (.iaload, 1) := by decide +kernel
theorem dX9_blanks_20 : decode cX9_blanks 20 = .ok (.bipush 32, 2) := by decide +kernel
theorem dX9_blanks_22 : decode cX9_blanks 22 = .ok (.if_icmp .ne 16, 3) := by decide +kernel
theorem dX9_blanks_25 : decode cX9_blanks 25 = .ok (.aload_n 0, 1) := by decide +kernel
theorem dX9_blanks_26 : decode cX9_blanks 26 = .ok (.dup, 1) := by decide +kernel
theorem dX9_blanks_27 : decode cX9_blanks 27 = .ok (.getfield 57, 3) := by decide +kernel
theorem dX9_blanks_30 : decode cX9_blanks 30 = .ok (.iconst 1, 1) := by decide +kernel
theorem dX9_blanks_31 : decode cX9_blanks 31 = .ok (.iadd, 1) := by decide +kernel
theorem dX9_blanks_32 : decode cX9_blanks 32 = .ok (.putfield 57, 3) := by decide +kernel
theorem dX9_blanks_35 : decode cX9_blanks 35 = .ok (.goto (-35), 3) := by decide +kernel
theorem dX9_blanks_38 : decode cX9_blanks 38 = .ok (.return_, 1) := by decide +kernel
theorem dX9_isAt_0 : decode cX9_isAt 0 = .ok (.aload_n 0, 1) := by decide +kernel
theorem dX9_isAt_1 : decode cX9_isAt 1 = .ok (.getfield 57, 3) := by decide +kernel
theorem dX9_isAt_4 : decode cX9_isAt 4 = .ok (.aload_n 0, 1) := by decide +kernel
theorem dX9_isAt_5 : decode cX9_isAt 5 = .ok (.getfield 60, 3) := by decide +kernel
theorem dX9_isAt_8 : decode cX9_isAt 8 = .ok (.if_icmp .ge 24, 3) := by decide +kernel
theorem dX9_isAt_11 : decode cX9_isAt 11 = .ok (.aload_n 0, 1) := by decide +kernel
theorem dX9_isAt_12 : decode cX9_isAt 12 = .ok (.getfield 22, 3) := by decide +kernel
theorem dX9_isAt_15 : decode cX9_isAt 15 = .ok (.aload_n 0, 1) := by decide +kernel
theorem dX9_isAt_16 : decode cX9_isAt 16 = .ok (.getfield 57, 3) := by decide +kernel
theorem dX9_isAt_19 : decode cX9_isAt 19 = .ok (.iaload, 1) := by decide +kernel
theorem dX9_isAt_20 : decode cX9_isAt 20 = .ok (.iload_n 1, 1) := by decide +kernel
theorem dX9_isAt_21 : decode cX9_isAt 21 = .ok (.iload_n 2, 1) := by decide +kernel
theorem dX9_isAt_22 : decode cX9_isAt 22 = .ok (.invokestatic 53, 3) := by decide +kernel
theorem dX9_isAt_25 : decode cX9_isAt 25 = .ok (.ifCond .eq 7, 3) := by decide +kernel
theorem dX9_isAt_28 : decode cX9_isAt 28 = .ok (.iconst 1, 1) := by decide +kernel
theorem dX9_isAt_29 : decode cX9_isAt 29 = .ok (.goto 4, 3) := by decide +kernel
theorem dX9_isAt_32 : decode cX9_isAt 32 = .ok (.iconst 0, 1) := by decide +kernel
theorem dX9_isAt_33 : decode cX9_isAt 33 = .ok (.ireturn, 1) := by decide +kernel
theorem dX9_fails_0 : decode cX9_fails 0 = .ok (.aload_n 0, 1) := by decide +kernel
theorem dX9_fails_1 : decode cX9_fails 1 = .ok (.aload_n 0, 1) := by decide +kernel
theorem dX9_fails_2 : decode cX9_fails 2 = .ok (.getfield 57, 3) := by decide +kernel
theorem dX9_fails_5 : decode cX9_fails 5 = .ok (.putfield 63, 3) := by decide +kernel
theorem dX9_fails_8 : decode cX9_fails 8 = .ok (.iconst 0, 1) := by decide +kernel
theorem dX9_fails_9 : decode cX9_fails 9 = .ok (.ireturn, 1) := by decide +kernel
theorem dX9_takesNumber_0 : decode cX9_takesNumber 0 = .ok (.aload_n 0, 1) := by decide +kernel
theorem dX9_takesNumber_1 : decode cX9_takesNumber 1 = .ok (.getfield 57, 3) := by decide +kernel
theorem dX9_takesNumber_4 : decode cX9_takesNumber 4 = .ok (.istore_n 2, 1) := by decide +kernel
theorem dX9_takesNumber_5 : decode cX9_takesNumber 5 = .ok (.iconst 0, 1) := by decide +kernel
theorem dX9_takesNumber_6 : decode cX9_takesNumber 6 = .ok (.istore_n 3, 1) := by decide +kernel
theorem dX9_takesNumber_7 : decode cX9_takesNumber 7 = .ok (.aload_n 0, 1) := by decide +kernel
theorem dX9_takesNumber_8 : decode cX9_takesNumber 8 = .ok (.bipush 48, 2) := by decide +kernel
theorem dX9_takesNumber_10 : decode cX9_takesNumber 10 = .ok (.bipush 57, 2) := by decide +kernel
theorem dX9_takesNumber_12 : decode cX9_takesNumber 12 = .ok (.invokevirtual 66, 3) := by decide +kernel
theorem dX9_takesNumber_15 : decode cX9_takesNumber 15 = .ok (.ifCond .eq 49, 3) := by decide +kernel
theorem dX9_takesNumber_18 : decode cX9_takesNumber 18 = .ok (.aload_n 0, 1) := by decide +kernel
theorem dX9_takesNumber_19 : decode cX9_takesNumber 19 = .ok (.getfield 57, 3) := by decide +kernel
theorem dX9_takesNumber_22 : decode cX9_takesNumber 22 = .ok (.iload_n 2, 1) := by decide +kernel
theorem dX9_takesNumber_23 : decode cX9_takesNumber 23 = .ok (.iconst 3, 1) := by decide +kernel
theorem dX9_takesNumber_24 : decode cX9_takesNumber 24 = .ok (.iadd, 1) := by decide +kernel
theorem dX9_takesNumber_25 : decode cX9_takesNumber 25 = .ok (.if_icmp .ne 8, 3) := by decide +kernel
theorem dX9_takesNumber_28 : decode cX9_takesNumber 28 = .ok (.aload_n 0, 1) := by decide +kernel
theorem dX9_takesNumber_29 : decode cX9_takesNumber 29 = .ok (.invokevirtual 70, 3) := by decide +kernel
theorem dX9_takesNumber_32 : decode cX9_takesNumber 32 = .ok (.ireturn, 1) := by decide +kernel
theorem dX9_takesNumber_33 : decode cX9_takesNumber 33 = .ok (.bipush 10, 2) := by decide +kernel
theorem dX9_takesNumber_35 : decode cX9_takesNumber 35 = .ok (.iload_n 3, 1) := by decide +kernel
theorem dX9_takesNumber_36 : decode cX9_takesNumber 36 = .ok (.imul, 1) := by decide +kernel
theorem dX9_takesNumber_37 : decode cX9_takesNumber 37 = .ok (.aload_n 0, 1) := by decide +kernel
theorem dX9_takesNumber_38 : decode cX9_takesNumber 38 = .ok (.getfield 22, 3) := by decide +kernel
theorem dX9_takesNumber_41 : decode cX9_takesNumber 41 = .ok (.aload_n 0, 1) := by decide +kernel
theorem dX9_takesNumber_42 : decode cX9_takesNumber 42 = .ok (.getfield 57, 3) := by decide +kernel
theorem dX9_takesNumber_45 : decode cX9_takesNumber 45 = .ok (.iaload, 1) := by decide +kernel
theorem dX9_takesNumber_46 : decode cX9_takesNumber 46 = .ok (.iadd, 1) := by decide +kernel
theorem dX9_takesNumber_47 : decode cX9_takesNumber 47 = .ok (.bipush 48, 2) := by decide +kernel
theorem dX9_takesNumber_49 : decode cX9_takesNumber 49 = .ok (.isub, 1) := by decide +kernel
theorem dX9_takesNumber_50 : decode cX9_takesNumber 50 = .ok (.istore_n 3, 1) := by decide +kernel
theorem dX9_takesNumber_51 : decode cX9_takesNumber 51 = .ok (.aload_n 0, 1) := by decide +kernel
theorem dX9_takesNumber_52 : decode cX9_takesNumber 52 = .ok (.dup, 1) := by decide +kernel
theorem dX9_takesNumber_53 : decode cX9_takesNumber 53 = .ok (.getfield 57, 3) := by decide +kernel
theorem dX9_takesNumber_56 : decode cX9_takesNumber 56 = .ok (.iconst 1, 1) := by decide +kernel
theorem dX9_takesNumber_57 : decode cX9_takesNumber 57 = .ok (.iadd, 1) := by decide +kernel
theorem dX9_takesNumber_58 : decode cX9_takesNumber 58 = .ok (.putfield 57, 3) := by decide +kernel
theorem dX9_takesNumber_61 : decode cX9_takesNumber 61 = .ok (.goto (-54), 3) := by decide +kernel
theorem dX9_takesNumber_64 : decode cX9_takesNumber 64 = .ok (.aload_n 0, 1) := by decide +kernel
theorem dX9_takesNumber_65 : decode cX9_takesNumber 65 = .ok (.getfield 25, 3) := by decide +kernel
theorem dX9_takesNumber_68 : decode cX9_takesNumber 68 = .ok (.iload_n 1, 1) := by decide +kernel
theorem dX9_takesNumber_69 : decode cX9_takesNumber 69 = .ok (.iconst 0, 1) := by decide +kernel
theorem dX9_takesNumber_70 : decode cX9_takesNumber 70 = .ok (.iadd, 1) := by decide +kernel
theorem dX9_takesNumber_71 : decode cX9_takesNumber 71 = .ok (.iconst 0, 1) := by decide +kernel
theorem dX9_takesNumber_72 : decode cX9_takesNumber 72 = .ok (.iastore, 1) := by decide +kernel
theorem dX9_takesNumber_73 : decode cX9_takesNumber 73 = .ok (.aload_n 0, 1) := by decide +kernel
theorem dX9_takesNumber_74 : decode cX9_takesNumber 74 = .ok (.getfield 25, 3) := by decide +kernel
theorem dX9_takesNumber_77 : decode cX9_takesNumber 77 = .ok (.iload_n 1, 1) := by decide +kernel
theorem dX9_takesNumber_78 : decode cX9_takesNumber 78 = .ok (.iconst 1, 1) := by decide +kernel
theorem dX9_takesNumber_79 : decode cX9_takesNumber 79 = .ok (.iadd, 1) := by decide +kernel
theorem dX9_takesNumber_80 : decode cX9_takesNumber 80 = .ok (.iload_n 3, 1) := by decide +kernel
theorem dX9_takesNumber_81 : decode cX9_takesNumber 81 = .ok (.iastore, 1) := by decide +kernel
theorem dX9_takesNumber_82 : decode cX9_takesNumber 82 = .ok (.iconst 1, 1) := by decide +kernel
theorem dX9_takesNumber_83 : decode cX9_takesNumber 83 = .ok (.ireturn, 1) := by decide +kernel
theorem dX9_dollar_0 : decode cX9_dollar 0 = .ok (.aload_n 0, 1) := by decide +kernel
theorem dX9_dollar_1 : decode cX9_dollar 1 = .ok (.invokevirtual 74, 3) := by decide +kernel
theorem dX9_dollar_4 : decode cX9_dollar 4 = .ok (.aload_n 0, 1) := by decide +kernel
theorem dX9_dollar_5 : decode cX9_dollar 5 = .ok (.bipush 36, 2) := by decide +kernel
theorem dX9_dollar_7 : decode cX9_dollar 7 = .ok (.bipush 36, 2) := by decide +kernel
theorem dX9_dollar_9 : decode cX9_dollar 9 = .ok (.invokevirtual 66, 3) := by decide +kernel
theorem dX9_dollar_12 : decode cX9_dollar 12 = .ok (.ifCond .ne 5, 3) := by decide +kernel
theorem dX9_dollar_15 : decode cX9_dollar 15 = .ok (.iconst 0, 1) := by decide +kernel
theorem dX9_dollar_16 : decode cX9_dollar 16 = .ok (.ireturn, 1) := by decide +kernel
theorem dX9_dollar_17 : decode cX9_dollar 17 = .ok (.aload_n 0, 1) := by decide +kernel
theorem dX9_dollar_18 : decode cX9_dollar 18 = .ok (.dup, 1) := by decide +kernel
theorem dX9_dollar_19 : decode cX9_dollar 19 = .ok (.getfield 57, 3) := by decide +kernel
theorem dX9_dollar_22 : decode cX9_dollar 22 = .ok (.iconst 1, 1) := by decide +kernel
theorem dX9_dollar_23 : decode cX9_dollar 23 = .ok (.iadd, 1) := by decide +kernel
theorem dX9_dollar_24 : decode cX9_dollar 24 = .ok (.putfield 57, 3) := by decide +kernel
theorem dX9_dollar_27 : decode cX9_dollar 27 = .ok (.aload_n 0, 1) := by decide +kernel
theorem dX9_dollar_28 : decode cX9_dollar 28 = .ok (.invokevirtual 74, 3) := by decide +kernel
theorem dX9_dollar_31 : decode cX9_dollar 31 = .ok (.iload_n 1, 1) := by decide +kernel
theorem dX9_dollar_32 : decode cX9_dollar 32 = .ok (.ireturn, 1) := by decide +kernel
theorem dX9_takesPlace_0 : decode cX9_takesPlace 0 = .ok (.aload_n 0, 1) := by decide +kernel
theorem dX9_takesPlace_1 : decode cX9_takesPlace 1 = .ok (.getfield 25, 3) := by decide +kernel
theorem dX9_takesPlace_4 : decode cX9_takesPlace 4 = .ok (.iload_n 1, 1) := by decide +kernel
theorem dX9_takesPlace_5 : decode cX9_takesPlace 5 = .ok (.iconst 5, 1) := by decide +kernel
theorem dX9_takesPlace_6 : decode cX9_takesPlace 6 = .ok (.iadd, 1) := by decide +kernel
theorem dX9_takesPlace_7 : decode cX9_takesPlace 7 = .ok (.dup2, 1) := by decide +kernel
theorem dX9_takesPlace_8 : decode cX9_takesPlace 8 = .ok (.iaload, 1) := by decide +kernel
theorem dX9_takesPlace_9 : decode cX9_takesPlace 9 = .ok (.aload_n 0, 1) := by decide +kernel
theorem dX9_takesPlace_10 : decode cX9_takesPlace 10 = .ok (.iload_n 3, 1) := by decide +kernel
theorem dX9_takesPlace_11 : decode cX9_takesPlace 11 = .ok (.invokevirtual 77, 3) := by decide +kernel
theorem dX9_takesPlace_14 : decode cX9_takesPlace 14 = .ok (.iadd, 1) := by decide +kernel
theorem dX9_takesPlace_15 : decode cX9_takesPlace 15 = .ok (.iastore, 1) := by decide +kernel
theorem dX9_takesPlace_16 : decode cX9_takesPlace 16 = .ok (.aload_n 0, 1) := by decide +kernel
theorem dX9_takesPlace_17 : decode cX9_takesPlace 17 = .ok (.bipush 97, 2) := by decide +kernel
theorem dX9_takesPlace_19 : decode cX9_takesPlace 19 = .ok (.bipush 102, 2) := by decide +kernel
theorem dX9_takesPlace_21 : decode cX9_takesPlace 21 = .ok (.invokevirtual 66, 3) := by decide +kernel
theorem dX9_takesPlace_24 : decode cX9_takesPlace 24 = .ok (.istore 4, 2) := by decide +kernel
theorem dX9_takesPlace_26 : decode cX9_takesPlace 26 = .ok (.iload 4, 2) := by decide +kernel
theorem dX9_takesPlace_28 : decode cX9_takesPlace 28 = .ok (.ifCond .ne 19, 3) := by decide +kernel
theorem dX9_takesPlace_31 : decode cX9_takesPlace 31 = .ok (.aload_n 0, 1) := by decide +kernel
theorem dX9_takesPlace_32 : decode cX9_takesPlace 32 = .ok (.bipush 65, 2) := by decide +kernel
theorem dX9_takesPlace_34 : decode cX9_takesPlace 34 = .ok (.bipush 70, 2) := by decide +kernel
theorem dX9_takesPlace_36 : decode cX9_takesPlace 36 = .ok (.invokevirtual 66, 3) := by decide +kernel
theorem dX9_takesPlace_39 : decode cX9_takesPlace 39 = .ok (.ifCond .ne 8, 3) := by decide +kernel
theorem dX9_takesPlace_42 : decode cX9_takesPlace 42 = .ok (.aload_n 0, 1) := by decide +kernel
theorem dX9_takesPlace_43 : decode cX9_takesPlace 43 = .ok (.invokevirtual 70, 3) := by decide +kernel
theorem dX9_takesPlace_46 : decode cX9_takesPlace 46 = .ok (.ireturn, 1) := by decide +kernel
theorem dX9_takesPlace_47 : decode cX9_takesPlace 47 = .ok (.aload_n 0, 1) := by decide +kernel
theorem dX9_takesPlace_48 : decode cX9_takesPlace 48 = .ok (.getfield 25, 3) := by decide +kernel
theorem dX9_takesPlace_51 : decode cX9_takesPlace 51 = .ok (.iload_n 1, 1) := by decide +kernel
theorem dX9_takesPlace_52 : decode cX9_takesPlace 52 = .ok (.iload_n 2, 1) := by decide +kernel
theorem dX9_takesPlace_53 : decode cX9_takesPlace 53 = .ok (.iadd, 1) := by decide +kernel
theorem dX9_takesPlace_54 : decode cX9_takesPlace 54 = .ok (.aload_n 0, 1) := by decide +kernel
theorem dX9_takesPlace_55 : decode cX9_takesPlace 55 = .ok (.getfield 22, 3) := by decide +kernel
theorem dX9_takesPlace_58 : decode cX9_takesPlace 58 = .ok (.aload_n 0, 1) := by decide +kernel
theorem dX9_takesPlace_59 : decode cX9_takesPlace 59 = .ok (.getfield 57, 3) := by decide +kernel
theorem dX9_takesPlace_62 : decode cX9_takesPlace 62 = .ok (.iaload, 1) := by decide +kernel
theorem dX9_takesPlace_63 : decode cX9_takesPlace 63 = .ok (.iload 4, 2) := by decide +kernel
theorem dX9_takesPlace_65 : decode cX9_takesPlace 65 = .ok (.ifCond .eq 8, 3) := by decide +kernel
theorem dX9_takesPlace_68 : decode cX9_takesPlace 68 = .ok (.bipush 97, 2) := by decide +kernel
theorem dX9_takesPlace_70 : decode cX9_takesPlace 70 = .ok (.goto 5, 3) := by decide +kernel
theorem dX9_takesPlace_73 : decode cX9_takesPlace 73 = .ok (.bipush 65, 2) := by decide +kernel
theorem dX9_takesPlace_75 : decode cX9_takesPlace 75 = .ok (.isub, 1) := by decide +kernel
theorem dX9_takesPlace_76 : decode cX9_takesPlace 76 = .ok (.iastore, 1) := by decide +kernel
theorem dX9_takesPlace_77 : decode cX9_takesPlace 77 = .ok (.aload_n 0, 1) := by decide +kernel
theorem dX9_takesPlace_78 : decode cX9_takesPlace 78 = .ok (.dup, 1) := by decide +kernel
theorem dX9_takesPlace_79 : decode cX9_takesPlace 79 = .ok (.getfield 57, 3) := by decide +kernel
theorem dX9_takesPlace_82 : decode cX9_takesPlace 82 = .ok (.iconst 1, 1) := by decide +kernel
theorem dX9_takesPlace_83 : decode cX9_takesPlace 83 = .ok (.iadd, 1) := by decide +kernel
theorem dX9_takesPlace_84 : decode cX9_takesPlace 84 = .ok (.putfield 57, 3) := by decide +kernel
theorem dX9_takesPlace_87 : decode cX9_takesPlace 87 = .ok (.aload_n 0, 1) := by decide +kernel
theorem dX9_takesPlace_88 : decode cX9_takesPlace 88 = .ok (.getfield 25, 3) := by decide +kernel
theorem dX9_takesPlace_91 : decode cX9_takesPlace 91 = .ok (.iload_n 1, 1) := by decide +kernel
theorem dX9_takesPlace_92 : decode cX9_takesPlace 92 = .ok (.iconst 5, 1) := by decide +kernel
theorem dX9_takesPlace_93 : decode cX9_takesPlace 93 = .ok (.iadd, 1) := by decide +kernel
theorem dX9_takesPlace_94 : decode cX9_takesPlace 94 = .ok (.dup2, 1) := by decide +kernel
theorem dX9_takesPlace_95 : decode cX9_takesPlace 95 = .ok (.iaload, 1) := by decide +kernel
theorem dX9_takesPlace_96 : decode cX9_takesPlace 96 = .ok (.aload_n 0, 1) := by decide +kernel
theorem dX9_takesPlace_97 : decode cX9_takesPlace 97 = .ok (.iconst 2, 1) := by decide +kernel
theorem dX9_takesPlace_98 : decode cX9_takesPlace 98 = .ok (.iload_n 3, 1) := by decide +kernel
theorem dX9_takesPlace_99 : decode cX9_takesPlace 99 = .ok (.imul, 1) := by decide +kernel
theorem dX9_takesPlace_100 : decode cX9_takesPlace 100 = .ok (.invokevirtual 77, 3) := by decide +kernel
theorem dX9_takesPlace_103 : decode cX9_takesPlace 103 = .ok (.iadd, 1) := by decide +kernel
theorem dX9_takesPlace_104 : decode cX9_takesPlace 104 = .ok (.iastore, 1) := by decide +kernel
theorem dX9_takesPlace_105 : decode cX9_takesPlace 105 = .ok (.aload_n 0, 1) := by decide +kernel
theorem dX9_takesPlace_106 : decode cX9_takesPlace 106 = .ok (.invokevirtual 74, 3) := by decide +kernel
theorem dX9_takesPlace_109 : decode cX9_takesPlace 109 = .ok (.aload_n 0, 1) := by decide +kernel
theorem dX9_takesPlace_110 : decode cX9_takesPlace 110 = .ok (.bipush 49, 2) := by decide +kernel
theorem dX9_takesPlace_112 : decode cX9_takesPlace 112 = .ok (.bipush 54, 2) := by decide +kernel
theorem dX9_takesPlace_114 : decode cX9_takesPlace 114 = .ok (.invokevirtual 66, 3) := by decide +kernel
theorem dX9_takesPlace_117 : decode cX9_takesPlace 117 = .ok (.ifCond .ne 8, 3) := by decide +kernel
theorem dX9_takesPlace_120 : decode cX9_takesPlace 120 = .ok (.aload_n 0, 1) := by decide +kernel
theorem dX9_takesPlace_121 : decode cX9_takesPlace 121 = .ok (.invokevirtual 70, 3) := by decide +kernel
theorem dX9_takesPlace_124 : decode cX9_takesPlace 124 = .ok (.ireturn, 1) := by decide +kernel
theorem dX9_takesPlace_125 : decode cX9_takesPlace 125 = .ok (.aload_n 0, 1) := by decide +kernel
theorem dX9_takesPlace_126 : decode cX9_takesPlace 126 = .ok (.getfield 25, 3) := by decide +kernel
theorem dX9_takesPlace_129 : decode cX9_takesPlace 129 = .ok (.iload_n 1, 1) := by decide +kernel
theorem dX9_takesPlace_130 : decode cX9_takesPlace 130 = .ok (.iload_n 2, 1) := by decide +kernel
theorem dX9_takesPlace_131 : decode cX9_takesPlace 131 = .ok (.iadd, 1) := by decide +kernel
theorem dX9_takesPlace_132 : decode cX9_takesPlace 132 = .ok (.iconst 1, 1) := by decide +kernel
theorem dX9_takesPlace_133 : decode cX9_takesPlace 133 = .ok (.iadd, 1) := by decide +kernel
theorem dX9_takesPlace_134 : decode cX9_takesPlace 134 = .ok (.aload_n 0, 1) := by decide +kernel
theorem dX9_takesPlace_135 : decode cX9_takesPlace 135 = .ok (.getfield 22, 3) := by decide +kernel
theorem dX9_takesPlace_138 : decode cX9_takesPlace 138 = .ok (.aload_n 0, 1) := by decide +kernel
theorem dX9_takesPlace_139 : decode cX9_takesPlace 139 = .ok (.getfield 57, 3) := by decide +kernel
theorem dX9_takesPlace_142 : decode cX9_takesPlace 142 = .ok (.iaload, 1) := by decide +kernel
theorem dX9_takesPlace_143 : decode cX9_takesPlace 143 = .ok (.bipush 49, 2) := by decide +kernel
theorem dX9_takesPlace_145 : decode cX9_takesPlace 145 = .ok (.isub, 1) := by decide +kernel
theorem dX9_takesPlace_146 : decode cX9_takesPlace 146 = .ok (.iastore, 1) := by decide +kernel
theorem dX9_takesPlace_147 : decode cX9_takesPlace 147 = .ok (.aload_n 0, 1) := by decide +kernel
theorem dX9_takesPlace_148 : decode cX9_takesPlace 148 = .ok (.dup, 1) := by decide +kernel
theorem dX9_takesPlace_149 : decode cX9_takesPlace 149 = .ok (.getfield 57, 3) := by decide +kernel
theorem dX9_takesPlace_152 : decode cX9_takesPlace 152 = .ok (.iconst 1, 1) := by decide +kernel
theorem dX9_takesPlace_153 : decode cX9_takesPlace 153 = .ok (.iadd, 1) := by decide +kernel
theorem dX9_takesPlace_154 : decode cX9_takesPlace 154 = .ok (.putfield 57, 3) := by decide +kernel
theorem dX9_takesPlace_157 : decode cX9_takesPlace 157 = .ok (.iconst 1, 1) := by decide +kernel
theorem dX9_takesPlace_158 : decode cX9_takesPlace 158 = .ok (.ireturn, 1) := by decide +kernel
theorem dX9_takesTerm_0 : decode cX9_takesTerm 0 = .ok (.aload_n 0, 1) := by decide +kernel
theorem dX9_takesTerm_1 : decode cX9_takesTerm 1 = .ok (.invokevirtual 74, 3) := by decide +kernel
theorem dX9_takesTerm_4 : decode cX9_takesTerm 4 = .ok (.aload_n 0, 1) := by decide +kernel
theorem dX9_takesTerm_5 : decode cX9_takesTerm 5 = .ok (.bipush 35, 2) := by decide +kernel
theorem dX9_takesTerm_7 : decode cX9_takesTerm 7 = .ok (.bipush 35, 2) := by decide +kernel
theorem dX9_takesTerm_9 : decode cX9_takesTerm 9 = .ok (.invokevirtual 66, 3) := by decide +kernel
theorem dX9_takesTerm_12 : decode cX9_takesTerm 12 = .ok (.ifCond .eq 24, 3) := by decide +kernel
theorem dX9_takesTerm_15 : decode cX9_takesTerm 15 = .ok (.aload_n 0, 1) := by decide +kernel
theorem dX9_takesTerm_16 : decode cX9_takesTerm 16 = .ok (.getfield 25, 3) := by decide +kernel
theorem dX9_takesTerm_19 : decode cX9_takesTerm 19 = .ok (.iload_n 1, 1) := by decide +kernel
theorem dX9_takesTerm_20 : decode cX9_takesTerm 20 = .ok (.iconst 0, 1) := by decide +kernel
theorem dX9_takesTerm_21 : decode cX9_takesTerm 21 = .ok (.iadd, 1) := by decide +kernel
theorem dX9_takesTerm_22 : decode cX9_takesTerm 22 = .ok (.iconst 3, 1) := by decide +kernel
theorem dX9_takesTerm_23 : decode cX9_takesTerm 23 = .ok (.iastore, 1) := by decide +kernel
theorem dX9_takesTerm_24 : decode cX9_takesTerm 24 = .ok (.aload_n 0, 1) := by decide +kernel
theorem dX9_takesTerm_25 : decode cX9_takesTerm 25 = .ok (.dup, 1) := by decide +kernel
theorem dX9_takesTerm_26 : decode cX9_takesTerm 26 = .ok (.getfield 57, 3) := by decide +kernel
theorem dX9_takesTerm_29 : decode cX9_takesTerm 29 = .ok (.iconst 1, 1) := by decide +kernel
theorem dX9_takesTerm_30 : decode cX9_takesTerm 30 = .ok (.iadd, 1) := by decide +kernel
theorem dX9_takesTerm_31 : decode cX9_takesTerm 31 = .ok (.putfield 57, 3) := by decide +kernel
theorem dX9_takesTerm_34 : decode cX9_takesTerm 34 = .ok (.iconst 1, 1) := by decide +kernel
theorem dX9_takesTerm_35 : decode cX9_takesTerm 35 = .ok (.ireturn, 1) := by decide +kernel
theorem dX9_takesTerm_36 : decode cX9_takesTerm 36 = .ok (.aload_n 0, 1) := by decide +kernel
theorem dX9_takesTerm_37 : decode cX9_takesTerm 37 = .ok (.bipush 48, 2) := by decide +kernel
theorem dX9_takesTerm_39 : decode cX9_takesTerm 39 = .ok (.bipush 57, 2) := by decide +kernel
theorem dX9_takesTerm_41 : decode cX9_takesTerm 41 = .ok (.invokevirtual 66, 3) := by decide +kernel
theorem dX9_takesTerm_44 : decode cX9_takesTerm 44 = .ok (.ifCond .eq 9, 3) := by decide +kernel
theorem dX9_takesTerm_47 : decode cX9_takesTerm 47 = .ok (.aload_n 0, 1) := by decide +kernel
theorem dX9_takesTerm_48 : decode cX9_takesTerm 48 = .ok (.iload_n 1, 1) := by decide +kernel
theorem dX9_takesTerm_49 : decode cX9_takesTerm 49 = .ok (.invokevirtual 81, 3) := by decide +kernel
theorem dX9_takesTerm_52 : decode cX9_takesTerm 52 = .ok (.ireturn, 1) := by decide +kernel
theorem dX9_takesTerm_53 : decode cX9_takesTerm 53 = .ok (.aload_n 0, 1) := by decide +kernel
theorem dX9_takesTerm_54 : decode cX9_takesTerm 54 = .ok (.getfield 25, 3) := by decide +kernel
theorem dX9_takesTerm_57 : decode cX9_takesTerm 57 = .ok (.iload_n 1, 1) := by decide +kernel
theorem dX9_takesTerm_58 : decode cX9_takesTerm 58 = .ok (.iconst 0, 1) := by decide +kernel
theorem dX9_takesTerm_59 : decode cX9_takesTerm 59 = .ok (.iadd, 1) := by decide +kernel
theorem dX9_takesTerm_60 : decode cX9_takesTerm 60 = .ok (.iconst 1, 1) := by decide +kernel
theorem dX9_takesTerm_61 : decode cX9_takesTerm 61 = .ok (.iastore, 1) := by decide +kernel
theorem dX9_takesTerm_62 : decode cX9_takesTerm 62 = .ok (.aload_n 0, 1) := by decide +kernel
theorem dX9_takesTerm_63 : decode cX9_takesTerm 63 = .ok (.iload_n 1, 1) := by decide +kernel
theorem dX9_takesTerm_64 : decode cX9_takesTerm 64 = .ok (.iconst 1, 1) := by decide +kernel
theorem dX9_takesTerm_65 : decode cX9_takesTerm 65 = .ok (.iconst 1, 1) := by decide +kernel
theorem dX9_takesTerm_66 : decode cX9_takesTerm 66 = .ok (.invokevirtual 85, 3) := by decide +kernel
theorem dX9_takesTerm_69 : decode cX9_takesTerm 69 = .ok (.ifCond .ne 5, 3) := by decide +kernel
theorem dX9_takesTerm_72 : decode cX9_takesTerm 72 = .ok (.iconst 0, 1) := by decide +kernel
theorem dX9_takesTerm_73 : decode cX9_takesTerm 73 = .ok (.ireturn, 1) := by decide +kernel
theorem dX9_takesTerm_74 : decode cX9_takesTerm 74 = .ok (.aload_n 0, 1) := by decide +kernel
theorem dX9_takesTerm_75 : decode cX9_takesTerm 75 = .ok (.invokevirtual 74, 3) := by decide +kernel
theorem dX9_takesTerm_78 : decode cX9_takesTerm 78 = .ok (.aload_n 0, 1) := by decide +kernel
theorem dX9_takesTerm_79 : decode cX9_takesTerm 79 = .ok (.bipush 58, 2) := by decide +kernel
theorem dX9_takesTerm_81 : decode cX9_takesTerm 81 = .ok (.bipush 58, 2) := by decide +kernel
theorem dX9_takesTerm_83 : decode cX9_takesTerm 83 = .ok (.invokevirtual 66, 3) := by decide +kernel
theorem dX9_takesTerm_86 : decode cX9_takesTerm 86 = .ok (.ifCond .ne 5, 3) := by decide +kernel
theorem dX9_takesTerm_89 : decode cX9_takesTerm 89 = .ok (.iconst 1, 1) := by decide +kernel
theorem dX9_takesTerm_90 : decode cX9_takesTerm 90 = .ok (.ireturn, 1) := by decide +kernel
theorem dX9_takesTerm_91 : decode cX9_takesTerm 91 = .ok (.aload_n 0, 1) := by decide +kernel
theorem dX9_takesTerm_92 : decode cX9_takesTerm 92 = .ok (.dup, 1) := by decide +kernel
theorem dX9_takesTerm_93 : decode cX9_takesTerm 93 = .ok (.getfield 57, 3) := by decide +kernel
theorem dX9_takesTerm_96 : decode cX9_takesTerm 96 = .ok (.iconst 1, 1) := by decide +kernel
theorem dX9_takesTerm_97 : decode cX9_takesTerm 97 = .ok (.iadd, 1) := by decide +kernel
theorem dX9_takesTerm_98 : decode cX9_takesTerm 98 = .ok (.putfield 57, 3) := by decide +kernel
theorem dX9_takesTerm_101 : decode cX9_takesTerm 101 = .ok (.aload_n 0, 1) := by decide +kernel
theorem dX9_takesTerm_102 : decode cX9_takesTerm 102 = .ok (.getfield 25, 3) := by decide +kernel
theorem dX9_takesTerm_105 : decode cX9_takesTerm 105 = .ok (.iload_n 1, 1) := by decide +kernel
theorem dX9_takesTerm_106 : decode cX9_takesTerm 106 = .ok (.iconst 0, 1) := by decide +kernel
theorem dX9_takesTerm_107 : decode cX9_takesTerm 107 = .ok (.iadd, 1) := by decide +kernel
theorem dX9_takesTerm_108 : decode cX9_takesTerm 108 = .ok (.iconst 2, 1) := by decide +kernel
theorem dX9_takesTerm_109 : decode cX9_takesTerm 109 = .ok (.iastore, 1) := by decide +kernel
theorem dX9_takesTerm_110 : decode cX9_takesTerm 110 = .ok (.aload_n 0, 1) := by decide +kernel
theorem dX9_takesTerm_111 : decode cX9_takesTerm 111 = .ok (.iload_n 1, 1) := by decide +kernel
theorem dX9_takesTerm_112 : decode cX9_takesTerm 112 = .ok (.iconst 3, 1) := by decide +kernel
theorem dX9_takesTerm_113 : decode cX9_takesTerm 113 = .ok (.iconst 4, 1) := by decide +kernel
theorem dX9_takesTerm_114 : decode cX9_takesTerm 114 = .ok (.invokevirtual 85, 3) := by decide +kernel
theorem dX9_takesTerm_117 : decode cX9_takesTerm 117 = .ok (.ifCond .ne 5, 3) := by decide +kernel
theorem dX9_takesTerm_120 : decode cX9_takesTerm 120 = .ok (.iconst 0, 1) := by decide +kernel
theorem dX9_takesTerm_121 : decode cX9_takesTerm 121 = .ok (.ireturn, 1) := by decide +kernel
theorem dX9_takesTerm_122 : decode cX9_takesTerm 122 = .ok (.aload_n 0, 1) := by decide +kernel
theorem dX9_takesTerm_123 : decode cX9_takesTerm 123 = .ok (.getfield 25, 3) := by decide +kernel
theorem dX9_takesTerm_126 : decode cX9_takesTerm 126 = .ok (.iload_n 1, 1) := by decide +kernel
theorem dX9_takesTerm_127 : decode cX9_takesTerm 127 = .ok (.iconst 1, 1) := by decide +kernel
theorem dX9_takesTerm_128 : decode cX9_takesTerm 128 = .ok (.iconst 3, 1) := by decide +kernel
theorem dX9_takesTerm_129 : decode cX9_takesTerm 129 = .ok (.iconst 1, 1) := by decide +kernel
theorem dX9_takesTerm_130 : decode cX9_takesTerm 130 = .ok (.invokestatic 88, 3) := by decide +kernel
theorem dX9_takesTerm_133 : decode cX9_takesTerm 133 = .ok (.aload_n 0, 1) := by decide +kernel
theorem dX9_takesTerm_134 : decode cX9_takesTerm 134 = .ok (.getfield 25, 3) := by decide +kernel
theorem dX9_takesTerm_137 : decode cX9_takesTerm 137 = .ok (.iload_n 1, 1) := by decide +kernel
theorem dX9_takesTerm_138 : decode cX9_takesTerm 138 = .ok (.iconst 2, 1) := by decide +kernel
theorem dX9_takesTerm_139 : decode cX9_takesTerm 139 = .ok (.iconst 4, 1) := by decide +kernel
theorem dX9_takesTerm_140 : decode cX9_takesTerm 140 = .ok (.iconst 2, 1) := by decide +kernel
theorem dX9_takesTerm_141 : decode cX9_takesTerm 141 = .ok (.invokestatic 88, 3) := by decide +kernel
theorem dX9_takesTerm_144 : decode cX9_takesTerm 144 = .ok (.iconst 1, 1) := by decide +kernel
theorem dX9_takesTerm_145 : decode cX9_takesTerm 145 = .ok (.ireturn, 1) := by decide +kernel
theorem dX9_isRead_0 : decode cX9_isRead 0 = .ok (.iconst 0, 1) := by decide +kernel
theorem dX9_isRead_1 : decode cX9_isRead 1 = .ok (.istore_n 1, 1) := by decide +kernel
theorem dX9_isRead_2 : decode cX9_isRead 2 = .ok (.iload_n 1, 1) := by decide +kernel
theorem dX9_isRead_3 : decode cX9_isRead 3 = .ok (.bipush 25, 2) := by decide +kernel
theorem dX9_isRead_5 : decode cX9_isRead 5 = .ok (.if_icmp .ge 16, 3) := by decide +kernel
theorem dX9_isRead_8 : decode cX9_isRead 8 = .ok (.aload_n 0, 1) := by decide +kernel
theorem dX9_isRead_9 : decode cX9_isRead 9 = .ok (.getfield 25, 3) := by decide +kernel
theorem dX9_isRead_12 : decode cX9_isRead 12 = .ok (.iload_n 1, 1) := by decide +kernel
theorem dX9_isRead_13 : decode cX9_isRead 13 = .ok (.iconst 0, 1) := by decide +kernel
theorem dX9_isRead_14 : decode cX9_isRead 14 = .ok (.iastore, 1) := by decide +kernel
theorem dX9_isRead_15 : decode cX9_isRead 15 = .ok (.iinc 1 1, 3) := by decide +kernel
theorem dX9_isRead_18 : decode cX9_isRead 18 = .ok (.goto (-16), 3) := by decide +kernel
theorem dX9_isRead_21 : decode cX9_isRead 21 = .ok (.aload_n 0, 1) := by decide +kernel
theorem dX9_isRead_22 : decode cX9_isRead 22 = .ok (.iconst 0, 1) := by decide +kernel
theorem dX9_isRead_23 : decode cX9_isRead 23 = .ok (.putfield 57, 3) := by decide +kernel
theorem dX9_isRead_26 : decode cX9_isRead 26 = .ok (.iconst 1, 1) := by decide +kernel
theorem dX9_isRead_27 : decode cX9_isRead 27 = .ok (.istore_n 1, 1) := by decide +kernel
theorem dX9_isRead_28 : decode cX9_isRead 28 = .ok (.iload_n 1, 1) := by decide +kernel
theorem dX9_isRead_29 : decode cX9_isRead 29 = .ok (.ifCond .eq 89, 3) := by decide +kernel
theorem dX9_isRead_32 : decode cX9_isRead 32 = .ok (.aload_n 0, 1) := by decide +kernel
theorem dX9_isRead_33 : decode cX9_isRead 33 = .ok (.invokevirtual 74, 3) := by decide +kernel
theorem dX9_isRead_36 : decode cX9_isRead 36 = .ok (.aload_n 0, 1) := by decide +kernel
theorem dX9_isRead_37 : decode cX9_isRead 37 = .ok (.getfield 25, 3) := by decide +kernel
theorem dX9_isRead_40 : decode cX9_isRead 40 = .ok (.iconst 0, 1) := by decide +kernel
theorem dX9_isRead_41 : decode cX9_isRead 41 = .ok (.iaload, 1) := by decide +kernel
theorem dX9_isRead_42 : decode cX9_isRead 42 = .ok (.iconst 4, 1) := by decide +kernel
theorem dX9_isRead_43 : decode cX9_isRead 43 = .ok (.if_icmp .eq 21, 3) := by decide +kernel
theorem dX9_isRead_46 : decode cX9_isRead 46 = .ok (.aload_n 0, 1) := by decide +kernel
theorem dX9_isRead_47 : decode cX9_isRead 47 = .ok (.iconst 1, 1) := by decide +kernel
theorem dX9_isRead_48 : decode cX9_isRead 48 = .ok (.bipush 6, 2) := by decide +kernel
theorem dX9_isRead_50 : decode cX9_isRead 50 = .ok (.aload_n 0, 1) := by decide +kernel
theorem dX9_isRead_51 : decode cX9_isRead 51 = .ok (.getfield 25, 3) := by decide +kernel
theorem dX9_isRead_54 : decode cX9_isRead 54 = .ok (.iconst 0, 1) := by decide +kernel
theorem dX9_isRead_55 : decode cX9_isRead 55 = .ok (.iaload, 1) := by decide +kernel
theorem dX9_isRead_56 : decode cX9_isRead 56 = .ok (.imul, 1) := by decide +kernel
theorem dX9_isRead_57 : decode cX9_isRead 57 = .ok (.iadd, 1) := by decide +kernel
theorem dX9_isRead_58 : decode cX9_isRead 58 = .ok (.invokevirtual 92, 3) := by decide +kernel
theorem dX9_isRead_61 : decode cX9_isRead 61 = .ok (.ifCond .ne 13, 3) := by decide +kernel
theorem dX9_isRead_64 : decode cX9_isRead 64 = .ok (.aload_n 0, 1) := by decide +kernel
theorem dX9_isRead_65 : decode cX9_isRead 65 = .ok (.aload_n 0, 1) := by decide +kernel
theorem dX9_isRead_66 : decode cX9_isRead 66 = .ok (.getfield 57, 3) := by decide +kernel
theorem dX9_isRead_69 : decode cX9_isRead 69 = .ok (.putfield 63, 3) := by decide +kernel
theorem dX9_isRead_72 : decode cX9_isRead 72 = .ok (.iconst 0, 1) := by decide +kernel
theorem dX9_isRead_73 : decode cX9_isRead 73 = .ok (.ireturn, 1) := by decide +kernel
theorem dX9_isRead_74 : decode cX9_isRead 74 = .ok (.aload_n 0, 1) := by decide +kernel
theorem dX9_isRead_75 : decode cX9_isRead 75 = .ok (.getfield 25, 3) := by decide +kernel
theorem dX9_isRead_78 : decode cX9_isRead 78 = .ok (.iconst 0, 1) := by decide +kernel
theorem dX9_isRead_79 : decode cX9_isRead 79 = .ok (.dup2, 1) := by decide +kernel
theorem dX9_isRead_80 : decode cX9_isRead 80 = .ok (.iaload, 1) := by decide +kernel
theorem dX9_isRead_81 : decode cX9_isRead 81 = .ok (.iconst 1, 1) := by decide +kernel
theorem dX9_isRead_82 : decode cX9_isRead 82 = .ok (.iadd, 1) := by decide +kernel
theorem dX9_isRead_83 : decode cX9_isRead 83 = .ok (.iastore, 1) := by decide +kernel
theorem dX9_isRead_84 : decode cX9_isRead 84 = .ok (.aload_n 0, 1) := by decide +kernel
theorem dX9_isRead_85 : decode cX9_isRead 85 = .ok (.invokevirtual 74, 3) := by decide +kernel
theorem dX9_isRead_88 : decode cX9_isRead 88 = .ok (.aload_n 0, 1) := by decide +kernel
theorem dX9_isRead_89 : decode cX9_isRead 89 = .ok (.bipush 43, 2) := by decide +kernel
theorem dX9_isRead_91 : decode cX9_isRead 91 = .ok (.bipush 43, 2) := by decide +kernel
theorem dX9_isRead_93 : decode cX9_isRead 93 = .ok (.invokevirtual 66, 3) := by decide +kernel
theorem dX9_isRead_96 : decode cX9_isRead 96 = .ok (.istore_n 1, 1) := by decide +kernel
theorem dX9_isRead_97 : decode cX9_isRead 97 = .ok (.aload_n 0, 1) := by decide +kernel
theorem dX9_isRead_98 : decode cX9_isRead 98 = .ok (.dup, 1) := by decide +kernel
theorem dX9_isRead_99 : decode cX9_isRead 99 = .ok (.getfield 57, 3) := by decide +kernel
theorem dX9_isRead_102 : decode cX9_isRead 102 = .ok (.iload_n 1, 1) := by decide +kernel
theorem dX9_isRead_103 : decode cX9_isRead 103 = .ok (.ifCond .eq 7, 3) := by decide +kernel
theorem dX9_isRead_106 : decode cX9_isRead 106 = .ok (.iconst 1, 1) := by decide +kernel
theorem dX9_isRead_107 : decode cX9_isRead 107 = .ok (.goto 4, 3) := by decide +kernel
theorem dX9_isRead_110 : decode cX9_isRead 110 = .ok (.iconst 0, 1) := by decide +kernel
theorem dX9_isRead_111 : decode cX9_isRead 111 = .ok (.iadd, 1) := by decide +kernel
theorem dX9_isRead_112 : decode cX9_isRead 112 = .ok (.putfield 57, 3) := by decide +kernel
theorem dX9_isRead_115 : decode cX9_isRead 115 = .ok (.goto (-87), 3) := by decide +kernel
theorem dX9_isRead_118 : decode cX9_isRead 118 = .ok (.aload_n 0, 1) := by decide +kernel
theorem dX9_isRead_119 : decode cX9_isRead 119 = .ok (.getfield 57, 3) := by decide +kernel
theorem dX9_isRead_122 : decode cX9_isRead 122 = .ok (.aload_n 0, 1) := by decide +kernel
theorem dX9_isRead_123 : decode cX9_isRead 123 = .ok (.getfield 60, 3) := by decide +kernel
theorem dX9_isRead_126 : decode cX9_isRead 126 = .ok (.if_icmp .eq 10, 3) := by decide +kernel
theorem dX9_isRead_129 : decode cX9_isRead 129 = .ok (.aload_n 0, 1) := by decide +kernel
theorem dX9_isRead_130 : decode cX9_isRead 130 = .ok (.invokevirtual 70, 3) := by decide +kernel
theorem dX9_isRead_133 : decode cX9_isRead 133 = .ok (.ifCond .eq 7, 3) := by decide +kernel
theorem dX9_isRead_136 : decode cX9_isRead 136 = .ok (.iconst 1, 1) := by decide +kernel
theorem dX9_isRead_137 : decode cX9_isRead 137 = .ok (.goto 4, 3) := by decide +kernel
theorem dX9_isRead_140 : decode cX9_isRead 140 = .ok (.iconst 0, 1) := by decide +kernel
theorem dX9_isRead_141 : decode cX9_isRead 141 = .ok (.ireturn, 1) := by decide +kernel
theorem dX9_type_0 : decode cX9_type 0 = .ok (.iload_n 1, 1) := by decide +kernel
theorem dX9_type_1 : decode cX9_type 1 = .ok (.iconst 0, 1) := by decide +kernel
theorem dX9_type_2 : decode cX9_type 2 = .ok (.bipush 127, 2) := by decide +kernel
theorem dX9_type_4 : decode cX9_type 4 = .ok (.invokestatic 53, 3) := by decide +kernel
theorem dX9_type_7 : decode cX9_type 7 = .ok (.ifCond .ne 8, 3) := by decide +kernel
theorem dX9_type_10 : decode cX9_type 10 = .ok (.aload_n 0, 1) := by decide +kernel
theorem dX9_type_11 : decode cX9_type 11 = .ok (.invokevirtual 95, 3) := by decide +kernel
theorem dX9_type_14 : decode cX9_type 14 = .ok (.ireturn, 1) := by decide +kernel
theorem dX9_type_15 : decode cX9_type 15 = .ok (.aload_n 0, 1) := by decide +kernel
theorem dX9_type_16 : decode cX9_type 16 = .ok (.getfield 60, 3) := by decide +kernel
theorem dX9_type_19 : decode cX9_type 19 = .ok (.bipush 60, 2) := by decide +kernel
theorem dX9_type_21 : decode cX9_type 21 = .ok (.if_icmp .ne 16, 3) := by decide +kernel
theorem dX9_type_24 : decode cX9_type 24 = .ok (.aload_n 0, 1) := by decide +kernel
theorem dX9_type_25 : decode cX9_type 25 = .ok (.getfield 19, 3) := by decide +kernel
theorem dX9_type_28 : decode cX9_type 28 = .ok (.iconst 2, 1) := by decide +kernel
theorem dX9_type_29 : decode cX9_type 29 = .ok (.dup2, 1) := by decide +kernel
theorem dX9_type_30 : decode cX9_type 30 = .ok (.iaload, 1) := by decide +kernel
theorem dX9_type_31 : decode cX9_type 31 = .ok (.iconst 1, 1) := by decide +kernel
theorem dX9_type_32 : decode cX9_type 32 = .ok (.iadd, 1) := by decide +kernel
theorem dX9_type_33 : decode cX9_type 33 = .ok (.iastore, 1) := by decide +kernel
theorem dX9_type_34 : decode cX9_type 34 = .ok (.bipush (-4), 2) := by decide +kernel
theorem dX9_type_36 : decode cX9_type 36 = .ok (.ireturn, 1) := by decide +kernel
theorem dX9_type_37 : decode cX9_type 37 = .ok (.aload_n 0, 1) := by decide +kernel
theorem dX9_type_38 : decode cX9_type 38 = .ok (.getfield 22, 3) := by decide +kernel
theorem dX9_type_41 : decode cX9_type 41 = .ok (.aload_n 0, 1) := by decide +kernel
theorem dX9_type_42 : decode cX9_type 42 = .ok (.getfield 60, 3) := by decide +kernel
theorem dX9_type_45 : decode cX9_type 45 = .ok (.iload_n 1, 1) := by decide +kernel
theorem dX9_type_46 : decode cX9_type 46 = .ok (.iastore, 1) := by decide +kernel
theorem dX9_type_47 : decode cX9_type 47 = .ok (.aload_n 0, 1) := by decide +kernel
theorem dX9_type_48 : decode cX9_type 48 = .ok (.dup, 1) := by decide +kernel
theorem dX9_type_49 : decode cX9_type 49 = .ok (.getfield 60, 3) := by decide +kernel
theorem dX9_type_52 : decode cX9_type 52 = .ok (.iconst 1, 1) := by decide +kernel
theorem dX9_type_53 : decode cX9_type 53 = .ok (.iadd, 1) := by decide +kernel
theorem dX9_type_54 : decode cX9_type 54 = .ok (.putfield 60, 3) := by decide +kernel
theorem dX9_type_57 : decode cX9_type 57 = .ok (.aload_n 0, 1) := by decide +kernel
theorem dX9_type_58 : decode cX9_type 58 = .ok (.getfield 60, 3) := by decide +kernel
theorem dX9_type_61 : decode cX9_type 61 = .ok (.ireturn, 1) := by decide +kernel
theorem dX9_clear_0 : decode cX9_clear 0 = .ok (.aload_n 0, 1) := by decide +kernel
theorem dX9_clear_1 : decode cX9_clear 1 = .ok (.getfield 60, 3) := by decide +kernel
theorem dX9_clear_4 : decode cX9_clear 4 = .ok (.istore_n 1, 1) := by decide +kernel
theorem dX9_clear_5 : decode cX9_clear 5 = .ok (.aload_n 0, 1) := by decide +kernel
theorem dX9_clear_6 : decode cX9_clear 6 = .ok (.iconst 0, 1) := by decide +kernel
theorem dX9_clear_7 : decode cX9_clear 7 = .ok (.putfield 60, 3) := by decide +kernel
theorem dX9_clear_10 : decode cX9_clear 10 = .ok (.iload_n 1, 1) := by decide +kernel
theorem dX9_clear_11 : decode cX9_clear 11 = .ok (.ireturn, 1) := by decide +kernel
theorem dX9_put_0 : decode cX9_put 0 = .ok (.iload_n 1, 1) := by decide +kernel
theorem dX9_put_1 : decode cX9_put 1 = .ok (.iload_n 2, 1) := by decide +kernel
theorem dX9_put_2 : decode cX9_put 2 = .ok (.invokestatic 99, 3) := by decide +kernel
theorem dX9_put_5 : decode cX9_put 5 = .ok (.ifCond .ne 8, 3) := by decide +kernel
theorem dX9_put_8 : decode cX9_put 8 = .ok (.aload_n 0, 1) := by decide +kernel
theorem dX9_put_9 : decode cX9_put 9 = .ok (.invokevirtual 95, 3) := by decide +kernel
theorem dX9_put_12 : decode cX9_put 12 = .ok (.ireturn, 1) := by decide +kernel
theorem dX9_put_13 : decode cX9_put 13 = .ok (.aload_n 0, 1) := by decide +kernel
theorem dX9_put_14 : decode cX9_put 14 = .ok (.invokevirtual 102, 3) := by decide +kernel
theorem dX9_put_17 : decode cX9_put 17 = .ok (.ifCond .ne 11, 3) := by decide +kernel
theorem dX9_put_20 : decode cX9_put 20 = .ok (.bipush (-10), 2) := by decide +kernel
theorem dX9_put_22 : decode cX9_put 22 = .ok (.aload_n 0, 1) := by decide +kernel
theorem dX9_put_23 : decode cX9_put 23 = .ok (.getfield 63, 3) := by decide +kernel
theorem dX9_put_26 : decode cX9_put 26 = .ok (.isub, 1) := by decide +kernel
theorem dX9_put_27 : decode cX9_put 27 = .ok (.ireturn, 1) := by decide +kernel
theorem dX9_put_28 : decode cX9_put 28 = .ok (.aload_n 0, 1) := by decide +kernel
theorem dX9_put_29 : decode cX9_put 29 = .ok (.invokevirtual 105, 3) := by decide +kernel
theorem dX9_put_32 : decode cX9_put 32 = .ok (.aload_n 0, 1) := by decide +kernel
theorem dX9_put_33 : decode cX9_put 33 = .ok (.invokevirtual 108, 3) := by decide +kernel
theorem dX9_put_36 : decode cX9_put 36 = .ok (.iconst 0, 1) := by decide +kernel
theorem dX9_put_37 : decode cX9_put 37 = .ok (.istore_n 3, 1) := by decide +kernel
theorem dX9_put_38 : decode cX9_put 38 = .ok (.iload_n 3, 1) := by decide +kernel
theorem dX9_put_39 : decode cX9_put 39 = .ok (.bipush 25, 2) := by decide +kernel
theorem dX9_put_41 : decode cX9_put 41 = .ok (.if_icmp .ge 27, 3) := by decide +kernel
theorem dX9_put_44 : decode cX9_put 44 = .ok (.aload_n 0, 1) := by decide +kernel
theorem dX9_put_45 : decode cX9_put 45 = .ok (.getfield 7, 3) := by decide +kernel
theorem dX9_put_48 : decode cX9_put 48 = .ok (.iload_n 1, 1) := by decide +kernel
theorem dX9_put_49 : decode cX9_put 49 = .ok (.iload_n 2, 1) := by decide +kernel
theorem dX9_put_50 : decode cX9_put 50 = .ok (.invokestatic 111, 3) := by decide +kernel
theorem dX9_put_53 : decode cX9_put 53 = .ok (.iload_n 3, 1) := by decide +kernel
theorem dX9_put_54 : decode cX9_put 54 = .ok (.iadd, 1) := by decide +kernel
theorem dX9_put_55 : decode cX9_put 55 = .ok (.aload_n 0, 1) := by decide +kernel
theorem dX9_put_56 : decode cX9_put 56 = .ok (.getfield 25, 3) := by decide +kernel
theorem dX9_put_59 : decode cX9_put 59 = .ok (.iload_n 3, 1) := by decide +kernel
theorem dX9_put_60 : decode cX9_put 60 = .ok (.iaload, 1) := by decide +kernel
theorem dX9_put_61 : decode cX9_put 61 = .ok (.iastore, 1) := by decide +kernel
theorem dX9_put_62 : decode cX9_put 62 = .ok (.iinc 3 1, 3) := by decide +kernel
theorem dX9_put_65 : decode cX9_put 65 = .ok (.goto (-27), 3) := by decide +kernel
theorem dX9_put_68 : decode cX9_put 68 = .ok (.aload_n 0, 1) := by decide +kernel
theorem dX9_put_69 : decode cX9_put 69 = .ok (.getfield 25, 3) := by decide +kernel
theorem dX9_put_72 : decode cX9_put 72 = .ok (.iconst 0, 1) := by decide +kernel
theorem dX9_put_73 : decode cX9_put 73 = .ok (.iaload, 1) := by decide +kernel
theorem dX9_put_74 : decode cX9_put 74 = .ok (.ireturn, 1) := by decide +kernel
theorem dX9_empties_0 : decode cX9_empties 0 = .ok (.iload_n 1, 1) := by decide +kernel
theorem dX9_empties_1 : decode cX9_empties 1 = .ok (.iload_n 2, 1) := by decide +kernel
theorem dX9_empties_2 : decode cX9_empties 2 = .ok (.invokestatic 99, 3) := by decide +kernel
theorem dX9_empties_5 : decode cX9_empties 5 = .ok (.ifCond .ne 8, 3) := by decide +kernel
theorem dX9_empties_8 : decode cX9_empties 8 = .ok (.aload_n 0, 1) := by decide +kernel
theorem dX9_empties_9 : decode cX9_empties 9 = .ok (.invokevirtual 95, 3) := by decide +kernel
theorem dX9_empties_12 : decode cX9_empties 12 = .ok (.ireturn, 1) := by decide +kernel
theorem dX9_empties_13 : decode cX9_empties 13 = .ok (.aload_n 0, 1) := by decide +kernel
theorem dX9_empties_14 : decode cX9_empties 14 = .ok (.invokevirtual 105, 3) := by decide +kernel
theorem dX9_empties_17 : decode cX9_empties 17 = .ok (.aload_n 0, 1) := by decide +kernel
theorem dX9_empties_18 : decode cX9_empties 18 = .ok (.invokevirtual 108, 3) := by decide +kernel
theorem dX9_empties_21 : decode cX9_empties 21 = .ok (.aload_n 0, 1) := by decide +kernel
theorem dX9_empties_22 : decode cX9_empties 22 = .ok (.getfield 7, 3) := by decide +kernel
theorem dX9_empties_25 : decode cX9_empties 25 = .ok (.iload_n 1, 1) := by decide +kernel
theorem dX9_empties_26 : decode cX9_empties 26 = .ok (.iload_n 2, 1) := by decide +kernel
theorem dX9_empties_27 : decode cX9_empties 27 = .ok (.invokestatic 111, 3) := by decide +kernel
theorem dX9_empties_30 : decode cX9_empties 30 = .ok (.iaload, 1) := by decide +kernel
theorem dX9_empties_31 : decode cX9_empties 31 = .ok (.istore_n 3, 1) := by decide +kernel
theorem dX9_empties_32 : decode cX9_empties 32 = .ok (.aload_n 0, 1) := by decide +kernel
theorem dX9_empties_33 : decode cX9_empties 33 = .ok (.iload_n 1, 1) := by decide +kernel
theorem dX9_empties_34 : decode cX9_empties 34 = .ok (.iload_n 2, 1) := by decide +kernel
theorem dX9_empties_35 : decode cX9_empties 35 = .ok (.invokestatic 111, 3) := by decide +kernel
theorem dX9_empties_38 : decode cX9_empties 38 = .ok (.invokevirtual 115, 3) := by decide +kernel
theorem dX9_empties_41 : decode cX9_empties 41 = .ok (.iload_n 3, 1) := by decide +kernel
theorem dX9_empties_42 : decode cX9_empties 42 = .ok (.ireturn, 1) := by decide +kernel
theorem dX9_cellBy_0 : decode cX9_cellBy 0 = .ok (.iload_n 0, 1) := by decide +kernel
theorem dX9_cellBy_1 : decode cX9_cellBy 1 = .ok (.ifCond .ne 11, 3) := by decide +kernel
theorem dX9_cellBy_4 : decode cX9_cellBy 4 = .ok (.iload_n 2, 1) := by decide +kernel
theorem dX9_cellBy_5 : decode cX9_cellBy 5 = .ok (.iload_n 1, 1) := by decide +kernel
theorem dX9_cellBy_6 : decode cX9_cellBy 6 = .ok (.invokestatic 111, 3) := by decide +kernel
theorem dX9_cellBy_9 : decode cX9_cellBy 9 = .ok (.goto 8, 3) := by decide +kernel
theorem dX9_cellBy_12 : decode cX9_cellBy 12 = .ok (.iload_n 1, 1) := by decide +kernel
theorem dX9_cellBy_13 : decode cX9_cellBy 13 = .ok (.iload_n 2, 1) := by decide +kernel
theorem dX9_cellBy_14 : decode cX9_cellBy 14 = .ok (.invokestatic 111, 3) := by decide +kernel
theorem dX9_cellBy_17 : decode cX9_cellBy 17 = .ok (.ireturn, 1) := by decide +kernel
theorem dX9_lineBehind_0 : decode cX9_lineBehind 0 = .ok (.iload_n 2, 1) := by decide +kernel
theorem dX9_lineBehind_1 : decode cX9_lineBehind 1 = .ok (.ifCond .le 27, 3) := by decide +kernel
theorem dX9_lineBehind_4 : decode cX9_lineBehind 4 = .ok (.iload_n 0, 1) := by decide +kernel
theorem dX9_lineBehind_5 : decode cX9_lineBehind 5 = .ok (.iload_n 1, 1) := by decide +kernel
theorem dX9_lineBehind_6 : decode cX9_lineBehind 6 = .ok (.if_icmp .ge 7, 3) := by decide +kernel
theorem dX9_lineBehind_9 : decode cX9_lineBehind 9 = .ok (.iload_n 0, 1) := by decide +kernel
theorem dX9_lineBehind_10 : decode cX9_lineBehind 10 = .ok (.goto 17, 3) := by decide +kernel
theorem dX9_lineBehind_13 : decode cX9_lineBehind 13 = .ok (.iload_n 0, 1) := by decide +kernel
theorem dX9_lineBehind_14 : decode cX9_lineBehind 14 = .ok (.iload_n 2, 1) := by decide +kernel
theorem dX9_lineBehind_15 : decode cX9_lineBehind 15 = .ok (.iadd, 1) := by decide +kernel
theorem dX9_lineBehind_16 : decode cX9_lineBehind 16 = .ok (.iconst 5, 1) := by decide +kernel
theorem dX9_lineBehind_17 : decode cX9_lineBehind 17 = .ok (.if_icmp .le 7, 3) := by decide +kernel
theorem dX9_lineBehind_20 : decode cX9_lineBehind 20 = .ok (.iconst (-1), 1) := by decide +kernel
theorem dX9_lineBehind_21 : decode cX9_lineBehind 21 = .ok (.goto 6, 3) := by decide +kernel
theorem dX9_lineBehind_24 : decode cX9_lineBehind 24 = .ok (.iload_n 0, 1) := by decide +kernel
theorem dX9_lineBehind_25 : decode cX9_lineBehind 25 = .ok (.iload_n 2, 1) := by decide +kernel
theorem dX9_lineBehind_26 : decode cX9_lineBehind 26 = .ok (.iadd, 1) := by decide +kernel
theorem dX9_lineBehind_27 : decode cX9_lineBehind 27 = .ok (.ireturn, 1) := by decide +kernel
theorem dX9_lineBehind_28 : decode cX9_lineBehind 28 = .ok (.iload_n 0, 1) := by decide +kernel
theorem dX9_lineBehind_29 : decode cX9_lineBehind 29 = .ok (.iload_n 1, 1) := by decide +kernel
theorem dX9_lineBehind_30 : decode cX9_lineBehind 30 = .ok (.if_icmp .ge 7, 3) := by decide +kernel
theorem dX9_lineBehind_33 : decode cX9_lineBehind 33 = .ok (.iload_n 0, 1) := by decide +kernel
theorem dX9_lineBehind_34 : decode cX9_lineBehind 34 = .ok (.goto 17, 3) := by decide +kernel
theorem dX9_lineBehind_37 : decode cX9_lineBehind 37 = .ok (.iload_n 0, 1) := by decide +kernel
theorem dX9_lineBehind_38 : decode cX9_lineBehind 38 = .ok (.iload_n 1, 1) := by decide +kernel
theorem dX9_lineBehind_39 : decode cX9_lineBehind 39 = .ok (.iload_n 2, 1) := by decide +kernel
theorem dX9_lineBehind_40 : decode cX9_lineBehind 40 = .ok (.isub, 1) := by decide +kernel
theorem dX9_lineBehind_41 : decode cX9_lineBehind 41 = .ok (.if_icmp .ge 7, 3) := by decide +kernel
theorem dX9_lineBehind_44 : decode cX9_lineBehind 44 = .ok (.iconst (-1), 1) := by decide +kernel
theorem dX9_lineBehind_45 : decode cX9_lineBehind 45 = .ok (.goto 6, 3) := by decide +kernel
theorem dX9_lineBehind_48 : decode cX9_lineBehind 48 = .ok (.iload_n 0, 1) := by decide +kernel
theorem dX9_lineBehind_49 : decode cX9_lineBehind 49 = .ok (.iload_n 2, 1) := by decide +kernel
theorem dX9_lineBehind_50 : decode cX9_lineBehind 50 = .ok (.iadd, 1) := by decide +kernel
theorem dX9_lineBehind_51 : decode cX9_lineBehind 51 = .ok (.ireturn, 1) := by decide +kernel
theorem dX9_shiftsCells_0 : decode cX9_shiftsCells 0 = .ok (.iconst 0, 1) := by decide +kernel
theorem dX9_shiftsCells_1 : decode cX9_shiftsCells 1 = .ok (.istore 4, 2) := by decide +kernel
theorem dX9_shiftsCells_3 : decode cX9_shiftsCells 3 = .ok (.iload 4, 2) := by decide +kernel
theorem dX9_shiftsCells_5 : decode cX9_shiftsCells 5 = .ok (.bipush 36, 2) := by decide +kernel
theorem dX9_shiftsCells_7 : decode cX9_shiftsCells 7 = .ok (.if_icmp .ge 18, 3) := by decide +kernel
theorem dX9_shiftsCells_10 : decode cX9_shiftsCells 10 = .ok (.aload_n 0, 1) := by decide +kernel
theorem dX9_shiftsCells_11 : decode cX9_shiftsCells 11 = .ok (.bipush 25, 2) := by decide +kernel
theorem dX9_shiftsCells_13 : decode cX9_shiftsCells 13 = .ok (.iload 4, 2) := by decide +kernel
theorem dX9_shiftsCells_15 : decode cX9_shiftsCells 15 = .ok (.imul, 1) := by decide +kernel
theorem dX9_shiftsCells_16 : decode cX9_shiftsCells 16 = .ok (.invokevirtual 115, 3) := by decide +kernel
theorem dX9_shiftsCells_19 : decode cX9_shiftsCells 19 = .ok (.iinc 4 1, 3) := by decide +kernel
theorem dX9_shiftsCells_22 : decode cX9_shiftsCells 22 = .ok (.goto (-19), 3) := by decide +kernel
theorem dX9_shiftsCells_25 : decode cX9_shiftsCells 25 = .ok (.iconst 0, 1) := by decide +kernel
theorem dX9_shiftsCells_26 : decode cX9_shiftsCells 26 = .ok (.istore 4, 2) := by decide +kernel
theorem dX9_shiftsCells_28 : decode cX9_shiftsCells 28 = .ok (.iload 4, 2) := by decide +kernel
theorem dX9_shiftsCells_30 : decode cX9_shiftsCells 30 = .ok (.bipush 6, 2) := by decide +kernel
theorem dX9_shiftsCells_32 : decode cX9_shiftsCells 32 = .ok (.if_icmp .ge 60, 3) := by decide +kernel
theorem dX9_shiftsCells_35 : decode cX9_shiftsCells 35 = .ok (.iload 4, 2) := by decide +kernel
theorem dX9_shiftsCells_37 : decode cX9_shiftsCells 37 = .ok (.iload_n 2, 1) := by decide +kernel
theorem dX9_shiftsCells_38 : decode cX9_shiftsCells 38 = .ok (.iload_n 3, 1) := by decide +kernel
theorem dX9_shiftsCells_39 : decode cX9_shiftsCells 39 = .ok (.invokestatic 119, 3) := by decide +kernel
theorem dX9_shiftsCells_42 : decode cX9_shiftsCells 42 = .ok (.istore 5, 2) := by decide +kernel
theorem dX9_shiftsCells_44 : decode cX9_shiftsCells 44 = .ok (.iconst 0, 1) := by decide +kernel
theorem dX9_shiftsCells_45 : decode cX9_shiftsCells 45 = .ok (.istore 6, 2) := by decide +kernel
theorem dX9_shiftsCells_47 : decode cX9_shiftsCells 47 = .ok (.iload 6, 2) := by decide +kernel
theorem dX9_shiftsCells_49 : decode cX9_shiftsCells 49 = .ok (.bipush 6, 2) := by decide +kernel
theorem dX9_shiftsCells_51 : decode cX9_shiftsCells 51 = .ok (.if_icmp .ge 35, 3) := by decide +kernel
theorem dX9_shiftsCells_54 : decode cX9_shiftsCells 54 = .ok (.iload 5, 2) := by decide +kernel
theorem dX9_shiftsCells_56 : decode cX9_shiftsCells 56 = .ok (.iconst (-1), 1) := by decide +kernel
theorem dX9_shiftsCells_57 : decode cX9_shiftsCells 57 = .ok (.if_icmp .eq 29, 3) := by decide +kernel
theorem dX9_shiftsCells_60 : decode cX9_shiftsCells 60 = .ok (.aload_n 0, 1) := by decide +kernel
theorem dX9_shiftsCells_61 : decode cX9_shiftsCells 61 = .ok (.iload_n 1, 1) := by decide +kernel
theorem dX9_shiftsCells_62 : decode cX9_shiftsCells 62 = .ok (.iload 5, 2) := by decide +kernel
theorem dX9_shiftsCells_64 : decode cX9_shiftsCells 64 = .ok (.iload 6, 2) := by decide +kernel
theorem dX9_shiftsCells_66 : decode cX9_shiftsCells 66 = .ok (.invokestatic 123, 3) := by decide +kernel
theorem dX9_shiftsCells_69 : decode cX9_shiftsCells 69 = .ok (.iload_n 1, 1) := by decide +kernel
theorem dX9_shiftsCells_70 : decode cX9_shiftsCells 70 = .ok (.iload 4, 2) := by decide +kernel
theorem dX9_shiftsCells_72 : decode cX9_shiftsCells 72 = .ok (.iload 6, 2) := by decide +kernel
theorem dX9_shiftsCells_74 : decode cX9_shiftsCells 74 = .ok (.invokestatic 123, 3) := by decide +kernel
theorem dX9_shiftsCells_77 : decode cX9_shiftsCells 77 = .ok (.invokevirtual 126, 3) := by decide +kernel
theorem dX9_shiftsCells_80 : decode cX9_shiftsCells 80 = .ok (.iinc 6 1, 3) := by decide +kernel
theorem dX9_shiftsCells_83 : decode cX9_shiftsCells 83 = .ok (.goto (-36), 3) := by decide +kernel
theorem dX9_shiftsCells_86 : decode cX9_shiftsCells 86 = .ok (.iinc 4 1, 3) := by decide +kernel
theorem dX9_shiftsCells_89 : decode cX9_shiftsCells 89 = .ok (.goto (-61), 3) := by decide +kernel
theorem dX9_shiftsCells_92 : decode cX9_shiftsCells 92 = .ok (.return_, 1) := by decide +kernel
theorem dX9_shiftsPlace_0 : decode cX9_shiftsPlace 0 = .ok (.aload_n 0, 1) := by decide +kernel
theorem dX9_shiftsPlace_1 : decode cX9_shiftsPlace 1 = .ok (.getfield 7, 3) := by decide +kernel
theorem dX9_shiftsPlace_4 : decode cX9_shiftsPlace 4 = .ok (.iload_n 1, 1) := by decide +kernel
theorem dX9_shiftsPlace_5 : decode cX9_shiftsPlace 5 = .ok (.iload_n 2, 1) := by decide +kernel
theorem dX9_shiftsPlace_6 : decode cX9_shiftsPlace 6 = .ok (.iadd, 1) := by decide +kernel
theorem dX9_shiftsPlace_7 : decode cX9_shiftsPlace 7 = .ok (.iaload, 1) := by decide +kernel
theorem dX9_shiftsPlace_8 : decode cX9_shiftsPlace 8 = .ok (.iload_n 3, 1) := by decide +kernel
theorem dX9_shiftsPlace_9 : decode cX9_shiftsPlace 9 = .ok (.iload 4, 2) := by decide +kernel
theorem dX9_shiftsPlace_11 : decode cX9_shiftsPlace 11 = .ok (.invokestatic 119, 3) := by decide +kernel
theorem dX9_shiftsPlace_14 : decode cX9_shiftsPlace 14 = .ok (.istore 5, 2) := by decide +kernel
theorem dX9_shiftsPlace_16 : decode cX9_shiftsPlace 16 = .ok (.iload 5, 2) := by decide +kernel
theorem dX9_shiftsPlace_18 : decode cX9_shiftsPlace 18 = .ok (.iconst (-1), 1) := by decide +kernel
theorem dX9_shiftsPlace_19 : decode cX9_shiftsPlace 19 = .ok (.if_icmp .ne 11, 3) := by decide +kernel
theorem dX9_shiftsPlace_22 : decode cX9_shiftsPlace 22 = .ok (.aload_n 0, 1) := by decide +kernel
theorem dX9_shiftsPlace_23 : decode cX9_shiftsPlace 23 = .ok (.iload_n 1, 1) := by decide +kernel
theorem dX9_shiftsPlace_24 : decode cX9_shiftsPlace 24 = .ok (.invokevirtual 130, 3) := by decide +kernel
theorem dX9_shiftsPlace_27 : decode cX9_shiftsPlace 27 = .ok (.goto 13, 3) := by decide +kernel
theorem dX9_shiftsPlace_30 : decode cX9_shiftsPlace 30 = .ok (.aload_n 0, 1) := by decide +kernel
theorem dX9_shiftsPlace_31 : decode cX9_shiftsPlace 31 = .ok (.getfield 7, 3) := by decide +kernel
theorem dX9_shiftsPlace_34 : decode cX9_shiftsPlace 34 = .ok (.iload_n 1, 1) := by decide +kernel
theorem dX9_shiftsPlace_35 : decode cX9_shiftsPlace 35 = .ok (.iload_n 2, 1) := by decide +kernel
theorem dX9_shiftsPlace_36 : decode cX9_shiftsPlace 36 = .ok (.iadd, 1) := by decide +kernel
theorem dX9_shiftsPlace_37 : decode cX9_shiftsPlace 37 = .ok (.iload 5, 2) := by decide +kernel
theorem dX9_shiftsPlace_39 : decode cX9_shiftsPlace 39 = .ok (.iastore, 1) := by decide +kernel
theorem dX9_shiftsPlace_40 : decode cX9_shiftsPlace 40 = .ok (.return_, 1) := by decide +kernel
theorem dX9_shiftsBlock_0 : decode cX9_shiftsBlock 0 = .ok (.aload_n 0, 1) := by decide +kernel
theorem dX9_shiftsBlock_1 : decode cX9_shiftsBlock 1 = .ok (.getfield 7, 3) := by decide +kernel
theorem dX9_shiftsBlock_4 : decode cX9_shiftsBlock 4 = .ok (.iload_n 1, 1) := by decide +kernel
theorem dX9_shiftsBlock_5 : decode cX9_shiftsBlock 5 = .ok (.iload_n 2, 1) := by decide +kernel
theorem dX9_shiftsBlock_6 : decode cX9_shiftsBlock 6 = .ok (.iadd, 1) := by decide +kernel
theorem dX9_shiftsBlock_7 : decode cX9_shiftsBlock 7 = .ok (.iaload, 1) := by decide +kernel
theorem dX9_shiftsBlock_8 : decode cX9_shiftsBlock 8 = .ok (.istore 5, 2) := by decide +kernel
theorem dX9_shiftsBlock_10 : decode cX9_shiftsBlock 10 = .ok (.aload_n 0, 1) := by decide +kernel
theorem dX9_shiftsBlock_11 : decode cX9_shiftsBlock 11 = .ok (.getfield 7, 3) := by decide +kernel
theorem dX9_shiftsBlock_14 : decode cX9_shiftsBlock 14 = .ok (.iload_n 1, 1) := by decide +kernel
theorem dX9_shiftsBlock_15 : decode cX9_shiftsBlock 15 = .ok (.iload_n 2, 1) := by decide +kernel
theorem dX9_shiftsBlock_16 : decode cX9_shiftsBlock 16 = .ok (.iadd, 1) := by decide +kernel
theorem dX9_shiftsBlock_17 : decode cX9_shiftsBlock 17 = .ok (.iconst 2, 1) := by decide +kernel
theorem dX9_shiftsBlock_18 : decode cX9_shiftsBlock 18 = .ok (.iadd, 1) := by decide +kernel
theorem dX9_shiftsBlock_19 : decode cX9_shiftsBlock 19 = .ok (.iaload, 1) := by decide +kernel
theorem dX9_shiftsBlock_20 : decode cX9_shiftsBlock 20 = .ok (.istore 6, 2) := by decide +kernel
theorem dX9_shiftsBlock_22 : decode cX9_shiftsBlock 22 = .ok (.iload 4, 2) := by decide +kernel
theorem dX9_shiftsBlock_24 : decode cX9_shiftsBlock 24 = .ok (.ifCond .le 54, 3) := by decide +kernel
theorem dX9_shiftsBlock_27 : decode cX9_shiftsBlock 27 = .ok (.iload 5, 2) := by decide +kernel
theorem dX9_shiftsBlock_29 : decode cX9_shiftsBlock 29 = .ok (.iload 5, 2) := by decide +kernel
theorem dX9_shiftsBlock_31 : decode cX9_shiftsBlock 31 = .ok (.iload_n 3, 1) := by decide +kernel
theorem dX9_shiftsBlock_32 : decode cX9_shiftsBlock 32 = .ok (.if_icmp .lt 8, 3) := by decide +kernel
theorem dX9_shiftsBlock_35 : decode cX9_shiftsBlock 35 = .ok (.iload 4, 2) := by decide +kernel
theorem dX9_shiftsBlock_37 : decode cX9_shiftsBlock 37 = .ok (.goto 4, 3) := by decide +kernel
theorem dX9_shiftsBlock_40 : decode cX9_shiftsBlock 40 = .ok (.iconst 0, 1) := by decide +kernel
theorem dX9_shiftsBlock_41 : decode cX9_shiftsBlock 41 = .ok (.iadd, 1) := by decide +kernel
theorem dX9_shiftsBlock_42 : decode cX9_shiftsBlock 42 = .ok (.istore 5, 2) := by decide +kernel
theorem dX9_shiftsBlock_44 : decode cX9_shiftsBlock 44 = .ok (.iload 6, 2) := by decide +kernel
theorem dX9_shiftsBlock_46 : decode cX9_shiftsBlock 46 = .ok (.iload 6, 2) := by decide +kernel
theorem dX9_shiftsBlock_48 : decode cX9_shiftsBlock 48 = .ok (.iload_n 3, 1) := by decide +kernel
theorem dX9_shiftsBlock_49 : decode cX9_shiftsBlock 49 = .ok (.if_icmp .lt 8, 3) := by decide +kernel
theorem dX9_shiftsBlock_52 : decode cX9_shiftsBlock 52 = .ok (.iload 4, 2) := by decide +kernel
theorem dX9_shiftsBlock_54 : decode cX9_shiftsBlock 54 = .ok (.goto 4, 3) := by decide +kernel
theorem dX9_shiftsBlock_57 : decode cX9_shiftsBlock 57 = .ok (.iconst 0, 1) := by decide +kernel
theorem dX9_shiftsBlock_58 : decode cX9_shiftsBlock 58 = .ok (.iadd, 1) := by decide +kernel
theorem dX9_shiftsBlock_59 : decode cX9_shiftsBlock 59 = .ok (.istore 6, 2) := by decide +kernel
theorem dX9_shiftsBlock_61 : decode cX9_shiftsBlock 61 = .ok (.iload 6, 2) := by decide +kernel
theorem dX9_shiftsBlock_63 : decode cX9_shiftsBlock 63 = .ok (.iconst 5, 1) := by decide +kernel
theorem dX9_shiftsBlock_64 : decode cX9_shiftsBlock 64 = .ok (.if_icmp .le 7, 3) := by decide +kernel
theorem dX9_shiftsBlock_67 : decode cX9_shiftsBlock 67 = .ok (.iconst 5, 1) := by decide +kernel
theorem dX9_shiftsBlock_68 : decode cX9_shiftsBlock 68 = .ok (.goto 5, 3) := by decide +kernel
theorem dX9_shiftsBlock_71 : decode cX9_shiftsBlock 71 = .ok (.iload 6, 2) := by decide +kernel
theorem dX9_shiftsBlock_73 : decode cX9_shiftsBlock 73 = .ok (.istore 6, 2) := by decide +kernel
theorem dX9_shiftsBlock_75 : decode cX9_shiftsBlock 75 = .ok (.goto 67, 3) := by decide +kernel
theorem dX9_shiftsBlock_78 : decode cX9_shiftsBlock 78 = .ok (.iload 5, 2) := by decide +kernel
theorem dX9_shiftsBlock_80 : decode cX9_shiftsBlock 80 = .ok (.iload_n 3, 1) := by decide +kernel
theorem dX9_shiftsBlock_81 : decode cX9_shiftsBlock 81 = .ok (.if_icmp .ge 8, 3) := by decide +kernel
theorem dX9_shiftsBlock_84 : decode cX9_shiftsBlock 84 = .ok (.iload 5, 2) := by decide +kernel
theorem dX9_shiftsBlock_86 : decode cX9_shiftsBlock 86 = .ok (.goto 21, 3) := by decide +kernel
theorem dX9_shiftsBlock_89 : decode cX9_shiftsBlock 89 = .ok (.iload 5, 2) := by decide +kernel
theorem dX9_shiftsBlock_91 : decode cX9_shiftsBlock 91 = .ok (.iload_n 3, 1) := by decide +kernel
theorem dX9_shiftsBlock_92 : decode cX9_shiftsBlock 92 = .ok (.iload 4, 2) := by decide +kernel
theorem dX9_shiftsBlock_94 : decode cX9_shiftsBlock 94 = .ok (.isub, 1) := by decide +kernel
theorem dX9_shiftsBlock_95 : decode cX9_shiftsBlock 95 = .ok (.if_icmp .ge 7, 3) := by decide +kernel
theorem dX9_shiftsBlock_98 : decode cX9_shiftsBlock 98 = .ok (.iload_n 3, 1) := by decide +kernel
theorem dX9_shiftsBlock_99 : decode cX9_shiftsBlock 99 = .ok (.goto 8, 3) := by decide +kernel
theorem dX9_shiftsBlock_102 : decode cX9_shiftsBlock 102 = .ok (.iload 5, 2) := by decide +kernel
theorem dX9_shiftsBlock_104 : decode cX9_shiftsBlock 104 = .ok (.iload 4, 2) := by decide +kernel
theorem dX9_shiftsBlock_106 : decode cX9_shiftsBlock 106 = .ok (.iadd, 1) := by decide +kernel
theorem dX9_shiftsBlock_107 : decode cX9_shiftsBlock 107 = .ok (.istore 5, 2) := by decide +kernel
theorem dX9_shiftsBlock_109 : decode cX9_shiftsBlock 109 = .ok (.iload 6, 2) := by decide +kernel
theorem dX9_shiftsBlock_111 : decode cX9_shiftsBlock 111 = .ok (.iload_n 3, 1) := by decide +kernel
theorem dX9_shiftsBlock_112 : decode cX9_shiftsBlock 112 = .ok (.if_icmp .ge 8, 3) := by decide +kernel
theorem dX9_shiftsBlock_115 : decode cX9_shiftsBlock 115 = .ok (.iload 6, 2) := by decide +kernel
theorem dX9_shiftsBlock_117 : decode cX9_shiftsBlock 117 = .ok (.goto 23, 3) := by decide +kernel
theorem dX9_shiftsBlock_120 : decode cX9_shiftsBlock 120 = .ok (.iload 6, 2) := by decide +kernel
theorem dX9_shiftsBlock_122 : decode cX9_shiftsBlock 122 = .ok (.iload_n 3, 1) := by decide +kernel
theorem dX9_shiftsBlock_123 : decode cX9_shiftsBlock 123 = .ok (.iload 4, 2) := by decide +kernel
theorem dX9_shiftsBlock_125 : decode cX9_shiftsBlock 125 = .ok (.isub, 1) := by decide +kernel
theorem dX9_shiftsBlock_126 : decode cX9_shiftsBlock 126 = .ok (.if_icmp .ge 9, 3) := by decide +kernel
theorem dX9_shiftsBlock_129 : decode cX9_shiftsBlock 129 = .ok (.iload_n 3, 1) := by decide +kernel
theorem dX9_shiftsBlock_130 : decode cX9_shiftsBlock 130 = .ok (.iconst 1, 1) := by decide +kernel
theorem dX9_shiftsBlock_131 : decode cX9_shiftsBlock 131 = .ok (.isub, 1) := by decide +kernel
theorem dX9_shiftsBlock_132 : decode cX9_shiftsBlock 132 = .ok (.goto 8, 3) := by decide +kernel
theorem dX9_shiftsBlock_135 : decode cX9_shiftsBlock 135 = .ok (.iload 6, 2) := by decide +kernel
theorem dX9_shiftsBlock_137 : decode cX9_shiftsBlock 137 = .ok (.iload 4, 2) := by decide +kernel
theorem dX9_shiftsBlock_139 : decode cX9_shiftsBlock 139 = .ok (.iadd, 1) := by decide +kernel
theorem dX9_shiftsBlock_140 : decode cX9_shiftsBlock 140 = .ok (.istore 6, 2) := by decide +kernel
theorem dX9_shiftsBlock_142 : decode cX9_shiftsBlock 142 = .ok (.iload 5, 2) := by decide +kernel
theorem dX9_shiftsBlock_144 : decode cX9_shiftsBlock 144 = .ok (.iconst 5, 1) := by decide +kernel
theorem dX9_shiftsBlock_145 : decode cX9_shiftsBlock 145 = .ok (.if_icmp .gt 10, 3) := by decide +kernel
theorem dX9_shiftsBlock_148 : decode cX9_shiftsBlock 148 = .ok (.iload 6, 2) := by decide +kernel
theorem dX9_shiftsBlock_150 : decode cX9_shiftsBlock 150 = .ok (.iload 5, 2) := by decide +kernel
theorem dX9_shiftsBlock_152 : decode cX9_shiftsBlock 152 = .ok (.if_icmp .ge 11, 3) := by decide +kernel
theorem dX9_shiftsBlock_155 : decode cX9_shiftsBlock 155 = .ok (.aload_n 0, 1) := by decide +kernel
theorem dX9_shiftsBlock_156 : decode cX9_shiftsBlock 156 = .ok (.iload_n 1, 1) := by decide +kernel
theorem dX9_shiftsBlock_157 : decode cX9_shiftsBlock 157 = .ok (.invokevirtual 130, 3) := by decide +kernel
theorem dX9_shiftsBlock_160 : decode cX9_shiftsBlock 160 = .ok (.goto 25, 3) := by decide +kernel
theorem dX9_shiftsBlock_163 : decode cX9_shiftsBlock 163 = .ok (.aload_n 0, 1) := by decide +kernel
theorem dX9_shiftsBlock_164 : decode cX9_shiftsBlock 164 = .ok (.getfield 7, 3) := by decide +kernel
theorem dX9_shiftsBlock_167 : decode cX9_shiftsBlock 167 = .ok (.iload_n 1, 1) := by decide +kernel
theorem dX9_shiftsBlock_168 : decode cX9_shiftsBlock 168 = .ok (.iload_n 2, 1) := by decide +kernel
theorem dX9_shiftsBlock_169 : decode cX9_shiftsBlock 169 = .ok (.iadd, 1) := by decide +kernel
theorem dX9_shiftsBlock_170 : decode cX9_shiftsBlock 170 = .ok (.iload 5, 2) := by decide +kernel
theorem dX9_shiftsBlock_172 : decode cX9_shiftsBlock 172 = .ok (.iastore, 1) := by decide +kernel
theorem dX9_shiftsBlock_173 : decode cX9_shiftsBlock 173 = .ok (.aload_n 0, 1) := by decide +kernel
theorem dX9_shiftsBlock_174 : decode cX9_shiftsBlock 174 = .ok (.getfield 7, 3) := by decide +kernel
theorem dX9_shiftsBlock_177 : decode cX9_shiftsBlock 177 = .ok (.iload_n 1, 1) := by decide +kernel
theorem dX9_shiftsBlock_178 : decode cX9_shiftsBlock 178 = .ok (.iload_n 2, 1) := by decide +kernel
theorem dX9_shiftsBlock_179 : decode cX9_shiftsBlock 179 = .ok (.iadd, 1) := by decide +kernel
theorem dX9_shiftsBlock_180 : decode cX9_shiftsBlock 180 = .ok (.iconst 2, 1) := by decide +kernel
theorem dX9_shiftsBlock_181 : decode cX9_shiftsBlock 181 = .ok (.iadd, 1) := by decide +kernel
theorem dX9_shiftsBlock_182 : decode cX9_shiftsBlock 182 = .ok (.iload 6, 2) := by decide +kernel
theorem dX9_shiftsBlock_184 : decode cX9_shiftsBlock 184 = .ok (.iastore, 1) := by decide +kernel
theorem dX9_shiftsBlock_185 : decode cX9_shiftsBlock 185 = .ok (.return_, 1) := by decide +kernel
theorem dX9_shifts_0 : decode cX9_shifts 0 = .ok (.aload_n 0, 1) := by decide +kernel
theorem dX9_shifts_1 : decode cX9_shifts 1 = .ok (.iload_n 1, 1) := by decide +kernel
theorem dX9_shifts_2 : decode cX9_shifts 2 = .ok (.iload_n 2, 1) := by decide +kernel
theorem dX9_shifts_3 : decode cX9_shifts 3 = .ok (.iload_n 3, 1) := by decide +kernel
theorem dX9_shifts_4 : decode cX9_shifts 4 = .ok (.invokevirtual 133, 3) := by decide +kernel
theorem dX9_shifts_7 : decode cX9_shifts 7 = .ok (.iload_n 1, 1) := by decide +kernel
theorem dX9_shifts_8 : decode cX9_shifts 8 = .ok (.ifCond .ne 7, 3) := by decide +kernel
theorem dX9_shifts_11 : decode cX9_shifts 11 = .ok (.iconst 2, 1) := by decide +kernel
theorem dX9_shifts_12 : decode cX9_shifts 12 = .ok (.goto 4, 3) := by decide +kernel
theorem dX9_shifts_15 : decode cX9_shifts 15 = .ok (.iconst 1, 1) := by decide +kernel
theorem dX9_shifts_16 : decode cX9_shifts 16 = .ok (.istore 4, 2) := by decide +kernel
theorem dX9_shifts_18 : decode cX9_shifts 18 = .ok (.iconst 0, 1) := by decide +kernel
theorem dX9_shifts_19 : decode cX9_shifts 19 = .ok (.istore 5, 2) := by decide +kernel
theorem dX9_shifts_21 : decode cX9_shifts 21 = .ok (.iload 5, 2) := by decide +kernel
theorem dX9_shifts_23 : decode cX9_shifts 23 = .ok (.bipush 36, 2) := by decide +kernel
theorem dX9_shifts_25 : decode cX9_shifts 25 = .ok (.if_icmp .ge 94, 3) := by decide +kernel
theorem dX9_shifts_28 : decode cX9_shifts 28 = .ok (.iconst 0, 1) := by decide +kernel
theorem dX9_shifts_29 : decode cX9_shifts 29 = .ok (.istore 6, 2) := by decide +kernel
theorem dX9_shifts_31 : decode cX9_shifts 31 = .ok (.iload 6, 2) := by decide +kernel
theorem dX9_shifts_33 : decode cX9_shifts 33 = .ok (.aload_n 0, 1) := by decide +kernel
theorem dX9_shifts_34 : decode cX9_shifts 34 = .ok (.getfield 7, 3) := by decide +kernel
theorem dX9_shifts_37 : decode cX9_shifts 37 = .ok (.bipush 25, 2) := by decide +kernel
theorem dX9_shifts_39 : decode cX9_shifts 39 = .ok (.iload 5, 2) := by decide +kernel
theorem dX9_shifts_41 : decode cX9_shifts 41 = .ok (.imul, 1) := by decide +kernel
theorem dX9_shifts_42 : decode cX9_shifts 42 = .ok (.iaload, 1) := by decide +kernel
theorem dX9_shifts_43 : decode cX9_shifts 43 = .ok (.if_icmp .ge 70, 3) := by decide +kernel
theorem dX9_shifts_46 : decode cX9_shifts 46 = .ok (.bipush 25, 2) := by decide +kernel
theorem dX9_shifts_48 : decode cX9_shifts 48 = .ok (.iload 5, 2) := by decide +kernel
theorem dX9_shifts_50 : decode cX9_shifts 50 = .ok (.imul, 1) := by decide +kernel
theorem dX9_shifts_51 : decode cX9_shifts 51 = .ok (.iload 6, 2) := by decide +kernel
theorem dX9_shifts_53 : decode cX9_shifts 53 = .ok (.invokestatic 137, 3) := by decide +kernel
theorem dX9_shifts_56 : decode cX9_shifts 56 = .ok (.istore 7, 2) := by decide +kernel
theorem dX9_shifts_58 : decode cX9_shifts 58 = .ok (.aload_n 0, 1) := by decide +kernel
theorem dX9_shifts_59 : decode cX9_shifts 59 = .ok (.getfield 7, 3) := by decide +kernel
theorem dX9_shifts_62 : decode cX9_shifts 62 = .ok (.iload 7, 2) := by decide +kernel
theorem dX9_shifts_64 : decode cX9_shifts 64 = .ok (.iconst 0, 1) := by decide +kernel
theorem dX9_shifts_65 : decode cX9_shifts 65 = .ok (.iadd, 1) := by decide +kernel
theorem dX9_shifts_66 : decode cX9_shifts 66 = .ok (.iaload, 1) := by decide +kernel
theorem dX9_shifts_67 : decode cX9_shifts 67 = .ok (.iconst 1, 1) := by decide +kernel
theorem dX9_shifts_68 : decode cX9_shifts 68 = .ok (.if_icmp .ne 16, 3) := by decide +kernel
theorem dX9_shifts_71 : decode cX9_shifts 71 = .ok (.aload_n 0, 1) := by decide +kernel
theorem dX9_shifts_72 : decode cX9_shifts 72 = .ok (.iload 7, 2) := by decide +kernel
theorem dX9_shifts_74 : decode cX9_shifts 74 = .ok (.iload 4, 2) := by decide +kernel
theorem dX9_shifts_76 : decode cX9_shifts 76 = .ok (.iload_n 2, 1) := by decide +kernel
theorem dX9_shifts_77 : decode cX9_shifts 77 = .ok (.iload_n 3, 1) := by decide +kernel
theorem dX9_shifts_78 : decode cX9_shifts 78 = .ok (.invokevirtual 140, 3) := by decide +kernel
theorem dX9_shifts_81 : decode cX9_shifts 81 = .ok (.goto 26, 3) := by decide +kernel
theorem dX9_shifts_84 : decode cX9_shifts 84 = .ok (.aload_n 0, 1) := by decide +kernel
theorem dX9_shifts_85 : decode cX9_shifts 85 = .ok (.getfield 7, 3) := by decide +kernel
theorem dX9_shifts_88 : decode cX9_shifts 88 = .ok (.iload 7, 2) := by decide +kernel
theorem dX9_shifts_90 : decode cX9_shifts 90 = .ok (.iconst 0, 1) := by decide +kernel
theorem dX9_shifts_91 : decode cX9_shifts 91 = .ok (.iadd, 1) := by decide +kernel
theorem dX9_shifts_92 : decode cX9_shifts 92 = .ok (.iaload, 1) := by decide +kernel
theorem dX9_shifts_93 : decode cX9_shifts 93 = .ok (.iconst 2, 1) := by decide +kernel
theorem dX9_shifts_94 : decode cX9_shifts 94 = .ok (.if_icmp .ne 13, 3) := by decide +kernel
theorem dX9_shifts_97 : decode cX9_shifts 97 = .ok (.aload_n 0, 1) := by decide +kernel
theorem dX9_shifts_98 : decode cX9_shifts 98 = .ok (.iload 7, 2) := by decide +kernel
theorem dX9_shifts_100 : decode cX9_shifts 100 = .ok (.iload 4, 2) := by decide +kernel
theorem dX9_shifts_102 : decode cX9_shifts 102 = .ok (.iload_n 2, 1) := by decide +kernel
theorem dX9_shifts_103 : decode cX9_shifts 103 = .ok (.iload_n 3, 1) := by decide +kernel
theorem dX9_shifts_104 : decode cX9_shifts 104 = .ok (.invokevirtual 144, 3) := by decide +kernel
theorem dX9_shifts_107 : decode cX9_shifts 107 = .ok (.iinc 6 1, 3) := by decide +kernel
theorem dX9_shifts_110 : decode cX9_shifts 110 = .ok (.goto (-79), 3) := by decide +kernel
theorem dX9_shifts_113 : decode cX9_shifts 113 = .ok (.iinc 5 1, 3) := by decide +kernel
theorem dX9_shifts_116 : decode cX9_shifts 116 = .ok (.goto (-95), 3) := by decide +kernel
theorem dX9_shifts_119 : decode cX9_shifts 119 = .ok (.return_, 1) := by decide +kernel
theorem dX9_wouldLose_0 : decode cX9_wouldLose 0 = .ok (.iconst 0, 1) := by decide +kernel
theorem dX9_wouldLose_1 : decode cX9_wouldLose 1 = .ok (.istore 4, 2) := by decide +kernel
theorem dX9_wouldLose_3 : decode cX9_wouldLose 3 = .ok (.iload_n 2, 1) := by decide +kernel
theorem dX9_wouldLose_4 : decode cX9_wouldLose 4 = .ok (.istore 5, 2) := by decide +kernel
theorem dX9_wouldLose_6 : decode cX9_wouldLose 6 = .ok (.iload 5, 2) := by decide +kernel
theorem dX9_wouldLose_8 : decode cX9_wouldLose 8 = .ok (.bipush 6, 2) := by decide +kernel
theorem dX9_wouldLose_10 : decode cX9_wouldLose 10 = .ok (.if_icmp .ge 61, 3) := by decide +kernel
theorem dX9_wouldLose_13 : decode cX9_wouldLose 13 = .ok (.iconst 0, 1) := by decide +kernel
theorem dX9_wouldLose_14 : decode cX9_wouldLose 14 = .ok (.istore 6, 2) := by decide +kernel
theorem dX9_wouldLose_16 : decode cX9_wouldLose 16 = .ok (.iload 6, 2) := by decide +kernel
theorem dX9_wouldLose_18 : decode cX9_wouldLose 18 = .ok (.bipush 6, 2) := by decide +kernel
theorem dX9_wouldLose_20 : decode cX9_wouldLose 20 = .ok (.if_icmp .ge 45, 3) := by decide +kernel
theorem dX9_wouldLose_23 : decode cX9_wouldLose 23 = .ok (.iload 4, 2) := by decide +kernel
theorem dX9_wouldLose_25 : decode cX9_wouldLose 25 = .ok (.ifCond .ne 27, 3) := by decide +kernel
theorem dX9_wouldLose_28 : decode cX9_wouldLose 28 = .ok (.iload 5, 2) := by decide +kernel
theorem dX9_wouldLose_30 : decode cX9_wouldLose 30 = .ok (.iload_n 3, 1) := by decide +kernel
theorem dX9_wouldLose_31 : decode cX9_wouldLose 31 = .ok (.iadd, 1) := by decide +kernel
theorem dX9_wouldLose_32 : decode cX9_wouldLose 32 = .ok (.iconst 5, 1) := by decide +kernel
theorem dX9_wouldLose_33 : decode cX9_wouldLose 33 = .ok (.if_icmp .le 23, 3) := by decide +kernel
theorem dX9_wouldLose_36 : decode cX9_wouldLose 36 = .ok (.aload_n 0, 1) := by decide +kernel
theorem dX9_wouldLose_37 : decode cX9_wouldLose 37 = .ok (.getfield 7, 3) := by decide +kernel
theorem dX9_wouldLose_40 : decode cX9_wouldLose 40 = .ok (.iload_n 1, 1) := by decide +kernel
theorem dX9_wouldLose_41 : decode cX9_wouldLose 41 = .ok (.iload 5, 2) := by decide +kernel
theorem dX9_wouldLose_43 : decode cX9_wouldLose 43 = .ok (.iload 6, 2) := by decide +kernel
theorem dX9_wouldLose_45 : decode cX9_wouldLose 45 = .ok (.invokestatic 123, 3) := by decide +kernel
theorem dX9_wouldLose_48 : decode cX9_wouldLose 48 = .ok (.iaload, 1) := by decide +kernel
theorem dX9_wouldLose_49 : decode cX9_wouldLose 49 = .ok (.ifCond .le 7, 3) := by decide +kernel
theorem dX9_wouldLose_52 : decode cX9_wouldLose 52 = .ok (.iconst 1, 1) := by decide +kernel
theorem dX9_wouldLose_53 : decode cX9_wouldLose 53 = .ok (.goto 4, 3) := by decide +kernel
theorem dX9_wouldLose_56 : decode cX9_wouldLose 56 = .ok (.iconst 0, 1) := by decide +kernel
theorem dX9_wouldLose_57 : decode cX9_wouldLose 57 = .ok (.istore 4, 2) := by decide +kernel
theorem dX9_wouldLose_59 : decode cX9_wouldLose 59 = .ok (.iinc 6 1, 3) := by decide +kernel
theorem dX9_wouldLose_62 : decode cX9_wouldLose 62 = .ok (.goto (-46), 3) := by decide +kernel
theorem dX9_wouldLose_65 : decode cX9_wouldLose 65 = .ok (.iinc 5 1, 3) := by decide +kernel
theorem dX9_wouldLose_68 : decode cX9_wouldLose 68 = .ok (.goto (-62), 3) := by decide +kernel
theorem dX9_wouldLose_71 : decode cX9_wouldLose 71 = .ok (.iload 4, 2) := by decide +kernel
theorem dX9_wouldLose_73 : decode cX9_wouldLose 73 = .ok (.ireturn, 1) := by decide +kernel
theorem dX9_comes_0 : decode cX9_comes 0 = .ok (.iload_n 1, 1) := by decide +kernel
theorem dX9_comes_1 : decode cX9_comes 1 = .ok (.iconst 0, 1) := by decide +kernel
theorem dX9_comes_2 : decode cX9_comes 2 = .ok (.iconst 1, 1) := by decide +kernel
theorem dX9_comes_3 : decode cX9_comes 3 = .ok (.invokestatic 53, 3) := by decide +kernel
theorem dX9_comes_6 : decode cX9_comes 6 = .ok (.ifCond .eq 22, 3) := by decide +kernel
theorem dX9_comes_9 : decode cX9_comes 9 = .ok (.iload_n 2, 1) := by decide +kernel
theorem dX9_comes_10 : decode cX9_comes 10 = .ok (.iconst 0, 1) := by decide +kernel
theorem dX9_comes_11 : decode cX9_comes 11 = .ok (.iconst 5, 1) := by decide +kernel
theorem dX9_comes_12 : decode cX9_comes 12 = .ok (.invokestatic 53, 3) := by decide +kernel
theorem dX9_comes_15 : decode cX9_comes 15 = .ok (.ifCond .eq 13, 3) := by decide +kernel
theorem dX9_comes_18 : decode cX9_comes 18 = .ok (.iload_n 3, 1) := by decide +kernel
theorem dX9_comes_19 : decode cX9_comes 19 = .ok (.iconst 1, 1) := by decide +kernel
theorem dX9_comes_20 : decode cX9_comes 20 = .ok (.bipush 6, 2) := by decide +kernel
theorem dX9_comes_22 : decode cX9_comes 22 = .ok (.invokestatic 53, 3) := by decide +kernel
theorem dX9_comes_25 : decode cX9_comes 25 = .ok (.ifCond .ne 8, 3) := by decide +kernel
theorem dX9_comes_28 : decode cX9_comes 28 = .ok (.aload_n 0, 1) := by decide +kernel
theorem dX9_comes_29 : decode cX9_comes 29 = .ok (.invokevirtual 95, 3) := by decide +kernel
theorem dX9_comes_32 : decode cX9_comes 32 = .ok (.ireturn, 1) := by decide +kernel
theorem dX9_comes_33 : decode cX9_comes 33 = .ok (.aload_n 0, 1) := by decide +kernel
theorem dX9_comes_34 : decode cX9_comes 34 = .ok (.iload_n 1, 1) := by decide +kernel
theorem dX9_comes_35 : decode cX9_comes 35 = .ok (.iload_n 2, 1) := by decide +kernel
theorem dX9_comes_36 : decode cX9_comes 36 = .ok (.iload_n 3, 1) := by decide +kernel
theorem dX9_comes_37 : decode cX9_comes 37 = .ok (.invokevirtual 147, 3) := by decide +kernel
theorem dX9_comes_40 : decode cX9_comes 40 = .ok (.ifCond .eq 16, 3) := by decide +kernel
theorem dX9_comes_43 : decode cX9_comes 43 = .ok (.aload_n 0, 1) := by decide +kernel
theorem dX9_comes_44 : decode cX9_comes 44 = .ok (.getfield 19, 3) := by decide +kernel
theorem dX9_comes_47 : decode cX9_comes 47 = .ok (.iconst 1, 1) := by decide +kernel
theorem dX9_comes_48 : decode cX9_comes 48 = .ok (.dup2, 1) := by decide +kernel
theorem dX9_comes_49 : decode cX9_comes 49 = .ok (.iaload, 1) := by decide +kernel
theorem dX9_comes_50 : decode cX9_comes 50 = .ok (.iconst 1, 1) := by decide +kernel
theorem dX9_comes_51 : decode cX9_comes 51 = .ok (.iadd, 1) := by decide +kernel
theorem dX9_comes_52 : decode cX9_comes 52 = .ok (.iastore, 1) := by decide +kernel
theorem dX9_comes_53 : decode cX9_comes 53 = .ok (.bipush (-3), 2) := by decide +kernel
theorem dX9_comes_55 : decode cX9_comes 55 = .ok (.ireturn, 1) := by decide +kernel
theorem dX9_comes_56 : decode cX9_comes 56 = .ok (.aload_n 0, 1) := by decide +kernel
theorem dX9_comes_57 : decode cX9_comes 57 = .ok (.invokevirtual 105, 3) := by decide +kernel
theorem dX9_comes_60 : decode cX9_comes 60 = .ok (.aload_n 0, 1) := by decide +kernel
theorem dX9_comes_61 : decode cX9_comes 61 = .ok (.invokevirtual 108, 3) := by decide +kernel
theorem dX9_comes_64 : decode cX9_comes 64 = .ok (.aload_n 0, 1) := by decide +kernel
theorem dX9_comes_65 : decode cX9_comes 65 = .ok (.iload_n 1, 1) := by decide +kernel
theorem dX9_comes_66 : decode cX9_comes 66 = .ok (.iload_n 2, 1) := by decide +kernel
theorem dX9_comes_67 : decode cX9_comes 67 = .ok (.iload_n 3, 1) := by decide +kernel
theorem dX9_comes_68 : decode cX9_comes 68 = .ok (.invokevirtual 150, 3) := by decide +kernel
theorem dX9_comes_71 : decode cX9_comes 71 = .ok (.aload_n 0, 1) := by decide +kernel
theorem dX9_comes_72 : decode cX9_comes 72 = .ok (.invokevirtual 153, 3) := by decide +kernel
theorem dX9_comes_75 : decode cX9_comes 75 = .ok (.ireturn, 1) := by decide +kernel
theorem dX9_goes_0 : decode cX9_goes 0 = .ok (.iload_n 1, 1) := by decide +kernel
theorem dX9_goes_1 : decode cX9_goes 1 = .ok (.iconst 0, 1) := by decide +kernel
theorem dX9_goes_2 : decode cX9_goes 2 = .ok (.iconst 1, 1) := by decide +kernel
theorem dX9_goes_3 : decode cX9_goes 3 = .ok (.invokestatic 53, 3) := by decide +kernel
theorem dX9_goes_6 : decode cX9_goes 6 = .ok (.ifCond .eq 24, 3) := by decide +kernel
theorem dX9_goes_9 : decode cX9_goes 9 = .ok (.iload_n 2, 1) := by decide +kernel
theorem dX9_goes_10 : decode cX9_goes 10 = .ok (.iconst 0, 1) := by decide +kernel
theorem dX9_goes_11 : decode cX9_goes 11 = .ok (.iconst 5, 1) := by decide +kernel
theorem dX9_goes_12 : decode cX9_goes 12 = .ok (.invokestatic 53, 3) := by decide +kernel
theorem dX9_goes_15 : decode cX9_goes 15 = .ok (.ifCond .eq 15, 3) := by decide +kernel
theorem dX9_goes_18 : decode cX9_goes 18 = .ok (.iload_n 3, 1) := by decide +kernel
theorem dX9_goes_19 : decode cX9_goes 19 = .ok (.iconst 1, 1) := by decide +kernel
theorem dX9_goes_20 : decode cX9_goes 20 = .ok (.bipush 6, 2) := by decide +kernel
theorem dX9_goes_22 : decode cX9_goes 22 = .ok (.iload_n 2, 1) := by decide +kernel
theorem dX9_goes_23 : decode cX9_goes 23 = .ok (.isub, 1) := by decide +kernel
theorem dX9_goes_24 : decode cX9_goes 24 = .ok (.invokestatic 53, 3) := by decide +kernel
theorem dX9_goes_27 : decode cX9_goes 27 = .ok (.ifCond .ne 8, 3) := by decide +kernel
theorem dX9_goes_30 : decode cX9_goes 30 = .ok (.aload_n 0, 1) := by decide +kernel
theorem dX9_goes_31 : decode cX9_goes 31 = .ok (.invokevirtual 95, 3) := by decide +kernel
theorem dX9_goes_34 : decode cX9_goes 34 = .ok (.ireturn, 1) := by decide +kernel
theorem dX9_goes_35 : decode cX9_goes 35 = .ok (.aload_n 0, 1) := by decide +kernel
theorem dX9_goes_36 : decode cX9_goes 36 = .ok (.invokevirtual 105, 3) := by decide +kernel
theorem dX9_goes_39 : decode cX9_goes 39 = .ok (.aload_n 0, 1) := by decide +kernel
theorem dX9_goes_40 : decode cX9_goes 40 = .ok (.invokevirtual 108, 3) := by decide +kernel
theorem dX9_goes_43 : decode cX9_goes 43 = .ok (.aload_n 0, 1) := by decide +kernel
theorem dX9_goes_44 : decode cX9_goes 44 = .ok (.iload_n 1, 1) := by decide +kernel
theorem dX9_goes_45 : decode cX9_goes 45 = .ok (.iload_n 2, 1) := by decide +kernel
theorem dX9_goes_46 : decode cX9_goes 46 = .ok (.iload_n 3, 1) := by decide +kernel
theorem dX9_goes_47 : decode cX9_goes 47 = .ok (.ineg, 1) := by decide +kernel
theorem dX9_goes_48 : decode cX9_goes 48 = .ok (.invokevirtual 150, 3) := by decide +kernel
theorem dX9_goes_51 : decode cX9_goes 51 = .ok (.aload_n 0, 1) := by decide +kernel
theorem dX9_goes_52 : decode cX9_goes 52 = .ok (.invokevirtual 153, 3) := by decide +kernel
theorem dX9_goes_55 : decode cX9_goes 55 = .ok (.ireturn, 1) := by decide +kernel
theorem dX9_isWithin_0 : decode cX9_isWithin 0 = .ok (.iload_n 0, 1) := by decide +kernel
theorem dX9_isWithin_1 : decode cX9_isWithin 1 = .ok (.iload_n 1, 1) := by decide +kernel
theorem dX9_isWithin_2 : decode cX9_isWithin 2 = .ok (.invokestatic 99, 3) := by decide +kernel
theorem dX9_isWithin_5 : decode cX9_isWithin 5 = .ok (.ifCond .eq 31, 3) := by decide +kernel
theorem dX9_isWithin_8 : decode cX9_isWithin 8 = .ok (.iload_n 2, 1) := by decide +kernel
theorem dX9_isWithin_9 : decode cX9_isWithin 9 = .ok (.iconst 1, 1) := by decide +kernel
theorem dX9_isWithin_10 : decode cX9_isWithin 10 = .ok (.bipush 6, 2) := by decide +kernel
theorem dX9_isWithin_12 : decode cX9_isWithin 12 = .ok (.iload_n 0, 1) := by decide +kernel
theorem dX9_isWithin_13 : decode cX9_isWithin 13 = .ok (.isub, 1) := by decide +kernel
theorem dX9_isWithin_14 : decode cX9_isWithin 14 = .ok (.invokestatic 53, 3) := by decide +kernel
theorem dX9_isWithin_17 : decode cX9_isWithin 17 = .ok (.ifCond .eq 19, 3) := by decide +kernel
theorem dX9_isWithin_20 : decode cX9_isWithin 20 = .ok (.iload_n 3, 1) := by decide +kernel
theorem dX9_isWithin_21 : decode cX9_isWithin 21 = .ok (.iconst 1, 1) := by decide +kernel
theorem dX9_isWithin_22 : decode cX9_isWithin 22 = .ok (.bipush 6, 2) := by decide +kernel
theorem dX9_isWithin_24 : decode cX9_isWithin 24 = .ok (.iload_n 1, 1) := by decide +kernel
theorem dX9_isWithin_25 : decode cX9_isWithin 25 = .ok (.isub, 1) := by decide +kernel
theorem dX9_isWithin_26 : decode cX9_isWithin 26 = .ok (.invokestatic 53, 3) := by decide +kernel
theorem dX9_isWithin_29 : decode cX9_isWithin 29 = .ok (.ifCond .eq 7, 3) := by decide +kernel
theorem dX9_isWithin_32 : decode cX9_isWithin 32 = .ok (.iconst 1, 1) := by decide +kernel
theorem dX9_isWithin_33 : decode cX9_isWithin 33 = .ok (.goto 4, 3) := by decide +kernel
theorem dX9_isWithin_36 : decode cX9_isWithin 36 = .ok (.iconst 0, 1) := by decide +kernel
theorem dX9_isWithin_37 : decode cX9_isWithin 37 = .ok (.ireturn, 1) := by decide +kernel
theorem dX9_liesIn_0 : decode cX9_liesIn 0 = .ok (.aload_n 0, 1) := by decide +kernel
theorem dX9_liesIn_1 : decode cX9_liesIn 1 = .ok (.getfield 7, 3) := by decide +kernel
theorem dX9_liesIn_4 : decode cX9_liesIn 4 = .ok (.iload_n 1, 1) := by decide +kernel
theorem dX9_liesIn_5 : decode cX9_liesIn 5 = .ok (.iconst 0, 1) := by decide +kernel
theorem dX9_liesIn_6 : decode cX9_liesIn 6 = .ok (.iadd, 1) := by decide +kernel
theorem dX9_liesIn_7 : decode cX9_liesIn 7 = .ok (.iaload, 1) := by decide +kernel
theorem dX9_liesIn_8 : decode cX9_liesIn 8 = .ok (.iconst 2, 1) := by decide +kernel
theorem dX9_liesIn_9 : decode cX9_liesIn 9 = .ok (.if_icmp .ne 14, 3) := by decide +kernel
theorem dX9_liesIn_12 : decode cX9_liesIn 12 = .ok (.aload_n 0, 1) := by decide +kernel
theorem dX9_liesIn_13 : decode cX9_liesIn 13 = .ok (.getfield 7, 3) := by decide +kernel
theorem dX9_liesIn_16 : decode cX9_liesIn 16 = .ok (.iload_n 1, 1) := by decide +kernel
theorem dX9_liesIn_17 : decode cX9_liesIn 17 = .ok (.iconst 3, 1) := by decide +kernel
theorem dX9_liesIn_18 : decode cX9_liesIn 18 = .ok (.iadd, 1) := by decide +kernel
theorem dX9_liesIn_19 : decode cX9_liesIn 19 = .ok (.iaload, 1) := by decide +kernel
theorem dX9_liesIn_20 : decode cX9_liesIn 20 = .ok (.goto 11, 3) := by decide +kernel
theorem dX9_liesIn_23 : decode cX9_liesIn 23 = .ok (.aload_n 0, 1) := by decide +kernel
theorem dX9_liesIn_24 : decode cX9_liesIn 24 = .ok (.getfield 7, 3) := by decide +kernel
theorem dX9_liesIn_27 : decode cX9_liesIn 27 = .ok (.iload_n 1, 1) := by decide +kernel
theorem dX9_liesIn_28 : decode cX9_liesIn 28 = .ok (.iconst 1, 1) := by decide +kernel
theorem dX9_liesIn_29 : decode cX9_liesIn 29 = .ok (.iadd, 1) := by decide +kernel
theorem dX9_liesIn_30 : decode cX9_liesIn 30 = .ok (.iaload, 1) := by decide +kernel
theorem dX9_liesIn_31 : decode cX9_liesIn 31 = .ok (.istore 6, 2) := by decide +kernel
theorem dX9_liesIn_33 : decode cX9_liesIn 33 = .ok (.aload_n 0, 1) := by decide +kernel
theorem dX9_liesIn_34 : decode cX9_liesIn 34 = .ok (.getfield 7, 3) := by decide +kernel
theorem dX9_liesIn_37 : decode cX9_liesIn 37 = .ok (.iload_n 1, 1) := by decide +kernel
theorem dX9_liesIn_38 : decode cX9_liesIn 38 = .ok (.iconst 0, 1) := by decide +kernel
theorem dX9_liesIn_39 : decode cX9_liesIn 39 = .ok (.iadd, 1) := by decide +kernel
theorem dX9_liesIn_40 : decode cX9_liesIn 40 = .ok (.iaload, 1) := by decide +kernel
theorem dX9_liesIn_41 : decode cX9_liesIn 41 = .ok (.iconst 2, 1) := by decide +kernel
theorem dX9_liesIn_42 : decode cX9_liesIn 42 = .ok (.if_icmp .ne 14, 3) := by decide +kernel
theorem dX9_liesIn_45 : decode cX9_liesIn 45 = .ok (.aload_n 0, 1) := by decide +kernel
theorem dX9_liesIn_46 : decode cX9_liesIn 46 = .ok (.getfield 7, 3) := by decide +kernel
theorem dX9_liesIn_49 : decode cX9_liesIn 49 = .ok (.iload_n 1, 1) := by decide +kernel
theorem dX9_liesIn_50 : decode cX9_liesIn 50 = .ok (.iconst 4, 1) := by decide +kernel
theorem dX9_liesIn_51 : decode cX9_liesIn 51 = .ok (.iadd, 1) := by decide +kernel
theorem dX9_liesIn_52 : decode cX9_liesIn 52 = .ok (.iaload, 1) := by decide +kernel
theorem dX9_liesIn_53 : decode cX9_liesIn 53 = .ok (.goto 11, 3) := by decide +kernel
theorem dX9_liesIn_56 : decode cX9_liesIn 56 = .ok (.aload_n 0, 1) := by decide +kernel
theorem dX9_liesIn_57 : decode cX9_liesIn 57 = .ok (.getfield 7, 3) := by decide +kernel
theorem dX9_liesIn_60 : decode cX9_liesIn 60 = .ok (.iload_n 1, 1) := by decide +kernel
theorem dX9_liesIn_61 : decode cX9_liesIn 61 = .ok (.iconst 2, 1) := by decide +kernel
theorem dX9_liesIn_62 : decode cX9_liesIn 62 = .ok (.iadd, 1) := by decide +kernel
theorem dX9_liesIn_63 : decode cX9_liesIn 63 = .ok (.iaload, 1) := by decide +kernel
theorem dX9_liesIn_64 : decode cX9_liesIn 64 = .ok (.istore 7, 2) := by decide +kernel
theorem dX9_liesIn_66 : decode cX9_liesIn 66 = .ok (.aload_n 0, 1) := by decide +kernel
theorem dX9_liesIn_67 : decode cX9_liesIn 67 = .ok (.getfield 7, 3) := by decide +kernel
theorem dX9_liesIn_70 : decode cX9_liesIn 70 = .ok (.iload_n 1, 1) := by decide +kernel
theorem dX9_liesIn_71 : decode cX9_liesIn 71 = .ok (.iconst 1, 1) := by decide +kernel
theorem dX9_liesIn_72 : decode cX9_liesIn 72 = .ok (.iadd, 1) := by decide +kernel
theorem dX9_liesIn_73 : decode cX9_liesIn 73 = .ok (.iaload, 1) := by decide +kernel
theorem dX9_liesIn_74 : decode cX9_liesIn 74 = .ok (.iload_n 2, 1) := by decide +kernel
theorem dX9_liesIn_75 : decode cX9_liesIn 75 = .ok (.if_icmp .lt 37, 3) := by decide +kernel
theorem dX9_liesIn_78 : decode cX9_liesIn 78 = .ok (.iload 6, 2) := by decide +kernel
theorem dX9_liesIn_80 : decode cX9_liesIn 80 = .ok (.iload_n 2, 1) := by decide +kernel
theorem dX9_liesIn_81 : decode cX9_liesIn 81 = .ok (.iload 4, 2) := by decide +kernel
theorem dX9_liesIn_83 : decode cX9_liesIn 83 = .ok (.iadd, 1) := by decide +kernel
theorem dX9_liesIn_84 : decode cX9_liesIn 84 = .ok (.if_icmp .ge 28, 3) := by decide +kernel
theorem dX9_liesIn_87 : decode cX9_liesIn 87 = .ok (.aload_n 0, 1) := by decide +kernel
theorem dX9_liesIn_88 : decode cX9_liesIn 88 = .ok (.getfield 7, 3) := by decide +kernel
theorem dX9_liesIn_91 : decode cX9_liesIn 91 = .ok (.iload_n 1, 1) := by decide +kernel
theorem dX9_liesIn_92 : decode cX9_liesIn 92 = .ok (.iconst 2, 1) := by decide +kernel
theorem dX9_liesIn_93 : decode cX9_liesIn 93 = .ok (.iadd, 1) := by decide +kernel
theorem dX9_liesIn_94 : decode cX9_liesIn 94 = .ok (.iaload, 1) := by decide +kernel
theorem dX9_liesIn_95 : decode cX9_liesIn 95 = .ok (.iload_n 3, 1) := by decide +kernel
theorem dX9_liesIn_96 : decode cX9_liesIn 96 = .ok (.if_icmp .lt 16, 3) := by decide +kernel
theorem dX9_liesIn_99 : decode cX9_liesIn 99 = .ok (.iload 7, 2) := by decide +kernel
theorem dX9_liesIn_101 : decode cX9_liesIn 101 = .ok (.iload_n 3, 1) := by decide +kernel
theorem dX9_liesIn_102 : decode cX9_liesIn 102 = .ok (.iload 5, 2) := by decide +kernel
theorem dX9_liesIn_104 : decode cX9_liesIn 104 = .ok (.iadd, 1) := by decide +kernel
theorem dX9_liesIn_105 : decode cX9_liesIn 105 = .ok (.if_icmp .ge 7, 3) := by decide +kernel
theorem dX9_liesIn_108 : decode cX9_liesIn 108 = .ok (.iconst 1, 1) := by decide +kernel
theorem dX9_liesIn_109 : decode cX9_liesIn 109 = .ok (.goto 4, 3) := by decide +kernel
theorem dX9_liesIn_112 : decode cX9_liesIn 112 = .ok (.iconst 0, 1) := by decide +kernel
theorem dX9_liesIn_113 : decode cX9_liesIn 113 = .ok (.ireturn, 1) := by decide +kernel
theorem dX9_pushes_0 : decode cX9_pushes 0 = .ok (.aload_n 0, 1) := by decide +kernel
theorem dX9_pushes_1 : decode cX9_pushes 1 = .ok (.getfield 7, 3) := by decide +kernel
theorem dX9_pushes_4 : decode cX9_pushes 4 = .ok (.iload_n 1, 1) := by decide +kernel
theorem dX9_pushes_5 : decode cX9_pushes 5 = .ok (.iconst 1, 1) := by decide +kernel
theorem dX9_pushes_6 : decode cX9_pushes 6 = .ok (.iadd, 1) := by decide +kernel
theorem dX9_pushes_7 : decode cX9_pushes 7 = .ok (.dup2, 1) := by decide +kernel
theorem dX9_pushes_8 : decode cX9_pushes 8 = .ok (.iaload, 1) := by decide +kernel
theorem dX9_pushes_9 : decode cX9_pushes 9 = .ok (.iload_n 2, 1) := by decide +kernel
theorem dX9_pushes_10 : decode cX9_pushes 10 = .ok (.iadd, 1) := by decide +kernel
theorem dX9_pushes_11 : decode cX9_pushes 11 = .ok (.iastore, 1) := by decide +kernel
theorem dX9_pushes_12 : decode cX9_pushes 12 = .ok (.aload_n 0, 1) := by decide +kernel
theorem dX9_pushes_13 : decode cX9_pushes 13 = .ok (.getfield 7, 3) := by decide +kernel
theorem dX9_pushes_16 : decode cX9_pushes 16 = .ok (.iload_n 1, 1) := by decide +kernel
theorem dX9_pushes_17 : decode cX9_pushes 17 = .ok (.iconst 2, 1) := by decide +kernel
theorem dX9_pushes_18 : decode cX9_pushes 18 = .ok (.iadd, 1) := by decide +kernel
theorem dX9_pushes_19 : decode cX9_pushes 19 = .ok (.dup2, 1) := by decide +kernel
theorem dX9_pushes_20 : decode cX9_pushes 20 = .ok (.iaload, 1) := by decide +kernel
theorem dX9_pushes_21 : decode cX9_pushes 21 = .ok (.iload_n 3, 1) := by decide +kernel
theorem dX9_pushes_22 : decode cX9_pushes 22 = .ok (.iadd, 1) := by decide +kernel
theorem dX9_pushes_23 : decode cX9_pushes 23 = .ok (.iastore, 1) := by decide +kernel
theorem dX9_pushes_24 : decode cX9_pushes 24 = .ok (.aload_n 0, 1) := by decide +kernel
theorem dX9_pushes_25 : decode cX9_pushes 25 = .ok (.getfield 7, 3) := by decide +kernel
theorem dX9_pushes_28 : decode cX9_pushes 28 = .ok (.iload_n 1, 1) := by decide +kernel
theorem dX9_pushes_29 : decode cX9_pushes 29 = .ok (.iconst 0, 1) := by decide +kernel
theorem dX9_pushes_30 : decode cX9_pushes 30 = .ok (.iadd, 1) := by decide +kernel
theorem dX9_pushes_31 : decode cX9_pushes 31 = .ok (.iaload, 1) := by decide +kernel
theorem dX9_pushes_32 : decode cX9_pushes 32 = .ok (.iconst 2, 1) := by decide +kernel
theorem dX9_pushes_33 : decode cX9_pushes 33 = .ok (.if_icmp .ne 27, 3) := by decide +kernel
theorem dX9_pushes_36 : decode cX9_pushes 36 = .ok (.aload_n 0, 1) := by decide +kernel
theorem dX9_pushes_37 : decode cX9_pushes 37 = .ok (.getfield 7, 3) := by decide +kernel
theorem dX9_pushes_40 : decode cX9_pushes 40 = .ok (.iload_n 1, 1) := by decide +kernel
theorem dX9_pushes_41 : decode cX9_pushes 41 = .ok (.iconst 3, 1) := by decide +kernel
theorem dX9_pushes_42 : decode cX9_pushes 42 = .ok (.iadd, 1) := by decide +kernel
theorem dX9_pushes_43 : decode cX9_pushes 43 = .ok (.dup2, 1) := by decide +kernel
theorem dX9_pushes_44 : decode cX9_pushes 44 = .ok (.iaload, 1) := by decide +kernel
theorem dX9_pushes_45 : decode cX9_pushes 45 = .ok (.iload_n 2, 1) := by decide +kernel
theorem dX9_pushes_46 : decode cX9_pushes 46 = .ok (.iadd, 1) := by decide +kernel
theorem dX9_pushes_47 : decode cX9_pushes 47 = .ok (.iastore, 1) := by decide +kernel
theorem dX9_pushes_48 : decode cX9_pushes 48 = .ok (.aload_n 0, 1) := by decide +kernel
theorem dX9_pushes_49 : decode cX9_pushes 49 = .ok (.getfield 7, 3) := by decide +kernel
theorem dX9_pushes_52 : decode cX9_pushes 52 = .ok (.iload_n 1, 1) := by decide +kernel
theorem dX9_pushes_53 : decode cX9_pushes 53 = .ok (.iconst 4, 1) := by decide +kernel
theorem dX9_pushes_54 : decode cX9_pushes 54 = .ok (.iadd, 1) := by decide +kernel
theorem dX9_pushes_55 : decode cX9_pushes 55 = .ok (.dup2, 1) := by decide +kernel
theorem dX9_pushes_56 : decode cX9_pushes 56 = .ok (.iaload, 1) := by decide +kernel
theorem dX9_pushes_57 : decode cX9_pushes 57 = .ok (.iload_n 3, 1) := by decide +kernel
theorem dX9_pushes_58 : decode cX9_pushes 58 = .ok (.iadd, 1) := by decide +kernel
theorem dX9_pushes_59 : decode cX9_pushes 59 = .ok (.iastore, 1) := by decide +kernel
theorem dX9_pushes_60 : decode cX9_pushes 60 = .ok (.return_, 1) := by decide +kernel
theorem dX9_moves_0 : decode cX9_moves 0 = .ok (.iload_n 1, 1) := by decide +kernel
theorem dX9_moves_1 : decode cX9_moves 1 = .ok (.iload_n 2, 1) := by decide +kernel
theorem dX9_moves_2 : decode cX9_moves 2 = .ok (.iload_n 3, 1) := by decide +kernel
theorem dX9_moves_3 : decode cX9_moves 3 = .ok (.iload 4, 2) := by decide +kernel
theorem dX9_moves_5 : decode cX9_moves 5 = .ok (.invokestatic 156, 3) := by decide +kernel
theorem dX9_moves_8 : decode cX9_moves 8 = .ok (.ifCond .eq 16, 3) := by decide +kernel
theorem dX9_moves_11 : decode cX9_moves 11 = .ok (.iload 5, 2) := by decide +kernel
theorem dX9_moves_13 : decode cX9_moves 13 = .ok (.iload 6, 2) := by decide +kernel
theorem dX9_moves_15 : decode cX9_moves 15 = .ok (.iload_n 3, 1) := by decide +kernel
theorem dX9_moves_16 : decode cX9_moves 16 = .ok (.iload 4, 2) := by decide +kernel
theorem dX9_moves_18 : decode cX9_moves 18 = .ok (.invokestatic 156, 3) := by decide +kernel
theorem dX9_moves_21 : decode cX9_moves 21 = .ok (.ifCond .ne 8, 3) := by decide +kernel
theorem dX9_moves_24 : decode cX9_moves 24 = .ok (.aload_n 0, 1) := by decide +kernel
theorem dX9_moves_25 : decode cX9_moves 25 = .ok (.invokevirtual 95, 3) := by decide +kernel
theorem dX9_moves_28 : decode cX9_moves 28 = .ok (.ireturn, 1) := by decide +kernel
theorem dX9_moves_29 : decode cX9_moves 29 = .ok (.aload_n 0, 1) := by decide +kernel
theorem dX9_moves_30 : decode cX9_moves 30 = .ok (.invokevirtual 105, 3) := by decide +kernel
theorem dX9_moves_33 : decode cX9_moves 33 = .ok (.aload_n 0, 1) := by decide +kernel
theorem dX9_moves_34 : decode cX9_moves 34 = .ok (.invokevirtual 108, 3) := by decide +kernel
theorem dX9_moves_37 : decode cX9_moves 37 = .ok (.iconst 0, 1) := by decide +kernel
theorem dX9_moves_38 : decode cX9_moves 38 = .ok (.istore 7, 2) := by decide +kernel
theorem dX9_moves_40 : decode cX9_moves 40 = .ok (.iload 7, 2) := by decide +kernel
theorem dX9_moves_42 : decode cX9_moves 42 = .ok (.iload_n 3, 1) := by decide +kernel
theorem dX9_moves_43 : decode cX9_moves 43 = .ok (.iload 4, 2) := by decide +kernel
theorem dX9_moves_45 : decode cX9_moves 45 = .ok (.imul, 1) := by decide +kernel
theorem dX9_moves_46 : decode cX9_moves 46 = .ok (.if_icmp .ge 28, 3) := by decide +kernel
theorem dX9_moves_49 : decode cX9_moves 49 = .ok (.aload_n 0, 1) := by decide +kernel
theorem dX9_moves_50 : decode cX9_moves 50 = .ok (.iload_n 1, 1) := by decide +kernel
theorem dX9_moves_51 : decode cX9_moves 51 = .ok (.iload 7, 2) := by decide +kernel
theorem dX9_moves_53 : decode cX9_moves 53 = .ok (.iload_n 3, 1) := by decide +kernel
theorem dX9_moves_54 : decode cX9_moves 54 = .ok (.irem, 1) := by decide +kernel
theorem dX9_moves_55 : decode cX9_moves 55 = .ok (.iadd, 1) := by decide +kernel
theorem dX9_moves_56 : decode cX9_moves 56 = .ok (.iload_n 2, 1) := by decide +kernel
theorem dX9_moves_57 : decode cX9_moves 57 = .ok (.iload 7, 2) := by decide +kernel
theorem dX9_moves_59 : decode cX9_moves 59 = .ok (.iload_n 3, 1) := by decide +kernel
theorem dX9_moves_60 : decode cX9_moves 60 = .ok (.idiv, 1) := by decide +kernel
theorem dX9_moves_61 : decode cX9_moves 61 = .ok (.iadd, 1) := by decide +kernel
theorem dX9_moves_62 : decode cX9_moves 62 = .ok (.invokestatic 111, 3) := by decide +kernel
theorem dX9_moves_65 : decode cX9_moves 65 = .ok (.invokevirtual 115, 3) := by decide +kernel
theorem dX9_moves_68 : decode cX9_moves 68 = .ok (.iinc 7 1, 3) := by decide +kernel
theorem dX9_moves_71 : decode cX9_moves 71 = .ok (.goto (-31), 3) := by decide +kernel
theorem dX9_moves_74 : decode cX9_moves 74 = .ok (.iconst 0, 1) := by decide +kernel
theorem dX9_moves_75 : decode cX9_moves 75 = .ok (.istore 7, 2) := by decide +kernel
theorem dX9_moves_77 : decode cX9_moves 77 = .ok (.iload 7, 2) := by decide +kernel
theorem dX9_moves_79 : decode cX9_moves 79 = .ok (.iload_n 3, 1) := by decide +kernel
theorem dX9_moves_80 : decode cX9_moves 80 = .ok (.iload 4, 2) := by decide +kernel
theorem dX9_moves_82 : decode cX9_moves 82 = .ok (.imul, 1) := by decide +kernel
theorem dX9_moves_83 : decode cX9_moves 83 = .ok (.if_icmp .ge 45, 3) := by decide +kernel
theorem dX9_moves_86 : decode cX9_moves 86 = .ok (.aload_n 0, 1) := by decide +kernel
theorem dX9_moves_87 : decode cX9_moves 87 = .ok (.iload 5, 2) := by decide +kernel
theorem dX9_moves_89 : decode cX9_moves 89 = .ok (.iload 7, 2) := by decide +kernel
theorem dX9_moves_91 : decode cX9_moves 91 = .ok (.iload_n 3, 1) := by decide +kernel
theorem dX9_moves_92 : decode cX9_moves 92 = .ok (.irem, 1) := by decide +kernel
theorem dX9_moves_93 : decode cX9_moves 93 = .ok (.iadd, 1) := by decide +kernel
theorem dX9_moves_94 : decode cX9_moves 94 = .ok (.iload 6, 2) := by decide +kernel
theorem dX9_moves_96 : decode cX9_moves 96 = .ok (.iload 7, 2) := by decide +kernel
theorem dX9_moves_98 : decode cX9_moves 98 = .ok (.iload_n 3, 1) := by decide +kernel
theorem dX9_moves_99 : decode cX9_moves 99 = .ok (.idiv, 1) := by decide +kernel
theorem dX9_moves_100 : decode cX9_moves 100 = .ok (.iadd, 1) := by decide +kernel
theorem dX9_moves_101 : decode cX9_moves 101 = .ok (.invokestatic 111, 3) := by decide +kernel
theorem dX9_moves_104 : decode cX9_moves 104 = .ok (.iload_n 1, 1) := by decide +kernel
theorem dX9_moves_105 : decode cX9_moves 105 = .ok (.iload 7, 2) := by decide +kernel
theorem dX9_moves_107 : decode cX9_moves 107 = .ok (.iload_n 3, 1) := by decide +kernel
theorem dX9_moves_108 : decode cX9_moves 108 = .ok (.irem, 1) := by decide +kernel
theorem dX9_moves_109 : decode cX9_moves 109 = .ok (.iadd, 1) := by decide +kernel
theorem dX9_moves_110 : decode cX9_moves 110 = .ok (.iload_n 2, 1) := by decide +kernel
theorem dX9_moves_111 : decode cX9_moves 111 = .ok (.iload 7, 2) := by decide +kernel
theorem dX9_moves_113 : decode cX9_moves 113 = .ok (.iload_n 3, 1) := by decide +kernel
theorem dX9_moves_114 : decode cX9_moves 114 = .ok (.idiv, 1) := by decide +kernel
theorem dX9_moves_115 : decode cX9_moves 115 = .ok (.iadd, 1) := by decide +kernel
theorem dX9_moves_116 : decode cX9_moves 116 = .ok (.invokestatic 111, 3) := by decide +kernel
theorem dX9_moves_119 : decode cX9_moves 119 = .ok (.invokevirtual 126, 3) := by decide +kernel
theorem dX9_moves_122 : decode cX9_moves 122 = .ok (.iinc 7 1, 3) := by decide +kernel
theorem dX9_moves_125 : decode cX9_moves 125 = .ok (.goto (-48), 3) := by decide +kernel
theorem dX9_moves_128 : decode cX9_moves 128 = .ok (.iconst 0, 1) := by decide +kernel
theorem dX9_moves_129 : decode cX9_moves 129 = .ok (.istore 7, 2) := by decide +kernel
theorem dX9_moves_131 : decode cX9_moves 131 = .ok (.iconst 0, 1) := by decide +kernel
theorem dX9_moves_132 : decode cX9_moves 132 = .ok (.istore 8, 2) := by decide +kernel
theorem dX9_moves_134 : decode cX9_moves 134 = .ok (.iload 8, 2) := by decide +kernel
theorem dX9_moves_136 : decode cX9_moves 136 = .ok (.bipush 36, 2) := by decide +kernel
theorem dX9_moves_138 : decode cX9_moves 138 = .ok (.if_icmp .ge 144, 3) := by decide +kernel
theorem dX9_moves_141 : decode cX9_moves 141 = .ok (.iconst 0, 1) := by decide +kernel
theorem dX9_moves_142 : decode cX9_moves 142 = .ok (.istore 9, 2) := by decide +kernel
theorem dX9_moves_144 : decode cX9_moves 144 = .ok (.iload 9, 2) := by decide +kernel
theorem dX9_moves_146 : decode cX9_moves 146 = .ok (.aload_n 0, 1) := by decide +kernel
theorem dX9_moves_147 : decode cX9_moves 147 = .ok (.getfield 7, 3) := by decide +kernel
theorem dX9_moves_150 : decode cX9_moves 150 = .ok (.bipush 25, 2) := by decide +kernel
theorem dX9_moves_152 : decode cX9_moves 152 = .ok (.iload 8, 2) := by decide +kernel
theorem dX9_moves_154 : decode cX9_moves 154 = .ok (.imul, 1) := by decide +kernel
theorem dX9_moves_155 : decode cX9_moves 155 = .ok (.iaload, 1) := by decide +kernel
theorem dX9_moves_156 : decode cX9_moves 156 = .ok (.if_icmp .ge 120, 3) := by decide +kernel
theorem dX9_moves_159 : decode cX9_moves 159 = .ok (.bipush 25, 2) := by decide +kernel
theorem dX9_moves_161 : decode cX9_moves 161 = .ok (.iload 8, 2) := by decide +kernel
theorem dX9_moves_163 : decode cX9_moves 163 = .ok (.imul, 1) := by decide +kernel
theorem dX9_moves_164 : decode cX9_moves 164 = .ok (.iload 9, 2) := by decide +kernel
theorem dX9_moves_166 : decode cX9_moves 166 = .ok (.invokestatic 137, 3) := by decide +kernel
theorem dX9_moves_169 : decode cX9_moves 169 = .ok (.istore 10, 2) := by decide +kernel
theorem dX9_moves_171 : decode cX9_moves 171 = .ok (.aload_n 0, 1) := by decide +kernel
theorem dX9_moves_172 : decode cX9_moves 172 = .ok (.getfield 7, 3) := by decide +kernel
theorem dX9_moves_175 : decode cX9_moves 175 = .ok (.iload 10, 2) := by decide +kernel
theorem dX9_moves_177 : decode cX9_moves 177 = .ok (.iconst 0, 1) := by decide +kernel
theorem dX9_moves_178 : decode cX9_moves 178 = .ok (.iadd, 1) := by decide +kernel
theorem dX9_moves_179 : decode cX9_moves 179 = .ok (.iaload, 1) := by decide +kernel
theorem dX9_moves_180 : decode cX9_moves 180 = .ok (.iconst 1, 1) := by decide +kernel
theorem dX9_moves_181 : decode cX9_moves 181 = .ok (.if_icmp .eq 16, 3) := by decide +kernel
theorem dX9_moves_184 : decode cX9_moves 184 = .ok (.aload_n 0, 1) := by decide +kernel
theorem dX9_moves_185 : decode cX9_moves 185 = .ok (.getfield 7, 3) := by decide +kernel
theorem dX9_moves_188 : decode cX9_moves 188 = .ok (.iload 10, 2) := by decide +kernel
theorem dX9_moves_190 : decode cX9_moves 190 = .ok (.iconst 0, 1) := by decide +kernel
theorem dX9_moves_191 : decode cX9_moves 191 = .ok (.iadd, 1) := by decide +kernel
theorem dX9_moves_192 : decode cX9_moves 192 = .ok (.iaload, 1) := by decide +kernel
theorem dX9_moves_193 : decode cX9_moves 193 = .ok (.iconst 2, 1) := by decide +kernel
theorem dX9_moves_194 : decode cX9_moves 194 = .ok (.if_icmp .ne 7, 3) := by decide +kernel
theorem dX9_moves_197 : decode cX9_moves 197 = .ok (.iconst 1, 1) := by decide +kernel
theorem dX9_moves_198 : decode cX9_moves 198 = .ok (.goto 4, 3) := by decide +kernel
theorem dX9_moves_201 : decode cX9_moves 201 = .ok (.iconst 0, 1) := by decide +kernel
theorem dX9_moves_202 : decode cX9_moves 202 = .ok (.istore 11, 2) := by decide +kernel
theorem dX9_moves_204 : decode cX9_moves 204 = .ok (.iload 11, 2) := by decide +kernel
theorem dX9_moves_206 : decode cX9_moves 206 = .ok (.ifCond .eq 34, 3) := by decide +kernel
theorem dX9_moves_209 : decode cX9_moves 209 = .ok (.aload_n 0, 1) := by decide +kernel
theorem dX9_moves_210 : decode cX9_moves 210 = .ok (.iload 10, 2) := by decide +kernel
theorem dX9_moves_212 : decode cX9_moves 212 = .ok (.iload_n 1, 1) := by decide +kernel
theorem dX9_moves_213 : decode cX9_moves 213 = .ok (.iload_n 2, 1) := by decide +kernel
theorem dX9_moves_214 : decode cX9_moves 214 = .ok (.iload_n 3, 1) := by decide +kernel
theorem dX9_moves_215 : decode cX9_moves 215 = .ok (.iload 4, 2) := by decide +kernel
theorem dX9_moves_217 : decode cX9_moves 217 = .ok (.invokevirtual 160, 3) := by decide +kernel
theorem dX9_moves_220 : decode cX9_moves 220 = .ok (.ifCond .eq 20, 3) := by decide +kernel
theorem dX9_moves_223 : decode cX9_moves 223 = .ok (.aload_n 0, 1) := by decide +kernel
theorem dX9_moves_224 : decode cX9_moves 224 = .ok (.iload 10, 2) := by decide +kernel
theorem dX9_moves_226 : decode cX9_moves 226 = .ok (.iload 5, 2) := by decide +kernel
theorem dX9_moves_228 : decode cX9_moves 228 = .ok (.iload_n 1, 1) := by decide +kernel
theorem dX9_moves_229 : decode cX9_moves 229 = .ok (.isub, 1) := by decide +kernel
theorem dX9_moves_230 : decode cX9_moves 230 = .ok (.iload 6, 2) := by decide +kernel
theorem dX9_moves_232 : decode cX9_moves 232 = .ok (.iload_n 2, 1) := by decide +kernel
theorem dX9_moves_233 : decode cX9_moves 233 = .ok (.isub, 1) := by decide +kernel
theorem dX9_moves_234 : decode cX9_moves 234 = .ok (.invokevirtual 164, 3) := by decide +kernel
theorem dX9_moves_237 : decode cX9_moves 237 = .ok (.goto 33, 3) := by decide +kernel
theorem dX9_moves_240 : decode cX9_moves 240 = .ok (.iload 11, 2) := by decide +kernel
theorem dX9_moves_242 : decode cX9_moves 242 = .ok (.ifCond .eq 28, 3) := by decide +kernel
theorem dX9_moves_245 : decode cX9_moves 245 = .ok (.aload_n 0, 1) := by decide +kernel
theorem dX9_moves_246 : decode cX9_moves 246 = .ok (.iload 10, 2) := by decide +kernel
theorem dX9_moves_248 : decode cX9_moves 248 = .ok (.iload 5, 2) := by decide +kernel
theorem dX9_moves_250 : decode cX9_moves 250 = .ok (.iload 6, 2) := by decide +kernel
theorem dX9_moves_252 : decode cX9_moves 252 = .ok (.iload_n 3, 1) := by decide +kernel
theorem dX9_moves_253 : decode cX9_moves 253 = .ok (.iload 4, 2) := by decide +kernel
theorem dX9_moves_255 : decode cX9_moves 255 = .ok (.invokevirtual 160, 3) := by decide +kernel
theorem dX9_moves_258 : decode cX9_moves 258 = .ok (.ifCond .eq 12, 3) := by decide +kernel
theorem dX9_moves_261 : decode cX9_moves 261 = .ok (.aload_n 0, 1) := by decide +kernel
theorem dX9_moves_262 : decode cX9_moves 262 = .ok (.iload 10, 2) := by decide +kernel
theorem dX9_moves_264 : decode cX9_moves 264 = .ok (.invokevirtual 130, 3) := by decide +kernel
theorem dX9_moves_267 : decode cX9_moves 267 = .ok (.iinc 7 1, 3) := by decide +kernel
theorem dX9_moves_270 : decode cX9_moves 270 = .ok (.iinc 9 1, 3) := by decide +kernel
theorem dX9_moves_273 : decode cX9_moves 273 = .ok (.goto (-129), 3) := by decide +kernel
theorem dX9_moves_276 : decode cX9_moves 276 = .ok (.iinc 8 1, 3) := by decide +kernel
theorem dX9_moves_279 : decode cX9_moves 279 = .ok (.goto (-145), 3) := by decide +kernel
theorem dX9_moves_282 : decode cX9_moves 282 = .ok (.iload 7, 2) := by decide +kernel
theorem dX9_moves_284 : decode cX9_moves 284 = .ok (.ireturn, 1) := by decide +kernel
theorem dX9_goesOn_0 : decode cX9_goesOn 0 = .ok (.aload_n 0, 1) := by decide +kernel
theorem dX9_goesOn_1 : decode cX9_goesOn 1 = .ok (.getfield 7, 3) := by decide +kernel
theorem dX9_goesOn_4 : decode cX9_goesOn 4 = .ok (.iload_n 1, 1) := by decide +kernel
theorem dX9_goesOn_5 : decode cX9_goesOn 5 = .ok (.iconst 5, 1) := by decide +kernel
theorem dX9_goesOn_6 : decode cX9_goesOn 6 = .ok (.iadd, 1) := by decide +kernel
theorem dX9_goesOn_7 : decode cX9_goesOn 7 = .ok (.iaload, 1) := by decide +kernel
theorem dX9_goesOn_8 : decode cX9_goesOn 8 = .ok (.istore 4, 2) := by decide +kernel
theorem dX9_goesOn_10 : decode cX9_goesOn 10 = .ok (.aload_n 0, 1) := by decide +kernel
theorem dX9_goesOn_11 : decode cX9_goesOn 11 = .ok (.getfield 7, 3) := by decide +kernel
theorem dX9_goesOn_14 : decode cX9_goesOn 14 = .ok (.iload_n 1, 1) := by decide +kernel
theorem dX9_goesOn_15 : decode cX9_goesOn 15 = .ok (.iconst 1, 1) := by decide +kernel
theorem dX9_goesOn_16 : decode cX9_goesOn 16 = .ok (.iadd, 1) := by decide +kernel
theorem dX9_goesOn_17 : decode cX9_goesOn 17 = .ok (.dup2, 1) := by decide +kernel
theorem dX9_goesOn_18 : decode cX9_goesOn 18 = .ok (.iaload, 1) := by decide +kernel
theorem dX9_goesOn_19 : decode cX9_goesOn 19 = .ok (.iload 4, 2) := by decide +kernel
theorem dX9_goesOn_21 : decode cX9_goesOn 21 = .ok (.iconst 1, 1) := by decide +kernel
theorem dX9_goesOn_22 : decode cX9_goesOn 22 = .ok (.iand, 1) := by decide +kernel
theorem dX9_goesOn_23 : decode cX9_goesOn 23 = .ok (.ifCond .ne 7, 3) := by decide +kernel
theorem dX9_goesOn_26 : decode cX9_goesOn 26 = .ok (.iload_n 2, 1) := by decide +kernel
theorem dX9_goesOn_27 : decode cX9_goesOn 27 = .ok (.goto 4, 3) := by decide +kernel
theorem dX9_goesOn_30 : decode cX9_goesOn 30 = .ok (.iconst 0, 1) := by decide +kernel
theorem dX9_goesOn_31 : decode cX9_goesOn 31 = .ok (.iadd, 1) := by decide +kernel
theorem dX9_goesOn_32 : decode cX9_goesOn 32 = .ok (.iastore, 1) := by decide +kernel
theorem dX9_goesOn_33 : decode cX9_goesOn 33 = .ok (.aload_n 0, 1) := by decide +kernel
theorem dX9_goesOn_34 : decode cX9_goesOn 34 = .ok (.getfield 7, 3) := by decide +kernel
theorem dX9_goesOn_37 : decode cX9_goesOn 37 = .ok (.iload_n 1, 1) := by decide +kernel
theorem dX9_goesOn_38 : decode cX9_goesOn 38 = .ok (.iconst 2, 1) := by decide +kernel
theorem dX9_goesOn_39 : decode cX9_goesOn 39 = .ok (.iadd, 1) := by decide +kernel
theorem dX9_goesOn_40 : decode cX9_goesOn 40 = .ok (.dup2, 1) := by decide +kernel
theorem dX9_goesOn_41 : decode cX9_goesOn 41 = .ok (.iaload, 1) := by decide +kernel
theorem dX9_goesOn_42 : decode cX9_goesOn 42 = .ok (.iload 4, 2) := by decide +kernel
theorem dX9_goesOn_44 : decode cX9_goesOn 44 = .ok (.iconst 2, 1) := by decide +kernel
theorem dX9_goesOn_45 : decode cX9_goesOn 45 = .ok (.iand, 1) := by decide +kernel
theorem dX9_goesOn_46 : decode cX9_goesOn 46 = .ok (.ifCond .ne 7, 3) := by decide +kernel
theorem dX9_goesOn_49 : decode cX9_goesOn 49 = .ok (.iload_n 3, 1) := by decide +kernel
theorem dX9_goesOn_50 : decode cX9_goesOn 50 = .ok (.goto 4, 3) := by decide +kernel
theorem dX9_goesOn_53 : decode cX9_goesOn 53 = .ok (.iconst 0, 1) := by decide +kernel
theorem dX9_goesOn_54 : decode cX9_goesOn 54 = .ok (.iadd, 1) := by decide +kernel
theorem dX9_goesOn_55 : decode cX9_goesOn 55 = .ok (.iastore, 1) := by decide +kernel
theorem dX9_goesOn_56 : decode cX9_goesOn 56 = .ok (.aload_n 0, 1) := by decide +kernel
theorem dX9_goesOn_57 : decode cX9_goesOn 57 = .ok (.getfield 7, 3) := by decide +kernel
theorem dX9_goesOn_60 : decode cX9_goesOn 60 = .ok (.iload_n 1, 1) := by decide +kernel
theorem dX9_goesOn_61 : decode cX9_goesOn 61 = .ok (.iconst 1, 1) := by decide +kernel
theorem dX9_goesOn_62 : decode cX9_goesOn 62 = .ok (.iadd, 1) := by decide +kernel
theorem dX9_goesOn_63 : decode cX9_goesOn 63 = .ok (.iaload, 1) := by decide +kernel
theorem dX9_goesOn_64 : decode cX9_goesOn 64 = .ok (.aload_n 0, 1) := by decide +kernel
theorem dX9_goesOn_65 : decode cX9_goesOn 65 = .ok (.getfield 7, 3) := by decide +kernel
theorem dX9_goesOn_68 : decode cX9_goesOn 68 = .ok (.iload_n 1, 1) := by decide +kernel
theorem dX9_goesOn_69 : decode cX9_goesOn 69 = .ok (.iconst 2, 1) := by decide +kernel
theorem dX9_goesOn_70 : decode cX9_goesOn 70 = .ok (.iadd, 1) := by decide +kernel
theorem dX9_goesOn_71 : decode cX9_goesOn 71 = .ok (.iaload, 1) := by decide +kernel
theorem dX9_goesOn_72 : decode cX9_goesOn 72 = .ok (.invokestatic 99, 3) := by decide +kernel
theorem dX9_goesOn_75 : decode cX9_goesOn 75 = .ok (.istore 5, 2) := by decide +kernel
theorem dX9_goesOn_77 : decode cX9_goesOn 77 = .ok (.aload_n 0, 1) := by decide +kernel
theorem dX9_goesOn_78 : decode cX9_goesOn 78 = .ok (.getfield 7, 3) := by decide +kernel
theorem dX9_goesOn_81 : decode cX9_goesOn 81 = .ok (.iload_n 1, 1) := by decide +kernel
theorem dX9_goesOn_82 : decode cX9_goesOn 82 = .ok (.iconst 0, 1) := by decide +kernel
theorem dX9_goesOn_83 : decode cX9_goesOn 83 = .ok (.iadd, 1) := by decide +kernel
theorem dX9_goesOn_84 : decode cX9_goesOn 84 = .ok (.iaload, 1) := by decide +kernel
theorem dX9_goesOn_85 : decode cX9_goesOn 85 = .ok (.iconst 2, 1) := by decide +kernel
theorem dX9_goesOn_86 : decode cX9_goesOn 86 = .ok (.if_icmp .ne 106, 3) := by decide +kernel
theorem dX9_goesOn_89 : decode cX9_goesOn 89 = .ok (.aload_n 0, 1) := by decide +kernel
theorem dX9_goesOn_90 : decode cX9_goesOn 90 = .ok (.getfield 7, 3) := by decide +kernel
theorem dX9_goesOn_93 : decode cX9_goesOn 93 = .ok (.iload_n 1, 1) := by decide +kernel
theorem dX9_goesOn_94 : decode cX9_goesOn 94 = .ok (.iconst 3, 1) := by decide +kernel
theorem dX9_goesOn_95 : decode cX9_goesOn 95 = .ok (.iadd, 1) := by decide +kernel
theorem dX9_goesOn_96 : decode cX9_goesOn 96 = .ok (.dup2, 1) := by decide +kernel
theorem dX9_goesOn_97 : decode cX9_goesOn 97 = .ok (.iaload, 1) := by decide +kernel
theorem dX9_goesOn_98 : decode cX9_goesOn 98 = .ok (.iload 4, 2) := by decide +kernel
theorem dX9_goesOn_100 : decode cX9_goesOn 100 = .ok (.iconst 4, 1) := by decide +kernel
theorem dX9_goesOn_101 : decode cX9_goesOn 101 = .ok (.iand, 1) := by decide +kernel
theorem dX9_goesOn_102 : decode cX9_goesOn 102 = .ok (.ifCond .ne 7, 3) := by decide +kernel
theorem dX9_goesOn_105 : decode cX9_goesOn 105 = .ok (.iload_n 2, 1) := by decide +kernel
theorem dX9_goesOn_106 : decode cX9_goesOn 106 = .ok (.goto 4, 3) := by decide +kernel
theorem dX9_goesOn_109 : decode cX9_goesOn 109 = .ok (.iconst 0, 1) := by decide +kernel
theorem dX9_goesOn_110 : decode cX9_goesOn 110 = .ok (.iadd, 1) := by decide +kernel
theorem dX9_goesOn_111 : decode cX9_goesOn 111 = .ok (.iastore, 1) := by decide +kernel
theorem dX9_goesOn_112 : decode cX9_goesOn 112 = .ok (.aload_n 0, 1) := by decide +kernel
theorem dX9_goesOn_113 : decode cX9_goesOn 113 = .ok (.getfield 7, 3) := by decide +kernel
theorem dX9_goesOn_116 : decode cX9_goesOn 116 = .ok (.iload_n 1, 1) := by decide +kernel
theorem dX9_goesOn_117 : decode cX9_goesOn 117 = .ok (.iconst 4, 1) := by decide +kernel
theorem dX9_goesOn_118 : decode cX9_goesOn 118 = .ok (.iadd, 1) := by decide +kernel
theorem dX9_goesOn_119 : decode cX9_goesOn 119 = .ok (.dup2, 1) := by decide +kernel
theorem dX9_goesOn_120 : decode cX9_goesOn 120 = .ok (.iaload, 1) := by decide +kernel
theorem dX9_goesOn_121 : decode cX9_goesOn 121 = .ok (.iload 4, 2) := by decide +kernel
theorem dX9_goesOn_123 : decode cX9_goesOn 123 = .ok (.bipush 8, 2) := by decide +kernel
theorem dX9_goesOn_125 : decode cX9_goesOn 125 = .ok (.iand, 1) := by decide +kernel
theorem dX9_goesOn_126 : decode cX9_goesOn 126 = .ok (.ifCond .ne 7, 3) := by decide +kernel
theorem dX9_goesOn_129 : decode cX9_goesOn 129 = .ok (.iload_n 3, 1) := by decide +kernel
theorem dX9_goesOn_130 : decode cX9_goesOn 130 = .ok (.goto 4, 3) := by decide +kernel
theorem dX9_goesOn_133 : decode cX9_goesOn 133 = .ok (.iconst 0, 1) := by decide +kernel
theorem dX9_goesOn_134 : decode cX9_goesOn 134 = .ok (.iadd, 1) := by decide +kernel
theorem dX9_goesOn_135 : decode cX9_goesOn 135 = .ok (.iastore, 1) := by decide +kernel
theorem dX9_goesOn_136 : decode cX9_goesOn 136 = .ok (.iload 5, 2) := by decide +kernel
theorem dX9_goesOn_138 : decode cX9_goesOn 138 = .ok (.ifCond .eq 29, 3) := by decide +kernel
theorem dX9_goesOn_141 : decode cX9_goesOn 141 = .ok (.aload_n 0, 1) := by decide +kernel
theorem dX9_goesOn_142 : decode cX9_goesOn 142 = .ok (.getfield 7, 3) := by decide +kernel
theorem dX9_goesOn_145 : decode cX9_goesOn 145 = .ok (.iload_n 1, 1) := by decide +kernel
theorem dX9_goesOn_146 : decode cX9_goesOn 146 = .ok (.iconst 3, 1) := by decide +kernel
theorem dX9_goesOn_147 : decode cX9_goesOn 147 = .ok (.iadd, 1) := by decide +kernel
theorem dX9_goesOn_148 : decode cX9_goesOn 148 = .ok (.iaload, 1) := by decide +kernel
theorem dX9_goesOn_149 : decode cX9_goesOn 149 = .ok (.aload_n 0, 1) := by decide +kernel
theorem dX9_goesOn_150 : decode cX9_goesOn 150 = .ok (.getfield 7, 3) := by decide +kernel
theorem dX9_goesOn_153 : decode cX9_goesOn 153 = .ok (.iload_n 1, 1) := by decide +kernel
theorem dX9_goesOn_154 : decode cX9_goesOn 154 = .ok (.iconst 4, 1) := by decide +kernel
theorem dX9_goesOn_155 : decode cX9_goesOn 155 = .ok (.iadd, 1) := by decide +kernel
theorem dX9_goesOn_156 : decode cX9_goesOn 156 = .ok (.iaload, 1) := by decide +kernel
theorem dX9_goesOn_157 : decode cX9_goesOn 157 = .ok (.invokestatic 99, 3) := by decide +kernel
theorem dX9_goesOn_160 : decode cX9_goesOn 160 = .ok (.ifCond .eq 7, 3) := by decide +kernel
theorem dX9_goesOn_163 : decode cX9_goesOn 163 = .ok (.iconst 1, 1) := by decide +kernel
theorem dX9_goesOn_164 : decode cX9_goesOn 164 = .ok (.goto 4, 3) := by decide +kernel
theorem dX9_goesOn_167 : decode cX9_goesOn 167 = .ok (.iconst 0, 1) := by decide +kernel
theorem dX9_goesOn_168 : decode cX9_goesOn 168 = .ok (.istore 5, 2) := by decide +kernel
theorem dX9_goesOn_170 : decode cX9_goesOn 170 = .ok (.aload_n 0, 1) := by decide +kernel
theorem dX9_goesOn_171 : decode cX9_goesOn 171 = .ok (.getfield 7, 3) := by decide +kernel
theorem dX9_goesOn_174 : decode cX9_goesOn 174 = .ok (.iload_n 1, 1) := by decide +kernel
theorem dX9_goesOn_175 : decode cX9_goesOn 175 = .ok (.iconst 1, 1) := by decide +kernel
theorem dX9_goesOn_176 : decode cX9_goesOn 176 = .ok (.iconst 3, 1) := by decide +kernel
theorem dX9_goesOn_177 : decode cX9_goesOn 177 = .ok (.iconst 1, 1) := by decide +kernel
theorem dX9_goesOn_178 : decode cX9_goesOn 178 = .ok (.invokestatic 88, 3) := by decide +kernel
theorem dX9_goesOn_181 : decode cX9_goesOn 181 = .ok (.aload_n 0, 1) := by decide +kernel
theorem dX9_goesOn_182 : decode cX9_goesOn 182 = .ok (.getfield 7, 3) := by decide +kernel
theorem dX9_goesOn_185 : decode cX9_goesOn 185 = .ok (.iload_n 1, 1) := by decide +kernel
theorem dX9_goesOn_186 : decode cX9_goesOn 186 = .ok (.iconst 2, 1) := by decide +kernel
theorem dX9_goesOn_187 : decode cX9_goesOn 187 = .ok (.iconst 4, 1) := by decide +kernel
theorem dX9_goesOn_188 : decode cX9_goesOn 188 = .ok (.iconst 2, 1) := by decide +kernel
theorem dX9_goesOn_189 : decode cX9_goesOn 189 = .ok (.invokestatic 88, 3) := by decide +kernel
theorem dX9_goesOn_192 : decode cX9_goesOn 192 = .ok (.iload 5, 2) := by decide +kernel
theorem dX9_goesOn_194 : decode cX9_goesOn 194 = .ok (.ifCond .ne 8, 3) := by decide +kernel
theorem dX9_goesOn_197 : decode cX9_goesOn 197 = .ok (.aload_n 0, 1) := by decide +kernel
theorem dX9_goesOn_198 : decode cX9_goesOn 198 = .ok (.iload_n 1, 1) := by decide +kernel
theorem dX9_goesOn_199 : decode cX9_goesOn 199 = .ok (.invokevirtual 130, 3) := by decide +kernel
theorem dX9_goesOn_202 : decode cX9_goesOn 202 = .ok (.return_, 1) := by decide +kernel
theorem dX9_copies_0 : decode cX9_copies 0 = .ok (.iload_n 1, 1) := by decide +kernel
theorem dX9_copies_1 : decode cX9_copies 1 = .ok (.iload_n 2, 1) := by decide +kernel
theorem dX9_copies_2 : decode cX9_copies 2 = .ok (.iload_n 3, 1) := by decide +kernel
theorem dX9_copies_3 : decode cX9_copies 3 = .ok (.iload 4, 2) := by decide +kernel
theorem dX9_copies_5 : decode cX9_copies 5 = .ok (.invokestatic 156, 3) := by decide +kernel
theorem dX9_copies_8 : decode cX9_copies 8 = .ok (.ifCond .eq 16, 3) := by decide +kernel
theorem dX9_copies_11 : decode cX9_copies 11 = .ok (.iload 5, 2) := by decide +kernel
theorem dX9_copies_13 : decode cX9_copies 13 = .ok (.iload 6, 2) := by decide +kernel
theorem dX9_copies_15 : decode cX9_copies 15 = .ok (.iload_n 3, 1) := by decide +kernel
theorem dX9_copies_16 : decode cX9_copies 16 = .ok (.iload 4, 2) := by decide +kernel
theorem dX9_copies_18 : decode cX9_copies 18 = .ok (.invokestatic 156, 3) := by decide +kernel
theorem dX9_copies_21 : decode cX9_copies 21 = .ok (.ifCond .ne 8, 3) := by decide +kernel
theorem dX9_copies_24 : decode cX9_copies 24 = .ok (.aload_n 0, 1) := by decide +kernel
theorem dX9_copies_25 : decode cX9_copies 25 = .ok (.invokevirtual 95, 3) := by decide +kernel
theorem dX9_copies_28 : decode cX9_copies 28 = .ok (.ireturn, 1) := by decide +kernel
theorem dX9_copies_29 : decode cX9_copies 29 = .ok (.aload_n 0, 1) := by decide +kernel
theorem dX9_copies_30 : decode cX9_copies 30 = .ok (.invokevirtual 105, 3) := by decide +kernel
theorem dX9_copies_33 : decode cX9_copies 33 = .ok (.aload_n 0, 1) := by decide +kernel
theorem dX9_copies_34 : decode cX9_copies 34 = .ok (.invokevirtual 108, 3) := by decide +kernel
theorem dX9_copies_37 : decode cX9_copies 37 = .ok (.iconst 0, 1) := by decide +kernel
theorem dX9_copies_38 : decode cX9_copies 38 = .ok (.istore 7, 2) := by decide +kernel
theorem dX9_copies_40 : decode cX9_copies 40 = .ok (.iconst 0, 1) := by decide +kernel
theorem dX9_copies_41 : decode cX9_copies 41 = .ok (.istore 8, 2) := by decide +kernel
theorem dX9_copies_43 : decode cX9_copies 43 = .ok (.iload 8, 2) := by decide +kernel
theorem dX9_copies_45 : decode cX9_copies 45 = .ok (.iload_n 3, 1) := by decide +kernel
theorem dX9_copies_46 : decode cX9_copies 46 = .ok (.iload 4, 2) := by decide +kernel
theorem dX9_copies_48 : decode cX9_copies 48 = .ok (.imul, 1) := by decide +kernel
theorem dX9_copies_49 : decode cX9_copies 49 = .ok (.if_icmp .ge 142, 3) := by decide +kernel
theorem dX9_copies_52 : decode cX9_copies 52 = .ok (.iload 5, 2) := by decide +kernel
theorem dX9_copies_54 : decode cX9_copies 54 = .ok (.iload 8, 2) := by decide +kernel
theorem dX9_copies_56 : decode cX9_copies 56 = .ok (.iload_n 3, 1) := by decide +kernel
theorem dX9_copies_57 : decode cX9_copies 57 = .ok (.irem, 1) := by decide +kernel
theorem dX9_copies_58 : decode cX9_copies 58 = .ok (.iadd, 1) := by decide +kernel
theorem dX9_copies_59 : decode cX9_copies 59 = .ok (.iload 6, 2) := by decide +kernel
theorem dX9_copies_61 : decode cX9_copies 61 = .ok (.iload 8, 2) := by decide +kernel
theorem dX9_copies_63 : decode cX9_copies 63 = .ok (.iload_n 3, 1) := by decide +kernel
theorem dX9_copies_64 : decode cX9_copies 64 = .ok (.idiv, 1) := by decide +kernel
theorem dX9_copies_65 : decode cX9_copies 65 = .ok (.iadd, 1) := by decide +kernel
theorem dX9_copies_66 : decode cX9_copies 66 = .ok (.invokestatic 111, 3) := by decide +kernel
theorem dX9_copies_69 : decode cX9_copies 69 = .ok (.istore 9, 2) := by decide +kernel
theorem dX9_copies_71 : decode cX9_copies 71 = .ok (.aload_n 0, 1) := by decide +kernel
theorem dX9_copies_72 : decode cX9_copies 72 = .ok (.iload 9, 2) := by decide +kernel
theorem dX9_copies_74 : decode cX9_copies 74 = .ok (.iload_n 1, 1) := by decide +kernel
theorem dX9_copies_75 : decode cX9_copies 75 = .ok (.iload 8, 2) := by decide +kernel
theorem dX9_copies_77 : decode cX9_copies 77 = .ok (.iload_n 3, 1) := by decide +kernel
theorem dX9_copies_78 : decode cX9_copies 78 = .ok (.irem, 1) := by decide +kernel
theorem dX9_copies_79 : decode cX9_copies 79 = .ok (.iadd, 1) := by decide +kernel
theorem dX9_copies_80 : decode cX9_copies 80 = .ok (.iload_n 2, 1) := by decide +kernel
theorem dX9_copies_81 : decode cX9_copies 81 = .ok (.iload 8, 2) := by decide +kernel
theorem dX9_copies_83 : decode cX9_copies 83 = .ok (.iload_n 3, 1) := by decide +kernel
theorem dX9_copies_84 : decode cX9_copies 84 = .ok (.idiv, 1) := by decide +kernel
theorem dX9_copies_85 : decode cX9_copies 85 = .ok (.iadd, 1) := by decide +kernel
theorem dX9_copies_86 : decode cX9_copies 86 = .ok (.invokestatic 111, 3) := by decide +kernel
theorem dX9_copies_89 : decode cX9_copies 89 = .ok (.invokevirtual 126, 3) := by decide +kernel
theorem dX9_copies_92 : decode cX9_copies 92 = .ok (.iconst 0, 1) := by decide +kernel
theorem dX9_copies_93 : decode cX9_copies 93 = .ok (.istore 10, 2) := by decide +kernel
theorem dX9_copies_95 : decode cX9_copies 95 = .ok (.iload 10, 2) := by decide +kernel
theorem dX9_copies_97 : decode cX9_copies 97 = .ok (.aload_n 0, 1) := by decide +kernel
theorem dX9_copies_98 : decode cX9_copies 98 = .ok (.getfield 7, 3) := by decide +kernel
theorem dX9_copies_101 : decode cX9_copies 101 = .ok (.iload 9, 2) := by decide +kernel
theorem dX9_copies_103 : decode cX9_copies 103 = .ok (.iaload, 1) := by decide +kernel
theorem dX9_copies_104 : decode cX9_copies 104 = .ok (.if_icmp .ge 81, 3) := by decide +kernel
theorem dX9_copies_107 : decode cX9_copies 107 = .ok (.iload 9, 2) := by decide +kernel
theorem dX9_copies_109 : decode cX9_copies 109 = .ok (.iload 10, 2) := by decide +kernel
theorem dX9_copies_111 : decode cX9_copies 111 = .ok (.invokestatic 137, 3) := by decide +kernel
theorem dX9_copies_114 : decode cX9_copies 114 = .ok (.istore 11, 2) := by decide +kernel
theorem dX9_copies_116 : decode cX9_copies 116 = .ok (.aload_n 0, 1) := by decide +kernel
theorem dX9_copies_117 : decode cX9_copies 117 = .ok (.getfield 7, 3) := by decide +kernel
theorem dX9_copies_120 : decode cX9_copies 120 = .ok (.iload 11, 2) := by decide +kernel
theorem dX9_copies_122 : decode cX9_copies 122 = .ok (.iconst 0, 1) := by decide +kernel
theorem dX9_copies_123 : decode cX9_copies 123 = .ok (.iadd, 1) := by decide +kernel
theorem dX9_copies_124 : decode cX9_copies 124 = .ok (.iaload, 1) := by decide +kernel
theorem dX9_copies_125 : decode cX9_copies 125 = .ok (.iconst 1, 1) := by decide +kernel
theorem dX9_copies_126 : decode cX9_copies 126 = .ok (.if_icmp .eq 16, 3) := by decide +kernel
theorem dX9_copies_129 : decode cX9_copies 129 = .ok (.aload_n 0, 1) := by decide +kernel
theorem dX9_copies_130 : decode cX9_copies 130 = .ok (.getfield 7, 3) := by decide +kernel
theorem dX9_copies_133 : decode cX9_copies 133 = .ok (.iload 11, 2) := by decide +kernel
theorem dX9_copies_135 : decode cX9_copies 135 = .ok (.iconst 0, 1) := by decide +kernel
theorem dX9_copies_136 : decode cX9_copies 136 = .ok (.iadd, 1) := by decide +kernel
theorem dX9_copies_137 : decode cX9_copies 137 = .ok (.iaload, 1) := by decide +kernel
theorem dX9_copies_138 : decode cX9_copies 138 = .ok (.iconst 2, 1) := by decide +kernel
theorem dX9_copies_139 : decode cX9_copies 139 = .ok (.if_icmp .ne 17, 3) := by decide +kernel
theorem dX9_copies_142 : decode cX9_copies 142 = .ok (.aload_n 0, 1) := by decide +kernel
theorem dX9_copies_143 : decode cX9_copies 143 = .ok (.iload 11, 2) := by decide +kernel
theorem dX9_copies_145 : decode cX9_copies 145 = .ok (.iload 5, 2) := by decide +kernel
theorem dX9_copies_147 : decode cX9_copies 147 = .ok (.iload_n 1, 1) := by decide +kernel
theorem dX9_copies_148 : decode cX9_copies 148 = .ok (.isub, 1) := by decide +kernel
theorem dX9_copies_149 : decode cX9_copies 149 = .ok (.iload 6, 2) := by decide +kernel
theorem dX9_copies_151 : decode cX9_copies 151 = .ok (.iload_n 2, 1) := by decide +kernel
theorem dX9_copies_152 : decode cX9_copies 152 = .ok (.isub, 1) := by decide +kernel
theorem dX9_copies_153 : decode cX9_copies 153 = .ok (.invokevirtual 167, 3) := by decide +kernel
theorem dX9_copies_156 : decode cX9_copies 156 = .ok (.iload 7, 2) := by decide +kernel
theorem dX9_copies_158 : decode cX9_copies 158 = .ok (.aload_n 0, 1) := by decide +kernel
theorem dX9_copies_159 : decode cX9_copies 159 = .ok (.getfield 7, 3) := by decide +kernel
theorem dX9_copies_162 : decode cX9_copies 162 = .ok (.iload 11, 2) := by decide +kernel
theorem dX9_copies_164 : decode cX9_copies 164 = .ok (.iconst 0, 1) := by decide +kernel
theorem dX9_copies_165 : decode cX9_copies 165 = .ok (.iadd, 1) := by decide +kernel
theorem dX9_copies_166 : decode cX9_copies 166 = .ok (.iaload, 1) := by decide +kernel
theorem dX9_copies_167 : decode cX9_copies 167 = .ok (.iconst 3, 1) := by decide +kernel
theorem dX9_copies_168 : decode cX9_copies 168 = .ok (.if_icmp .ne 7, 3) := by decide +kernel
theorem dX9_copies_171 : decode cX9_copies 171 = .ok (.iconst 1, 1) := by decide +kernel
theorem dX9_copies_172 : decode cX9_copies 172 = .ok (.goto 4, 3) := by decide +kernel
theorem dX9_copies_175 : decode cX9_copies 175 = .ok (.iconst 0, 1) := by decide +kernel
theorem dX9_copies_176 : decode cX9_copies 176 = .ok (.iadd, 1) := by decide +kernel
theorem dX9_copies_177 : decode cX9_copies 177 = .ok (.istore 7, 2) := by decide +kernel
theorem dX9_copies_179 : decode cX9_copies 179 = .ok (.iinc 10 1, 3) := by decide +kernel
theorem dX9_copies_182 : decode cX9_copies 182 = .ok (.goto (-87), 3) := by decide +kernel
theorem dX9_copies_185 : decode cX9_copies 185 = .ok (.iinc 8 1, 3) := by decide +kernel
theorem dX9_copies_188 : decode cX9_copies 188 = .ok (.goto (-145), 3) := by decide +kernel
theorem dX9_copies_191 : decode cX9_copies 191 = .ok (.iload 7, 2) := by decide +kernel
theorem dX9_copies_193 : decode cX9_copies 193 = .ok (.ireturn, 1) := by decide +kernel
theorem dX9_terms_0 : decode cX9_terms 0 = .ok (.iload_n 1, 1) := by decide +kernel
theorem dX9_terms_1 : decode cX9_terms 1 = .ok (.iload_n 2, 1) := by decide +kernel
theorem dX9_terms_2 : decode cX9_terms 2 = .ok (.invokestatic 99, 3) := by decide +kernel
theorem dX9_terms_5 : decode cX9_terms 5 = .ok (.ifCond .eq 16, 3) := by decide +kernel
theorem dX9_terms_8 : decode cX9_terms 8 = .ok (.aload_n 0, 1) := by decide +kernel
theorem dX9_terms_9 : decode cX9_terms 9 = .ok (.getfield 7, 3) := by decide +kernel
theorem dX9_terms_12 : decode cX9_terms 12 = .ok (.iload_n 1, 1) := by decide +kernel
theorem dX9_terms_13 : decode cX9_terms 13 = .ok (.iload_n 2, 1) := by decide +kernel
theorem dX9_terms_14 : decode cX9_terms 14 = .ok (.invokestatic 111, 3) := by decide +kernel
theorem dX9_terms_17 : decode cX9_terms 17 = .ok (.iaload, 1) := by decide +kernel
theorem dX9_terms_18 : decode cX9_terms 18 = .ok (.goto 7, 3) := by decide +kernel
theorem dX9_terms_21 : decode cX9_terms 21 = .ok (.aload_n 0, 1) := by decide +kernel
theorem dX9_terms_22 : decode cX9_terms 22 = .ok (.invokevirtual 95, 3) := by decide +kernel
theorem dX9_terms_25 : decode cX9_terms 25 = .ok (.ireturn, 1) := by decide +kernel
theorem dX9_term_0 : decode cX9_term 0 = .ok (.iload_n 1, 1) := by decide +kernel
theorem dX9_term_1 : decode cX9_term 1 = .ok (.iload_n 2, 1) := by decide +kernel
theorem dX9_term_2 : decode cX9_term 2 = .ok (.invokestatic 99, 3) := by decide +kernel
theorem dX9_term_5 : decode cX9_term 5 = .ok (.ifCond .eq 37, 3) := by decide +kernel
theorem dX9_term_8 : decode cX9_term 8 = .ok (.iload 4, 2) := by decide +kernel
theorem dX9_term_10 : decode cX9_term 10 = .ok (.iconst 0, 1) := by decide +kernel
theorem dX9_term_11 : decode cX9_term 11 = .ok (.iconst 5, 1) := by decide +kernel
theorem dX9_term_12 : decode cX9_term 12 = .ok (.invokestatic 53, 3) := by decide +kernel
theorem dX9_term_15 : decode cX9_term 15 = .ok (.ifCond .eq 27, 3) := by decide +kernel
theorem dX9_term_18 : decode cX9_term 18 = .ok (.iload_n 3, 1) := by decide +kernel
theorem dX9_term_19 : decode cX9_term 19 = .ok (.iconst 0, 1) := by decide +kernel
theorem dX9_term_20 : decode cX9_term 20 = .ok (.aload_n 0, 1) := by decide +kernel
theorem dX9_term_21 : decode cX9_term 21 = .ok (.getfield 7, 3) := by decide +kernel
theorem dX9_term_24 : decode cX9_term 24 = .ok (.iload_n 1, 1) := by decide +kernel
theorem dX9_term_25 : decode cX9_term 25 = .ok (.iload_n 2, 1) := by decide +kernel
theorem dX9_term_26 : decode cX9_term 26 = .ok (.invokestatic 111, 3) := by decide +kernel
theorem dX9_term_29 : decode cX9_term 29 = .ok (.iaload, 1) := by decide +kernel
theorem dX9_term_30 : decode cX9_term 30 = .ok (.iconst 1, 1) := by decide +kernel
theorem dX9_term_31 : decode cX9_term 31 = .ok (.isub, 1) := by decide +kernel
theorem dX9_term_32 : decode cX9_term 32 = .ok (.invokestatic 53, 3) := by decide +kernel
theorem dX9_term_35 : decode cX9_term 35 = .ok (.ifCond .eq 7, 3) := by decide +kernel
theorem dX9_term_38 : decode cX9_term 38 = .ok (.iconst 1, 1) := by decide +kernel
theorem dX9_term_39 : decode cX9_term 39 = .ok (.goto 4, 3) := by decide +kernel
theorem dX9_term_42 : decode cX9_term 42 = .ok (.iconst 0, 1) := by decide +kernel
theorem dX9_term_43 : decode cX9_term 43 = .ok (.istore 5, 2) := by decide +kernel
theorem dX9_term_45 : decode cX9_term 45 = .ok (.iload 5, 2) := by decide +kernel
theorem dX9_term_47 : decode cX9_term 47 = .ok (.ifCond .eq 23, 3) := by decide +kernel
theorem dX9_term_50 : decode cX9_term 50 = .ok (.aload_n 0, 1) := by decide +kernel
theorem dX9_term_51 : decode cX9_term 51 = .ok (.getfield 7, 3) := by decide +kernel
theorem dX9_term_54 : decode cX9_term 54 = .ok (.iload_n 1, 1) := by decide +kernel
theorem dX9_term_55 : decode cX9_term 55 = .ok (.iload_n 2, 1) := by decide +kernel
theorem dX9_term_56 : decode cX9_term 56 = .ok (.invokestatic 111, 3) := by decide +kernel
theorem dX9_term_59 : decode cX9_term 59 = .ok (.iload_n 3, 1) := by decide +kernel
theorem dX9_term_60 : decode cX9_term 60 = .ok (.invokestatic 137, 3) := by decide +kernel
theorem dX9_term_63 : decode cX9_term 63 = .ok (.iload 4, 2) := by decide +kernel
theorem dX9_term_65 : decode cX9_term 65 = .ok (.iadd, 1) := by decide +kernel
theorem dX9_term_66 : decode cX9_term 66 = .ok (.iaload, 1) := by decide +kernel
theorem dX9_term_67 : decode cX9_term 67 = .ok (.goto 7, 3) := by decide +kernel
theorem dX9_term_70 : decode cX9_term 70 = .ok (.aload_n 0, 1) := by decide +kernel
theorem dX9_term_71 : decode cX9_term 71 = .ok (.invokevirtual 95, 3) := by decide +kernel
theorem dX9_term_74 : decode cX9_term 74 = .ok (.ireturn, 1) := by decide +kernel
theorem dX9_writes_0 : decode cX9_writes 0 = .ok (.aload_n 0, 1) := by decide +kernel
theorem dX9_writes_1 : decode cX9_writes 1 = .ok (.getfield 28, 3) := by decide +kernel
theorem dX9_writes_4 : decode cX9_writes 4 = .ok (.aload_n 0, 1) := by decide +kernel
theorem dX9_writes_5 : decode cX9_writes 5 = .ok (.getfield 170, 3) := by decide +kernel
theorem dX9_writes_8 : decode cX9_writes 8 = .ok (.iload_n 1, 1) := by decide +kernel
theorem dX9_writes_9 : decode cX9_writes 9 = .ok (.iastore, 1) := by decide +kernel
theorem dX9_writes_10 : decode cX9_writes 10 = .ok (.aload_n 0, 1) := by decide +kernel
theorem dX9_writes_11 : decode cX9_writes 11 = .ok (.dup, 1) := by decide +kernel
theorem dX9_writes_12 : decode cX9_writes 12 = .ok (.getfield 170, 3) := by decide +kernel
theorem dX9_writes_15 : decode cX9_writes 15 = .ok (.iconst 1, 1) := by decide +kernel
theorem dX9_writes_16 : decode cX9_writes 16 = .ok (.iadd, 1) := by decide +kernel
theorem dX9_writes_17 : decode cX9_writes 17 = .ok (.putfield 170, 3) := by decide +kernel
theorem dX9_writes_20 : decode cX9_writes 20 = .ok (.return_, 1) := by decide +kernel
theorem dX9_writesPlace_0 : decode cX9_writesPlace 0 = .ok (.iload_n 3, 1) := by decide +kernel
theorem dX9_writesPlace_1 : decode cX9_writesPlace 1 = .ok (.iconst 1, 1) := by decide +kernel
theorem dX9_writesPlace_2 : decode cX9_writesPlace 2 = .ok (.iand, 1) := by decide +kernel
theorem dX9_writesPlace_3 : decode cX9_writesPlace 3 = .ok (.iconst 1, 1) := by decide +kernel
theorem dX9_writesPlace_4 : decode cX9_writesPlace 4 = .ok (.if_icmp .ne 9, 3) := by decide +kernel
theorem dX9_writesPlace_7 : decode cX9_writesPlace 7 = .ok (.aload_n 0, 1) := by decide +kernel
theorem dX9_writesPlace_8 : decode cX9_writesPlace 8 = .ok (.bipush 36, 2) := by decide +kernel
theorem dX9_writesPlace_10 : decode cX9_writesPlace 10 = .ok (.invokevirtual 173, 3) := by decide +kernel
theorem dX9_writesPlace_13 : decode cX9_writesPlace 13 = .ok (.aload_n 0, 1) := by decide +kernel
theorem dX9_writesPlace_14 : decode cX9_writesPlace 14 = .ok (.bipush 65, 2) := by decide +kernel
theorem dX9_writesPlace_16 : decode cX9_writesPlace 16 = .ok (.iload_n 1, 1) := by decide +kernel
theorem dX9_writesPlace_17 : decode cX9_writesPlace 17 = .ok (.iadd, 1) := by decide +kernel
theorem dX9_writesPlace_18 : decode cX9_writesPlace 18 = .ok (.invokevirtual 173, 3) := by decide +kernel
theorem dX9_writesPlace_21 : decode cX9_writesPlace 21 = .ok (.iload_n 3, 1) := by decide +kernel
theorem dX9_writesPlace_22 : decode cX9_writesPlace 22 = .ok (.iconst 2, 1) := by decide +kernel
theorem dX9_writesPlace_23 : decode cX9_writesPlace 23 = .ok (.iand, 1) := by decide +kernel
theorem dX9_writesPlace_24 : decode cX9_writesPlace 24 = .ok (.iconst 2, 1) := by decide +kernel
theorem dX9_writesPlace_25 : decode cX9_writesPlace 25 = .ok (.if_icmp .ne 9, 3) := by decide +kernel
theorem dX9_writesPlace_28 : decode cX9_writesPlace 28 = .ok (.aload_n 0, 1) := by decide +kernel
theorem dX9_writesPlace_29 : decode cX9_writesPlace 29 = .ok (.bipush 36, 2) := by decide +kernel
theorem dX9_writesPlace_31 : decode cX9_writesPlace 31 = .ok (.invokevirtual 173, 3) := by decide +kernel
theorem dX9_writesPlace_34 : decode cX9_writesPlace 34 = .ok (.aload_n 0, 1) := by decide +kernel
theorem dX9_writesPlace_35 : decode cX9_writesPlace 35 = .ok (.bipush 49, 2) := by decide +kernel
theorem dX9_writesPlace_37 : decode cX9_writesPlace 37 = .ok (.iload_n 2, 1) := by decide +kernel
theorem dX9_writesPlace_38 : decode cX9_writesPlace 38 = .ok (.iadd, 1) := by decide +kernel
theorem dX9_writesPlace_39 : decode cX9_writesPlace 39 = .ok (.invokevirtual 173, 3) := by decide +kernel
theorem dX9_writesPlace_42 : decode cX9_writesPlace 42 = .ok (.return_, 1) := by decide +kernel
theorem dX9_writesNumber_0 : decode cX9_writesNumber 0 = .ok (.iload_n 1, 1) := by decide +kernel
theorem dX9_writesNumber_1 : decode cX9_writesNumber 1 = .ok (.bipush 99, 2) := by decide +kernel
theorem dX9_writesNumber_3 : decode cX9_writesNumber 3 = .ok (.if_icmp .le 14, 3) := by decide +kernel
theorem dX9_writesNumber_6 : decode cX9_writesNumber 6 = .ok (.aload_n 0, 1) := by decide +kernel
theorem dX9_writesNumber_7 : decode cX9_writesNumber 7 = .ok (.bipush 48, 2) := by decide +kernel
theorem dX9_writesNumber_9 : decode cX9_writesNumber 9 = .ok (.iload_n 1, 1) := by decide +kernel
theorem dX9_writesNumber_10 : decode cX9_writesNumber 10 = .ok (.bipush 100, 2) := by decide +kernel
theorem dX9_writesNumber_12 : decode cX9_writesNumber 12 = .ok (.idiv, 1) := by decide +kernel
theorem dX9_writesNumber_13 : decode cX9_writesNumber 13 = .ok (.iadd, 1) := by decide +kernel
theorem dX9_writesNumber_14 : decode cX9_writesNumber 14 = .ok (.invokevirtual 173, 3) := by decide +kernel
theorem dX9_writesNumber_17 : decode cX9_writesNumber 17 = .ok (.iload_n 1, 1) := by decide +kernel
theorem dX9_writesNumber_18 : decode cX9_writesNumber 18 = .ok (.bipush 9, 2) := by decide +kernel
theorem dX9_writesNumber_20 : decode cX9_writesNumber 20 = .ok (.if_icmp .le 17, 3) := by decide +kernel
theorem dX9_writesNumber_23 : decode cX9_writesNumber 23 = .ok (.aload_n 0, 1) := by decide +kernel
theorem dX9_writesNumber_24 : decode cX9_writesNumber 24 = .ok (.bipush 48, 2) := by decide +kernel
theorem dX9_writesNumber_26 : decode cX9_writesNumber 26 = .ok (.iload_n 1, 1) := by decide +kernel
theorem dX9_writesNumber_27 : decode cX9_writesNumber 27 = .ok (.bipush 10, 2) := by decide +kernel
theorem dX9_writesNumber_29 : decode cX9_writesNumber 29 = .ok (.idiv, 1) := by decide +kernel
theorem dX9_writesNumber_30 : decode cX9_writesNumber 30 = .ok (.bipush 10, 2) := by decide +kernel
theorem dX9_writesNumber_32 : decode cX9_writesNumber 32 = .ok (.irem, 1) := by decide +kernel
theorem dX9_writesNumber_33 : decode cX9_writesNumber 33 = .ok (.iadd, 1) := by decide +kernel
theorem dX9_writesNumber_34 : decode cX9_writesNumber 34 = .ok (.invokevirtual 173, 3) := by decide +kernel
theorem dX9_writesNumber_37 : decode cX9_writesNumber 37 = .ok (.aload_n 0, 1) := by decide +kernel
theorem dX9_writesNumber_38 : decode cX9_writesNumber 38 = .ok (.bipush 48, 2) := by decide +kernel
theorem dX9_writesNumber_40 : decode cX9_writesNumber 40 = .ok (.iload_n 1, 1) := by decide +kernel
theorem dX9_writesNumber_41 : decode cX9_writesNumber 41 = .ok (.bipush 10, 2) := by decide +kernel
theorem dX9_writesNumber_43 : decode cX9_writesNumber 43 = .ok (.irem, 1) := by decide +kernel
theorem dX9_writesNumber_44 : decode cX9_writesNumber 44 = .ok (.iadd, 1) := by decide +kernel
theorem dX9_writesNumber_45 : decode cX9_writesNumber 45 = .ok (.invokevirtual 173, 3) := by decide +kernel
theorem dX9_writesNumber_48 : decode cX9_writesNumber 48 = .ok (.return_, 1) := by decide +kernel
theorem dX9_writesTerm_0 : decode cX9_writesTerm 0 = .ok (.aload_n 0, 1) := by decide +kernel
theorem dX9_writesTerm_1 : decode cX9_writesTerm 1 = .ok (.getfield 7, 3) := by decide +kernel
theorem dX9_writesTerm_4 : decode cX9_writesTerm 4 = .ok (.iload_n 1, 1) := by decide +kernel
theorem dX9_writesTerm_5 : decode cX9_writesTerm 5 = .ok (.iconst 0, 1) := by decide +kernel
theorem dX9_writesTerm_6 : decode cX9_writesTerm 6 = .ok (.iadd, 1) := by decide +kernel
theorem dX9_writesTerm_7 : decode cX9_writesTerm 7 = .ok (.iaload, 1) := by decide +kernel
theorem dX9_writesTerm_8 : decode cX9_writesTerm 8 = .ok (.tableswitch 141 0 2 #[28, 43, 74], 28) := by decide +kernel
theorem dX9_writesTerm_36 : decode cX9_writesTerm 36 = .ok (.aload_n 0, 1) := by decide +kernel
theorem dX9_writesTerm_37 : decode cX9_writesTerm 37 = .ok (.aload_n 0, 1) := by decide +kernel
theorem dX9_writesTerm_38 : decode cX9_writesTerm 38 = .ok (.getfield 7, 3) := by decide +kernel
theorem dX9_writesTerm_41 : decode cX9_writesTerm 41 = .ok (.iload_n 1, 1) := by decide +kernel
theorem dX9_writesTerm_42 : decode cX9_writesTerm 42 = .ok (.iconst 1, 1) := by decide +kernel
theorem dX9_writesTerm_43 : decode cX9_writesTerm 43 = .ok (.iadd, 1) := by decide +kernel
theorem dX9_writesTerm_44 : decode cX9_writesTerm 44 = .ok (.iaload, 1) := by decide +kernel
theorem dX9_writesTerm_45 : decode cX9_writesTerm 45 = .ok (.invokevirtual 176, 3) := by decide +kernel
theorem dX9_writesTerm_48 : decode cX9_writesTerm 48 = .ok (.goto 107, 3) := by decide +kernel
theorem dX9_writesTerm_51 : decode cX9_writesTerm 51 = .ok (.aload_n 0, 1) := by decide +kernel
theorem dX9_writesTerm_52 : decode cX9_writesTerm 52 = .ok (.aload_n 0, 1) := by decide +kernel
theorem dX9_writesTerm_53 : decode cX9_writesTerm 53 = .ok (.getfield 7, 3) := by decide +kernel
theorem dX9_writesTerm_56 : decode cX9_writesTerm 56 = .ok (.iload_n 1, 1) := by decide +kernel
theorem dX9_writesTerm_57 : decode cX9_writesTerm 57 = .ok (.iconst 1, 1) := by decide +kernel
theorem dX9_writesTerm_58 : decode cX9_writesTerm 58 = .ok (.iadd, 1) := by decide +kernel
theorem dX9_writesTerm_59 : decode cX9_writesTerm 59 = .ok (.iaload, 1) := by decide +kernel
theorem dX9_writesTerm_60 : decode cX9_writesTerm 60 = .ok (.aload_n 0, 1) := by decide +kernel
theorem dX9_writesTerm_61 : decode cX9_writesTerm 61 = .ok (.getfield 7, 3) := by decide +kernel
theorem dX9_writesTerm_64 : decode cX9_writesTerm 64 = .ok (.iload_n 1, 1) := by decide +kernel
theorem dX9_writesTerm_65 : decode cX9_writesTerm 65 = .ok (.iconst 2, 1) := by decide +kernel
theorem dX9_writesTerm_66 : decode cX9_writesTerm 66 = .ok (.iadd, 1) := by decide +kernel
theorem dX9_writesTerm_67 : decode cX9_writesTerm 67 = .ok (.iaload, 1) := by decide +kernel
theorem dX9_writesTerm_68 : decode cX9_writesTerm 68 = .ok (.aload_n 0, 1) := by decide +kernel
theorem dX9_writesTerm_69 : decode cX9_writesTerm 69 = .ok (.getfield 7, 3) := by decide +kernel
theorem dX9_writesTerm_72 : decode cX9_writesTerm 72 = .ok (.iload_n 1, 1) := by decide +kernel
theorem dX9_writesTerm_73 : decode cX9_writesTerm 73 = .ok (.iconst 5, 1) := by decide +kernel
theorem dX9_writesTerm_74 : decode cX9_writesTerm 74 = .ok (.iadd, 1) := by decide +kernel
theorem dX9_writesTerm_75 : decode cX9_writesTerm 75 = .ok (.iaload, 1) := by decide +kernel
theorem dX9_writesTerm_76 : decode cX9_writesTerm 76 = .ok (.invokevirtual 179, 3) := by decide +kernel
theorem dX9_writesTerm_79 : decode cX9_writesTerm 79 = .ok (.goto 76, 3) := by decide +kernel
theorem dX9_writesTerm_82 : decode cX9_writesTerm 82 = .ok (.aload_n 0, 1) := by decide +kernel
theorem dX9_writesTerm_83 : decode cX9_writesTerm 83 = .ok (.aload_n 0, 1) := by decide +kernel
theorem dX9_writesTerm_84 : decode cX9_writesTerm 84 = .ok (.getfield 7, 3) := by decide +kernel
theorem dX9_writesTerm_87 : decode cX9_writesTerm 87 = .ok (.iload_n 1, 1) := by decide +kernel
theorem dX9_writesTerm_88 : decode cX9_writesTerm 88 = .ok (.iconst 1, 1) := by decide +kernel
theorem dX9_writesTerm_89 : decode cX9_writesTerm 89 = .ok (.iadd, 1) := by decide +kernel
theorem dX9_writesTerm_90 : decode cX9_writesTerm 90 = .ok (.iaload, 1) := by decide +kernel
theorem dX9_writesTerm_91 : decode cX9_writesTerm 91 = .ok (.aload_n 0, 1) := by decide +kernel
theorem dX9_writesTerm_92 : decode cX9_writesTerm 92 = .ok (.getfield 7, 3) := by decide +kernel
theorem dX9_writesTerm_95 : decode cX9_writesTerm 95 = .ok (.iload_n 1, 1) := by decide +kernel
theorem dX9_writesTerm_96 : decode cX9_writesTerm 96 = .ok (.iconst 2, 1) := by decide +kernel
theorem dX9_writesTerm_97 : decode cX9_writesTerm 97 = .ok (.iadd, 1) := by decide +kernel
theorem dX9_writesTerm_98 : decode cX9_writesTerm 98 = .ok (.iaload, 1) := by decide +kernel
theorem dX9_writesTerm_99 : decode cX9_writesTerm 99 = .ok (.aload_n 0, 1) := by decide +kernel
theorem dX9_writesTerm_100 : decode cX9_writesTerm 100 = .ok (.getfield 7, 3) := by decide +kernel
theorem dX9_writesTerm_103 : decode cX9_writesTerm 103 = .ok (.iload_n 1, 1) := by decide +kernel
theorem dX9_writesTerm_104 : decode cX9_writesTerm 104 = .ok (.iconst 5, 1) := by decide +kernel
theorem dX9_writesTerm_105 : decode cX9_writesTerm 105 = .ok (.iadd, 1) := by decide +kernel
theorem dX9_writesTerm_106 : decode cX9_writesTerm 106 = .ok (.iaload, 1) := by decide +kernel
theorem dX9_writesTerm_107 : decode cX9_writesTerm 107 = .ok (.invokevirtual 179, 3) := by decide +kernel
theorem dX9_writesTerm_110 : decode cX9_writesTerm 110 = .ok (.aload_n 0, 1) := by decide +kernel
theorem dX9_writesTerm_111 : decode cX9_writesTerm 111 = .ok (.bipush 58, 2) := by decide +kernel
theorem dX9_writesTerm_113 : decode cX9_writesTerm 113 = .ok (.invokevirtual 173, 3) := by decide +kernel
theorem dX9_writesTerm_116 : decode cX9_writesTerm 116 = .ok (.aload_n 0, 1) := by decide +kernel
theorem dX9_writesTerm_117 : decode cX9_writesTerm 117 = .ok (.aload_n 0, 1) := by decide +kernel
theorem dX9_writesTerm_118 : decode cX9_writesTerm 118 = .ok (.getfield 7, 3) := by decide +kernel
theorem dX9_writesTerm_121 : decode cX9_writesTerm 121 = .ok (.iload_n 1, 1) := by decide +kernel
theorem dX9_writesTerm_122 : decode cX9_writesTerm 122 = .ok (.iconst 3, 1) := by decide +kernel
theorem dX9_writesTerm_123 : decode cX9_writesTerm 123 = .ok (.iadd, 1) := by decide +kernel
theorem dX9_writesTerm_124 : decode cX9_writesTerm 124 = .ok (.iaload, 1) := by decide +kernel
theorem dX9_writesTerm_125 : decode cX9_writesTerm 125 = .ok (.aload_n 0, 1) := by decide +kernel
theorem dX9_writesTerm_126 : decode cX9_writesTerm 126 = .ok (.getfield 7, 3) := by decide +kernel
theorem dX9_writesTerm_129 : decode cX9_writesTerm 129 = .ok (.iload_n 1, 1) := by decide +kernel
theorem dX9_writesTerm_130 : decode cX9_writesTerm 130 = .ok (.iconst 4, 1) := by decide +kernel
theorem dX9_writesTerm_131 : decode cX9_writesTerm 131 = .ok (.iadd, 1) := by decide +kernel
theorem dX9_writesTerm_132 : decode cX9_writesTerm 132 = .ok (.iaload, 1) := by decide +kernel
theorem dX9_writesTerm_133 : decode cX9_writesTerm 133 = .ok (.aload_n 0, 1) := by decide +kernel
theorem dX9_writesTerm_134 : decode cX9_writesTerm 134 = .ok (.getfield 7, 3) := by decide +kernel
theorem dX9_writesTerm_137 : decode cX9_writesTerm 137 = .ok (.iload_n 1, 1) := by decide +kernel
theorem dX9_writesTerm_138 : decode cX9_writesTerm 138 = .ok (.iconst 5, 1) := by decide +kernel
theorem dX9_writesTerm_139 : decode cX9_writesTerm 139 = .ok (.iadd, 1) := by decide +kernel
theorem dX9_writesTerm_140 : decode cX9_writesTerm 140 = .ok (.iaload, 1) := by decide +kernel
theorem dX9_writesTerm_141 : decode cX9_writesTerm 141 = .ok (.iconst 2, 1) := by decide +kernel
theorem dX9_writesTerm_142 : decode cX9_writesTerm 142 = .ok (.ishr, 1) := by decide +kernel
theorem dX9_writesTerm_143 : decode cX9_writesTerm 143 = .ok (.invokevirtual 179, 3) := by decide +kernel
theorem dX9_writesTerm_146 : decode cX9_writesTerm 146 = .ok (.goto 9, 3) := by decide +kernel
theorem dX9_writesTerm_149 : decode cX9_writesTerm 149 = .ok (.aload_n 0, 1) := by decide +kernel
theorem dX9_writesTerm_150 : decode cX9_writesTerm 150 = .ok (.bipush 35, 2) := by decide +kernel
theorem dX9_writesTerm_152 : decode cX9_writesTerm 152 = .ok (.invokevirtual 173, 3) := by decide +kernel
theorem dX9_writesTerm_155 : decode cX9_writesTerm 155 = .ok (.return_, 1) := by decide +kernel
theorem dX9_shown_0 : decode cX9_shown 0 = .ok (.iload_n 1, 1) := by decide +kernel
theorem dX9_shown_1 : decode cX9_shown 1 = .ok (.iload_n 2, 1) := by decide +kernel
theorem dX9_shown_2 : decode cX9_shown 2 = .ok (.invokestatic 99, 3) := by decide +kernel
theorem dX9_shown_5 : decode cX9_shown 5 = .ok (.ifCond .eq 7, 3) := by decide +kernel
theorem dX9_shown_8 : decode cX9_shown 8 = .ok (.iload_n 3, 1) := by decide +kernel
theorem dX9_shown_9 : decode cX9_shown 9 = .ok (.ifCond .ge 8, 3) := by decide +kernel
theorem dX9_shown_12 : decode cX9_shown 12 = .ok (.aload_n 0, 1) := by decide +kernel
theorem dX9_shown_13 : decode cX9_shown 13 = .ok (.invokevirtual 95, 3) := by decide +kernel
theorem dX9_shown_16 : decode cX9_shown 16 = .ok (.ireturn, 1) := by decide +kernel
theorem dX9_shown_17 : decode cX9_shown 17 = .ok (.aload_n 0, 1) := by decide +kernel
theorem dX9_shown_18 : decode cX9_shown 18 = .ok (.iconst 0, 1) := by decide +kernel
theorem dX9_shown_19 : decode cX9_shown 19 = .ok (.putfield 170, 3) := by decide +kernel
theorem dX9_shown_22 : decode cX9_shown 22 = .ok (.iload_n 1, 1) := by decide +kernel
theorem dX9_shown_23 : decode cX9_shown 23 = .ok (.iload_n 2, 1) := by decide +kernel
theorem dX9_shown_24 : decode cX9_shown 24 = .ok (.invokestatic 111, 3) := by decide +kernel
theorem dX9_shown_27 : decode cX9_shown 27 = .ok (.istore 4, 2) := by decide +kernel
theorem dX9_shown_29 : decode cX9_shown 29 = .ok (.iconst 0, 1) := by decide +kernel
theorem dX9_shown_30 : decode cX9_shown 30 = .ok (.istore 5, 2) := by decide +kernel
theorem dX9_shown_32 : decode cX9_shown 32 = .ok (.iload 5, 2) := by decide +kernel
theorem dX9_shown_34 : decode cX9_shown 34 = .ok (.aload_n 0, 1) := by decide +kernel
theorem dX9_shown_35 : decode cX9_shown 35 = .ok (.getfield 7, 3) := by decide +kernel
theorem dX9_shown_38 : decode cX9_shown 38 = .ok (.iload 4, 2) := by decide +kernel
theorem dX9_shown_40 : decode cX9_shown 40 = .ok (.iaload, 1) := by decide +kernel
theorem dX9_shown_41 : decode cX9_shown 41 = .ok (.if_icmp .ge 31, 3) := by decide +kernel
theorem dX9_shown_44 : decode cX9_shown 44 = .ok (.iload 5, 2) := by decide +kernel
theorem dX9_shown_46 : decode cX9_shown 46 = .ok (.ifCond .le 9, 3) := by decide +kernel
theorem dX9_shown_49 : decode cX9_shown 49 = .ok (.aload_n 0, 1) := by decide +kernel
theorem dX9_shown_50 : decode cX9_shown 50 = .ok (.bipush 43, 2) := by decide +kernel
theorem dX9_shown_52 : decode cX9_shown 52 = .ok (.invokevirtual 173, 3) := by decide +kernel
theorem dX9_shown_55 : decode cX9_shown 55 = .ok (.aload_n 0, 1) := by decide +kernel
theorem dX9_shown_56 : decode cX9_shown 56 = .ok (.iload 4, 2) := by decide +kernel
theorem dX9_shown_58 : decode cX9_shown 58 = .ok (.iload 5, 2) := by decide +kernel
theorem dX9_shown_60 : decode cX9_shown 60 = .ok (.invokestatic 137, 3) := by decide +kernel
theorem dX9_shown_63 : decode cX9_shown 63 = .ok (.invokevirtual 182, 3) := by decide +kernel
theorem dX9_shown_66 : decode cX9_shown 66 = .ok (.iinc 5 1, 3) := by decide +kernel
theorem dX9_shown_69 : decode cX9_shown 69 = .ok (.goto (-37), 3) := by decide +kernel
theorem dX9_shown_72 : decode cX9_shown 72 = .ok (.iload_n 3, 1) := by decide +kernel
theorem dX9_shown_73 : decode cX9_shown 73 = .ok (.aload_n 0, 1) := by decide +kernel
theorem dX9_shown_74 : decode cX9_shown 74 = .ok (.getfield 170, 3) := by decide +kernel
theorem dX9_shown_77 : decode cX9_shown 77 = .ok (.if_icmp .ge 12, 3) := by decide +kernel
theorem dX9_shown_80 : decode cX9_shown 80 = .ok (.aload_n 0, 1) := by decide +kernel
theorem dX9_shown_81 : decode cX9_shown 81 = .ok (.getfield 28, 3) := by decide +kernel
theorem dX9_shown_84 : decode cX9_shown 84 = .ok (.iload_n 3, 1) := by decide +kernel
theorem dX9_shown_85 : decode cX9_shown 85 = .ok (.iaload, 1) := by decide +kernel
theorem dX9_shown_86 : decode cX9_shown 86 = .ok (.goto 4, 3) := by decide +kernel
theorem dX9_shown_89 : decode cX9_shown 89 = .ok (.iconst (-1), 1) := by decide +kernel
theorem dX9_shown_90 : decode cX9_shown 90 = .ok (.ireturn, 1) := by decide +kernel
theorem dX9_meets_0 : decode cX9_meets 0 = .ok (.aload_n 0, 1) := by decide +kernel
theorem dX9_meets_1 : decode cX9_meets 1 = .ok (.iload_n 1, 1) := by decide +kernel
theorem dX9_meets_2 : decode cX9_meets 2 = .ok (.putfield 185, 3) := by decide +kernel
theorem dX9_meets_5 : decode cX9_meets 5 = .ok (.aload_n 0, 1) := by decide +kernel
theorem dX9_meets_6 : decode cX9_meets 6 = .ok (.iload_n 2, 1) := by decide +kernel
theorem dX9_meets_7 : decode cX9_meets 7 = .ok (.putfield 188, 3) := by decide +kernel
theorem dX9_meets_10 : decode cX9_meets 10 = .ok (.aload_n 0, 1) := by decide +kernel
theorem dX9_meets_11 : decode cX9_meets 11 = .ok (.aload_n 0, 1) := by decide +kernel
theorem dX9_meets_12 : decode cX9_meets 12 = .ok (.getfield 191, 3) := by decide +kernel
theorem dX9_meets_15 : decode cX9_meets 15 = .ok (.iconst 1, 1) := by decide +kernel
theorem dX9_meets_16 : decode cX9_meets 16 = .ok (.isub, 1) := by decide +kernel
theorem dX9_meets_17 : decode cX9_meets 17 = .ok (.putfield 194, 3) := by decide +kernel
theorem dX9_meets_20 : decode cX9_meets 20 = .ok (.return_, 1) := by decide +kernel
theorem dX9_adds_0 : decode cX9_adds 0 = .ok (.aload_n 0, 1) := by decide +kernel
theorem dX9_adds_1 : decode cX9_adds 1 = .ok (.getfield 46, 3) := by decide +kernel
theorem dX9_adds_4 : decode cX9_adds 4 = .ok (.aload_n 0, 1) := by decide +kernel
theorem dX9_adds_5 : decode cX9_adds 5 = .ok (.getfield 191, 3) := by decide +kernel
theorem dX9_adds_8 : decode cX9_adds 8 = .ok (.iconst 1, 1) := by decide +kernel
theorem dX9_adds_9 : decode cX9_adds 9 = .ok (.isub, 1) := by decide +kernel
theorem dX9_adds_10 : decode cX9_adds 10 = .ok (.dup2, 1) := by decide +kernel
theorem dX9_adds_11 : decode cX9_adds 11 = .ok (.iaload, 1) := by decide +kernel
theorem dX9_adds_12 : decode cX9_adds 12 = .ok (.iload_n 1, 1) := by decide +kernel
theorem dX9_adds_13 : decode cX9_adds 13 = .ok (.iadd, 1) := by decide +kernel
theorem dX9_adds_14 : decode cX9_adds 14 = .ok (.iastore, 1) := by decide +kernel
theorem dX9_adds_15 : decode cX9_adds 15 = .ok (.aload_n 0, 1) := by decide +kernel
theorem dX9_adds_16 : decode cX9_adds 16 = .ok (.getfield 46, 3) := by decide +kernel
theorem dX9_adds_19 : decode cX9_adds 19 = .ok (.aload_n 0, 1) := by decide +kernel
theorem dX9_adds_20 : decode cX9_adds 20 = .ok (.getfield 191, 3) := by decide +kernel
theorem dX9_adds_23 : decode cX9_adds 23 = .ok (.iconst 1, 1) := by decide +kernel
theorem dX9_adds_24 : decode cX9_adds 24 = .ok (.isub, 1) := by decide +kernel
theorem dX9_adds_25 : decode cX9_adds 25 = .ok (.iaload, 1) := by decide +kernel
theorem dX9_adds_26 : decode cX9_adds 26 = .ok (.ldc 197, 2) := by decide +kernel
theorem dX9_adds_28 : decode cX9_adds 28 = .ok (.if_icmp .le 19, 3) := by decide +kernel
theorem dX9_adds_31 : decode cX9_adds 31 = .ok (.aload_n 0, 1) := by decide +kernel
theorem dX9_adds_32 : decode cX9_adds 32 = .ok (.iconst 3, 1) := by decide +kernel
theorem dX9_adds_33 : decode cX9_adds 33 = .ok (.aload_n 0, 1) := by decide +kernel
theorem dX9_adds_34 : decode cX9_adds 34 = .ok (.getfield 37, 3) := by decide +kernel
theorem dX9_adds_37 : decode cX9_adds 37 = .ok (.aload_n 0, 1) := by decide +kernel
theorem dX9_adds_38 : decode cX9_adds 38 = .ok (.getfield 191, 3) := by decide +kernel
theorem dX9_adds_41 : decode cX9_adds 41 = .ok (.iconst 1, 1) := by decide +kernel
theorem dX9_adds_42 : decode cX9_adds 42 = .ok (.isub, 1) := by decide +kernel
theorem dX9_adds_43 : decode cX9_adds 43 = .ok (.iaload, 1) := by decide +kernel
theorem dX9_adds_44 : decode cX9_adds 44 = .ok (.invokevirtual 198, 3) := by decide +kernel
theorem dX9_adds_47 : decode cX9_adds 47 = .ok (.return_, 1) := by decide +kernel
theorem dX9_asks_0 : decode cX9_asks 0 = .ok (.aload_n 0, 1) := by decide +kernel
theorem dX9_asks_1 : decode cX9_asks 1 = .ok (.getfield 31, 3) := by decide +kernel
theorem dX9_asks_4 : decode cX9_asks 4 = .ok (.iload_n 1, 1) := by decide +kernel
theorem dX9_asks_5 : decode cX9_asks 5 = .ok (.iaload, 1) := by decide +kernel
theorem dX9_asks_6 : decode cX9_asks 6 = .ok (.iconst 1, 1) := by decide +kernel
theorem dX9_asks_7 : decode cX9_asks 7 = .ok (.if_icmp .ne 12, 3) := by decide +kernel
theorem dX9_asks_10 : decode cX9_asks 10 = .ok (.aload_n 0, 1) := by decide +kernel
theorem dX9_asks_11 : decode cX9_asks 11 = .ok (.iconst 2, 1) := by decide +kernel
theorem dX9_asks_12 : decode cX9_asks 12 = .ok (.iload_n 1, 1) := by decide +kernel
theorem dX9_asks_13 : decode cX9_asks 13 = .ok (.invokevirtual 198, 3) := by decide +kernel
theorem dX9_asks_16 : decode cX9_asks 16 = .ok (.goto 83, 3) := by decide +kernel
theorem dX9_asks_19 : decode cX9_asks 19 = .ok (.aload_n 0, 1) := by decide +kernel
theorem dX9_asks_20 : decode cX9_asks 20 = .ok (.getfield 31, 3) := by decide +kernel
theorem dX9_asks_23 : decode cX9_asks 23 = .ok (.iload_n 1, 1) := by decide +kernel
theorem dX9_asks_24 : decode cX9_asks 24 = .ok (.iaload, 1) := by decide +kernel
theorem dX9_asks_25 : decode cX9_asks 25 = .ok (.iconst 2, 1) := by decide +kernel
theorem dX9_asks_26 : decode cX9_asks 26 = .ok (.if_icmp .ne 16, 3) := by decide +kernel
theorem dX9_asks_29 : decode cX9_asks 29 = .ok (.aload_n 0, 1) := by decide +kernel
theorem dX9_asks_30 : decode cX9_asks 30 = .ok (.aload_n 0, 1) := by decide +kernel
theorem dX9_asks_31 : decode cX9_asks 31 = .ok (.getfield 34, 3) := by decide +kernel
theorem dX9_asks_34 : decode cX9_asks 34 = .ok (.iload_n 1, 1) := by decide +kernel
theorem dX9_asks_35 : decode cX9_asks 35 = .ok (.iaload, 1) := by decide +kernel
theorem dX9_asks_36 : decode cX9_asks 36 = .ok (.invokevirtual 201, 3) := by decide +kernel
theorem dX9_asks_39 : decode cX9_asks 39 = .ok (.goto 60, 3) := by decide +kernel
theorem dX9_asks_42 : decode cX9_asks 42 = .ok (.aload_n 0, 1) := by decide +kernel
theorem dX9_asks_43 : decode cX9_asks 43 = .ok (.getfield 31, 3) := by decide +kernel
theorem dX9_asks_46 : decode cX9_asks 46 = .ok (.iload_n 1, 1) := by decide +kernel
theorem dX9_asks_47 : decode cX9_asks 47 = .ok (.iconst 1, 1) := by decide +kernel
theorem dX9_asks_48 : decode cX9_asks 48 = .ok (.iastore, 1) := by decide +kernel
theorem dX9_asks_49 : decode cX9_asks 49 = .ok (.aload_n 0, 1) := by decide +kernel
theorem dX9_asks_50 : decode cX9_asks 50 = .ok (.getfield 37, 3) := by decide +kernel
theorem dX9_asks_53 : decode cX9_asks 53 = .ok (.aload_n 0, 1) := by decide +kernel
theorem dX9_asks_54 : decode cX9_asks 54 = .ok (.getfield 191, 3) := by decide +kernel
theorem dX9_asks_57 : decode cX9_asks 57 = .ok (.iload_n 1, 1) := by decide +kernel
theorem dX9_asks_58 : decode cX9_asks 58 = .ok (.iastore, 1) := by decide +kernel
theorem dX9_asks_59 : decode cX9_asks 59 = .ok (.aload_n 0, 1) := by decide +kernel
theorem dX9_asks_60 : decode cX9_asks 60 = .ok (.getfield 40, 3) := by decide +kernel
theorem dX9_asks_63 : decode cX9_asks 63 = .ok (.aload_n 0, 1) := by decide +kernel
theorem dX9_asks_64 : decode cX9_asks 64 = .ok (.getfield 191, 3) := by decide +kernel
theorem dX9_asks_67 : decode cX9_asks 67 = .ok (.iconst 0, 1) := by decide +kernel
theorem dX9_asks_68 : decode cX9_asks 68 = .ok (.iastore, 1) := by decide +kernel
theorem dX9_asks_69 : decode cX9_asks 69 = .ok (.aload_n 0, 1) := by decide +kernel
theorem dX9_asks_70 : decode cX9_asks 70 = .ok (.getfield 43, 3) := by decide +kernel
theorem dX9_asks_73 : decode cX9_asks 73 = .ok (.aload_n 0, 1) := by decide +kernel
theorem dX9_asks_74 : decode cX9_asks 74 = .ok (.getfield 191, 3) := by decide +kernel
theorem dX9_asks_77 : decode cX9_asks 77 = .ok (.iconst 0, 1) := by decide +kernel
theorem dX9_asks_78 : decode cX9_asks 78 = .ok (.iastore, 1) := by decide +kernel
theorem dX9_asks_79 : decode cX9_asks 79 = .ok (.aload_n 0, 1) := by decide +kernel
theorem dX9_asks_80 : decode cX9_asks 80 = .ok (.getfield 46, 3) := by decide +kernel
theorem dX9_asks_83 : decode cX9_asks 83 = .ok (.aload_n 0, 1) := by decide +kernel
theorem dX9_asks_84 : decode cX9_asks 84 = .ok (.getfield 191, 3) := by decide +kernel
theorem dX9_asks_87 : decode cX9_asks 87 = .ok (.iconst 0, 1) := by decide +kernel
theorem dX9_asks_88 : decode cX9_asks 88 = .ok (.iastore, 1) := by decide +kernel
theorem dX9_asks_89 : decode cX9_asks 89 = .ok (.aload_n 0, 1) := by decide +kernel
theorem dX9_asks_90 : decode cX9_asks 90 = .ok (.dup, 1) := by decide +kernel
theorem dX9_asks_91 : decode cX9_asks 91 = .ok (.getfield 191, 3) := by decide +kernel
theorem dX9_asks_94 : decode cX9_asks 94 = .ok (.iconst 1, 1) := by decide +kernel
theorem dX9_asks_95 : decode cX9_asks 95 = .ok (.iadd, 1) := by decide +kernel
theorem dX9_asks_96 : decode cX9_asks 96 = .ok (.putfield 191, 3) := by decide +kernel
theorem dX9_asks_99 : decode cX9_asks 99 = .ok (.return_, 1) := by decide +kernel
theorem dX9_asksOfBlock_0 : decode cX9_asksOfBlock 0 = .ok (.aload_n 0, 1) := by decide +kernel
theorem dX9_asksOfBlock_1 : decode cX9_asksOfBlock 1 = .ok (.getfield 7, 3) := by decide +kernel
theorem dX9_asksOfBlock_4 : decode cX9_asksOfBlock 4 = .ok (.iload_n 2, 1) := by decide +kernel
theorem dX9_asksOfBlock_5 : decode cX9_asksOfBlock 5 = .ok (.iconst 3, 1) := by decide +kernel
theorem dX9_asksOfBlock_6 : decode cX9_asksOfBlock 6 = .ok (.iadd, 1) := by decide +kernel
theorem dX9_asksOfBlock_7 : decode cX9_asksOfBlock 7 = .ok (.iaload, 1) := by decide +kernel
theorem dX9_asksOfBlock_8 : decode cX9_asksOfBlock 8 = .ok (.aload_n 0, 1) := by decide +kernel
theorem dX9_asksOfBlock_9 : decode cX9_asksOfBlock 9 = .ok (.getfield 7, 3) := by decide +kernel
theorem dX9_asksOfBlock_12 : decode cX9_asksOfBlock 12 = .ok (.iload_n 2, 1) := by decide +kernel
theorem dX9_asksOfBlock_13 : decode cX9_asksOfBlock 13 = .ok (.iconst 1, 1) := by decide +kernel
theorem dX9_asksOfBlock_14 : decode cX9_asksOfBlock 14 = .ok (.iadd, 1) := by decide +kernel
theorem dX9_asksOfBlock_15 : decode cX9_asksOfBlock 15 = .ok (.iaload, 1) := by decide +kernel
theorem dX9_asksOfBlock_16 : decode cX9_asksOfBlock 16 = .ok (.isub, 1) := by decide +kernel
theorem dX9_asksOfBlock_17 : decode cX9_asksOfBlock 17 = .ok (.iconst 1, 1) := by decide +kernel
theorem dX9_asksOfBlock_18 : decode cX9_asksOfBlock 18 = .ok (.iadd, 1) := by decide +kernel
theorem dX9_asksOfBlock_19 : decode cX9_asksOfBlock 19 = .ok (.istore_n 3, 1) := by decide +kernel
theorem dX9_asksOfBlock_20 : decode cX9_asksOfBlock 20 = .ok (.aload_n 0, 1) := by decide +kernel
theorem dX9_asksOfBlock_21 : decode cX9_asksOfBlock 21 = .ok (.getfield 7, 3) := by decide +kernel
theorem dX9_asksOfBlock_24 : decode cX9_asksOfBlock 24 = .ok (.iload_n 2, 1) := by decide +kernel
theorem dX9_asksOfBlock_25 : decode cX9_asksOfBlock 25 = .ok (.iconst 4, 1) := by decide +kernel
theorem dX9_asksOfBlock_26 : decode cX9_asksOfBlock 26 = .ok (.iadd, 1) := by decide +kernel
theorem dX9_asksOfBlock_27 : decode cX9_asksOfBlock 27 = .ok (.iaload, 1) := by decide +kernel
theorem dX9_asksOfBlock_28 : decode cX9_asksOfBlock 28 = .ok (.aload_n 0, 1) := by decide +kernel
theorem dX9_asksOfBlock_29 : decode cX9_asksOfBlock 29 = .ok (.getfield 7, 3) := by decide +kernel
theorem dX9_asksOfBlock_32 : decode cX9_asksOfBlock 32 = .ok (.iload_n 2, 1) := by decide +kernel
theorem dX9_asksOfBlock_33 : decode cX9_asksOfBlock 33 = .ok (.iconst 2, 1) := by decide +kernel
theorem dX9_asksOfBlock_34 : decode cX9_asksOfBlock 34 = .ok (.iadd, 1) := by decide +kernel
theorem dX9_asksOfBlock_35 : decode cX9_asksOfBlock 35 = .ok (.iaload, 1) := by decide +kernel
theorem dX9_asksOfBlock_36 : decode cX9_asksOfBlock 36 = .ok (.isub, 1) := by decide +kernel
theorem dX9_asksOfBlock_37 : decode cX9_asksOfBlock 37 = .ok (.iconst 1, 1) := by decide +kernel
theorem dX9_asksOfBlock_38 : decode cX9_asksOfBlock 38 = .ok (.iadd, 1) := by decide +kernel
theorem dX9_asksOfBlock_39 : decode cX9_asksOfBlock 39 = .ok (.istore 4, 2) := by decide +kernel
theorem dX9_asksOfBlock_41 : decode cX9_asksOfBlock 41 = .ok (.aload_n 0, 1) := by decide +kernel
theorem dX9_asksOfBlock_42 : decode cX9_asksOfBlock 42 = .ok (.getfield 43, 3) := by decide +kernel
theorem dX9_asksOfBlock_45 : decode cX9_asksOfBlock 45 = .ok (.iload_n 1, 1) := by decide +kernel
theorem dX9_asksOfBlock_46 : decode cX9_asksOfBlock 46 = .ok (.iaload, 1) := by decide +kernel
theorem dX9_asksOfBlock_47 : decode cX9_asksOfBlock 47 = .ok (.istore 5, 2) := by decide +kernel
theorem dX9_asksOfBlock_49 : decode cX9_asksOfBlock 49 = .ok (.iload 5, 2) := by decide +kernel
theorem dX9_asksOfBlock_51 : decode cX9_asksOfBlock 51 = .ok (.iload_n 3, 1) := by decide +kernel
theorem dX9_asksOfBlock_52 : decode cX9_asksOfBlock 52 = .ok (.iload 4, 2) := by decide +kernel
theorem dX9_asksOfBlock_54 : decode cX9_asksOfBlock 54 = .ok (.imul, 1) := by decide +kernel
theorem dX9_asksOfBlock_55 : decode cX9_asksOfBlock 55 = .ok (.if_icmp .ne 23, 3) := by decide +kernel
theorem dX9_asksOfBlock_58 : decode cX9_asksOfBlock 58 = .ok (.aload_n 0, 1) := by decide +kernel
theorem dX9_asksOfBlock_59 : decode cX9_asksOfBlock 59 = .ok (.getfield 43, 3) := by decide +kernel
theorem dX9_asksOfBlock_62 : decode cX9_asksOfBlock 62 = .ok (.iload_n 1, 1) := by decide +kernel
theorem dX9_asksOfBlock_63 : decode cX9_asksOfBlock 63 = .ok (.iconst 0, 1) := by decide +kernel
theorem dX9_asksOfBlock_64 : decode cX9_asksOfBlock 64 = .ok (.iastore, 1) := by decide +kernel
theorem dX9_asksOfBlock_65 : decode cX9_asksOfBlock 65 = .ok (.aload_n 0, 1) := by decide +kernel
theorem dX9_asksOfBlock_66 : decode cX9_asksOfBlock 66 = .ok (.getfield 40, 3) := by decide +kernel
theorem dX9_asksOfBlock_69 : decode cX9_asksOfBlock 69 = .ok (.iload_n 1, 1) := by decide +kernel
theorem dX9_asksOfBlock_70 : decode cX9_asksOfBlock 70 = .ok (.dup2, 1) := by decide +kernel
theorem dX9_asksOfBlock_71 : decode cX9_asksOfBlock 71 = .ok (.iaload, 1) := by decide +kernel
theorem dX9_asksOfBlock_72 : decode cX9_asksOfBlock 72 = .ok (.iconst 1, 1) := by decide +kernel
theorem dX9_asksOfBlock_73 : decode cX9_asksOfBlock 73 = .ok (.iadd, 1) := by decide +kernel
theorem dX9_asksOfBlock_74 : decode cX9_asksOfBlock 74 = .ok (.iastore, 1) := by decide +kernel
theorem dX9_asksOfBlock_75 : decode cX9_asksOfBlock 75 = .ok (.goto 47, 3) := by decide +kernel
theorem dX9_asksOfBlock_78 : decode cX9_asksOfBlock 78 = .ok (.aload_n 0, 1) := by decide +kernel
theorem dX9_asksOfBlock_79 : decode cX9_asksOfBlock 79 = .ok (.getfield 43, 3) := by decide +kernel
theorem dX9_asksOfBlock_82 : decode cX9_asksOfBlock 82 = .ok (.iload_n 1, 1) := by decide +kernel
theorem dX9_asksOfBlock_83 : decode cX9_asksOfBlock 83 = .ok (.dup2, 1) := by decide +kernel
theorem dX9_asksOfBlock_84 : decode cX9_asksOfBlock 84 = .ok (.iaload, 1) := by decide +kernel
theorem dX9_asksOfBlock_85 : decode cX9_asksOfBlock 85 = .ok (.iconst 1, 1) := by decide +kernel
theorem dX9_asksOfBlock_86 : decode cX9_asksOfBlock 86 = .ok (.iadd, 1) := by decide +kernel
theorem dX9_asksOfBlock_87 : decode cX9_asksOfBlock 87 = .ok (.iastore, 1) := by decide +kernel
theorem dX9_asksOfBlock_88 : decode cX9_asksOfBlock 88 = .ok (.aload_n 0, 1) := by decide +kernel
theorem dX9_asksOfBlock_89 : decode cX9_asksOfBlock 89 = .ok (.bipush 6, 2) := by decide +kernel
theorem dX9_asksOfBlock_91 : decode cX9_asksOfBlock 91 = .ok (.aload_n 0, 1) := by decide +kernel
theorem dX9_asksOfBlock_92 : decode cX9_asksOfBlock 92 = .ok (.getfield 7, 3) := by decide +kernel
theorem dX9_asksOfBlock_95 : decode cX9_asksOfBlock 95 = .ok (.iload_n 2, 1) := by decide +kernel
theorem dX9_asksOfBlock_96 : decode cX9_asksOfBlock 96 = .ok (.iconst 2, 1) := by decide +kernel
theorem dX9_asksOfBlock_97 : decode cX9_asksOfBlock 97 = .ok (.iadd, 1) := by decide +kernel
theorem dX9_asksOfBlock_98 : decode cX9_asksOfBlock 98 = .ok (.iaload, 1) := by decide +kernel
theorem dX9_asksOfBlock_99 : decode cX9_asksOfBlock 99 = .ok (.iload 5, 2) := by decide +kernel
theorem dX9_asksOfBlock_101 : decode cX9_asksOfBlock 101 = .ok (.iload_n 3, 1) := by decide +kernel
theorem dX9_asksOfBlock_102 : decode cX9_asksOfBlock 102 = .ok (.idiv, 1) := by decide +kernel
theorem dX9_asksOfBlock_103 : decode cX9_asksOfBlock 103 = .ok (.iadd, 1) := by decide +kernel
theorem dX9_asksOfBlock_104 : decode cX9_asksOfBlock 104 = .ok (.imul, 1) := by decide +kernel
theorem dX9_asksOfBlock_105 : decode cX9_asksOfBlock 105 = .ok (.aload_n 0, 1) := by decide +kernel
theorem dX9_asksOfBlock_106 : decode cX9_asksOfBlock 106 = .ok (.getfield 7, 3) := by decide +kernel
theorem dX9_asksOfBlock_109 : decode cX9_asksOfBlock 109 = .ok (.iload_n 2, 1) := by decide +kernel
theorem dX9_asksOfBlock_110 : decode cX9_asksOfBlock 110 = .ok (.iconst 1, 1) := by decide +kernel
theorem dX9_asksOfBlock_111 : decode cX9_asksOfBlock 111 = .ok (.iadd, 1) := by decide +kernel
theorem dX9_asksOfBlock_112 : decode cX9_asksOfBlock 112 = .ok (.iaload, 1) := by decide +kernel
theorem dX9_asksOfBlock_113 : decode cX9_asksOfBlock 113 = .ok (.iadd, 1) := by decide +kernel
theorem dX9_asksOfBlock_114 : decode cX9_asksOfBlock 114 = .ok (.iload 5, 2) := by decide +kernel
theorem dX9_asksOfBlock_116 : decode cX9_asksOfBlock 116 = .ok (.iload_n 3, 1) := by decide +kernel
theorem dX9_asksOfBlock_117 : decode cX9_asksOfBlock 117 = .ok (.irem, 1) := by decide +kernel
theorem dX9_asksOfBlock_118 : decode cX9_asksOfBlock 118 = .ok (.iadd, 1) := by decide +kernel
theorem dX9_asksOfBlock_119 : decode cX9_asksOfBlock 119 = .ok (.invokevirtual 204, 3) := by decide +kernel
theorem dX9_asksOfBlock_122 : decode cX9_asksOfBlock 122 = .ok (.return_, 1) := by decide +kernel
theorem dX9_goesOnAsking_0 : decode cX9_goesOnAsking 0 = .ok (.aload_n 0, 1) := by decide +kernel
theorem dX9_goesOnAsking_1 : decode cX9_goesOnAsking 1 = .ok (.getfield 191, 3) := by decide +kernel
theorem dX9_goesOnAsking_4 : decode cX9_goesOnAsking 4 = .ok (.iconst 1, 1) := by decide +kernel
theorem dX9_goesOnAsking_5 : decode cX9_goesOnAsking 5 = .ok (.isub, 1) := by decide +kernel
theorem dX9_goesOnAsking_6 : decode cX9_goesOnAsking 6 = .ok (.istore_n 1, 1) := by decide +kernel
theorem dX9_goesOnAsking_7 : decode cX9_goesOnAsking 7 = .ok (.aload_n 0, 1) := by decide +kernel
theorem dX9_goesOnAsking_8 : decode cX9_goesOnAsking 8 = .ok (.getfield 37, 3) := by decide +kernel
theorem dX9_goesOnAsking_11 : decode cX9_goesOnAsking 11 = .ok (.iload_n 1, 1) := by decide +kernel
theorem dX9_goesOnAsking_12 : decode cX9_goesOnAsking 12 = .ok (.iaload, 1) := by decide +kernel
theorem dX9_goesOnAsking_13 : decode cX9_goesOnAsking 13 = .ok (.istore_n 2, 1) := by decide +kernel
theorem dX9_goesOnAsking_14 : decode cX9_goesOnAsking 14 = .ok (.aload_n 0, 1) := by decide +kernel
theorem dX9_goesOnAsking_15 : decode cX9_goesOnAsking 15 = .ok (.getfield 40, 3) := by decide +kernel
theorem dX9_goesOnAsking_18 : decode cX9_goesOnAsking 18 = .ok (.iload_n 1, 1) := by decide +kernel
theorem dX9_goesOnAsking_19 : decode cX9_goesOnAsking 19 = .ok (.iaload, 1) := by decide +kernel
theorem dX9_goesOnAsking_20 : decode cX9_goesOnAsking 20 = .ok (.aload_n 0, 1) := by decide +kernel
theorem dX9_goesOnAsking_21 : decode cX9_goesOnAsking 21 = .ok (.getfield 7, 3) := by decide +kernel
theorem dX9_goesOnAsking_24 : decode cX9_goesOnAsking 24 = .ok (.bipush 25, 2) := by decide +kernel
theorem dX9_goesOnAsking_26 : decode cX9_goesOnAsking 26 = .ok (.iload_n 2, 1) := by decide +kernel
theorem dX9_goesOnAsking_27 : decode cX9_goesOnAsking 27 = .ok (.imul, 1) := by decide +kernel
theorem dX9_goesOnAsking_28 : decode cX9_goesOnAsking 28 = .ok (.iaload, 1) := by decide +kernel
theorem dX9_goesOnAsking_29 : decode cX9_goesOnAsking 29 = .ok (.if_icmp .ne 50, 3) := by decide +kernel
theorem dX9_goesOnAsking_32 : decode cX9_goesOnAsking 32 = .ok (.aload_n 0, 1) := by decide +kernel
theorem dX9_goesOnAsking_33 : decode cX9_goesOnAsking 33 = .ok (.getfield 31, 3) := by decide +kernel
theorem dX9_goesOnAsking_36 : decode cX9_goesOnAsking 36 = .ok (.iload_n 2, 1) := by decide +kernel
theorem dX9_goesOnAsking_37 : decode cX9_goesOnAsking 37 = .ok (.iconst 2, 1) := by decide +kernel
theorem dX9_goesOnAsking_38 : decode cX9_goesOnAsking 38 = .ok (.iastore, 1) := by decide +kernel
theorem dX9_goesOnAsking_39 : decode cX9_goesOnAsking 39 = .ok (.aload_n 0, 1) := by decide +kernel
theorem dX9_goesOnAsking_40 : decode cX9_goesOnAsking 40 = .ok (.getfield 34, 3) := by decide +kernel
theorem dX9_goesOnAsking_43 : decode cX9_goesOnAsking 43 = .ok (.iload_n 2, 1) := by decide +kernel
theorem dX9_goesOnAsking_44 : decode cX9_goesOnAsking 44 = .ok (.aload_n 0, 1) := by decide +kernel
theorem dX9_goesOnAsking_45 : decode cX9_goesOnAsking 45 = .ok (.getfield 46, 3) := by decide +kernel
theorem dX9_goesOnAsking_48 : decode cX9_goesOnAsking 48 = .ok (.iload_n 1, 1) := by decide +kernel
theorem dX9_goesOnAsking_49 : decode cX9_goesOnAsking 49 = .ok (.iaload, 1) := by decide +kernel
theorem dX9_goesOnAsking_50 : decode cX9_goesOnAsking 50 = .ok (.iastore, 1) := by decide +kernel
theorem dX9_goesOnAsking_51 : decode cX9_goesOnAsking 51 = .ok (.aload_n 0, 1) := by decide +kernel
theorem dX9_goesOnAsking_52 : decode cX9_goesOnAsking 52 = .ok (.dup, 1) := by decide +kernel
theorem dX9_goesOnAsking_53 : decode cX9_goesOnAsking 53 = .ok (.getfield 191, 3) := by decide +kernel
theorem dX9_goesOnAsking_56 : decode cX9_goesOnAsking 56 = .ok (.iconst 1, 1) := by decide +kernel
theorem dX9_goesOnAsking_57 : decode cX9_goesOnAsking 57 = .ok (.isub, 1) := by decide +kernel
theorem dX9_goesOnAsking_58 : decode cX9_goesOnAsking 58 = .ok (.putfield 191, 3) := by decide +kernel
theorem dX9_goesOnAsking_61 : decode cX9_goesOnAsking 61 = .ok (.aload_n 0, 1) := by decide +kernel
theorem dX9_goesOnAsking_62 : decode cX9_goesOnAsking 62 = .ok (.getfield 191, 3) := by decide +kernel
theorem dX9_goesOnAsking_65 : decode cX9_goesOnAsking 65 = .ok (.ifCond .le 13, 3) := by decide +kernel
theorem dX9_goesOnAsking_68 : decode cX9_goesOnAsking 68 = .ok (.aload_n 0, 1) := by decide +kernel
theorem dX9_goesOnAsking_69 : decode cX9_goesOnAsking 69 = .ok (.aload_n 0, 1) := by decide +kernel
theorem dX9_goesOnAsking_70 : decode cX9_goesOnAsking 70 = .ok (.getfield 34, 3) := by decide +kernel
theorem dX9_goesOnAsking_73 : decode cX9_goesOnAsking 73 = .ok (.iload_n 2, 1) := by decide +kernel
theorem dX9_goesOnAsking_74 : decode cX9_goesOnAsking 74 = .ok (.iaload, 1) := by decide +kernel
theorem dX9_goesOnAsking_75 : decode cX9_goesOnAsking 75 = .ok (.invokevirtual 201, 3) := by decide +kernel
theorem dX9_goesOnAsking_78 : decode cX9_goesOnAsking 78 = .ok (.return_, 1) := by decide +kernel
theorem dX9_goesOnAsking_79 : decode cX9_goesOnAsking 79 = .ok (.bipush 25, 2) := by decide +kernel
theorem dX9_goesOnAsking_81 : decode cX9_goesOnAsking 81 = .ok (.iload_n 2, 1) := by decide +kernel
theorem dX9_goesOnAsking_82 : decode cX9_goesOnAsking 82 = .ok (.imul, 1) := by decide +kernel
theorem dX9_goesOnAsking_83 : decode cX9_goesOnAsking 83 = .ok (.aload_n 0, 1) := by decide +kernel
theorem dX9_goesOnAsking_84 : decode cX9_goesOnAsking 84 = .ok (.getfield 40, 3) := by decide +kernel
theorem dX9_goesOnAsking_87 : decode cX9_goesOnAsking 87 = .ok (.iload_n 1, 1) := by decide +kernel
theorem dX9_goesOnAsking_88 : decode cX9_goesOnAsking 88 = .ok (.iaload, 1) := by decide +kernel
theorem dX9_goesOnAsking_89 : decode cX9_goesOnAsking 89 = .ok (.invokestatic 137, 3) := by decide +kernel
theorem dX9_goesOnAsking_92 : decode cX9_goesOnAsking 92 = .ok (.istore_n 3, 1) := by decide +kernel
theorem dX9_goesOnAsking_93 : decode cX9_goesOnAsking 93 = .ok (.aload_n 0, 1) := by decide +kernel
theorem dX9_goesOnAsking_94 : decode cX9_goesOnAsking 94 = .ok (.getfield 7, 3) := by decide +kernel
theorem dX9_goesOnAsking_97 : decode cX9_goesOnAsking 97 = .ok (.iload_n 3, 1) := by decide +kernel
theorem dX9_goesOnAsking_98 : decode cX9_goesOnAsking 98 = .ok (.iconst 0, 1) := by decide +kernel
theorem dX9_goesOnAsking_99 : decode cX9_goesOnAsking 99 = .ok (.iadd, 1) := by decide +kernel
theorem dX9_goesOnAsking_100 : decode cX9_goesOnAsking 100 = .ok (.iaload, 1) := by decide +kernel
theorem dX9_goesOnAsking_101 : decode cX9_goesOnAsking 101 = .ok (.tableswitch 98 0 2 #[27, 52, 89], 27) := by decide +kernel
theorem dX9_goesOnAsking_128 : decode cX9_goesOnAsking 128 = .ok (.aload_n 0, 1) := by decide +kernel
theorem dX9_goesOnAsking_129 : decode cX9_goesOnAsking 129 = .ok (.getfield 40, 3) := by decide +kernel
theorem dX9_goesOnAsking_132 : decode cX9_goesOnAsking 132 = .ok (.iload_n 1, 1) := by decide +kernel
theorem dX9_goesOnAsking_133 : decode cX9_goesOnAsking 133 = .ok (.dup2, 1) := by decide +kernel
theorem dX9_goesOnAsking_134 : decode cX9_goesOnAsking 134 = .ok (.iaload, 1) := by decide +kernel
theorem dX9_goesOnAsking_135 : decode cX9_goesOnAsking 135 = .ok (.iconst 1, 1) := by decide +kernel
theorem dX9_goesOnAsking_136 : decode cX9_goesOnAsking 136 = .ok (.iadd, 1) := by decide +kernel
theorem dX9_goesOnAsking_137 : decode cX9_goesOnAsking 137 = .ok (.iastore, 1) := by decide +kernel
theorem dX9_goesOnAsking_138 : decode cX9_goesOnAsking 138 = .ok (.aload_n 0, 1) := by decide +kernel
theorem dX9_goesOnAsking_139 : decode cX9_goesOnAsking 139 = .ok (.aload_n 0, 1) := by decide +kernel
theorem dX9_goesOnAsking_140 : decode cX9_goesOnAsking 140 = .ok (.getfield 7, 3) := by decide +kernel
theorem dX9_goesOnAsking_143 : decode cX9_goesOnAsking 143 = .ok (.iload_n 3, 1) := by decide +kernel
theorem dX9_goesOnAsking_144 : decode cX9_goesOnAsking 144 = .ok (.iconst 1, 1) := by decide +kernel
theorem dX9_goesOnAsking_145 : decode cX9_goesOnAsking 145 = .ok (.iadd, 1) := by decide +kernel
theorem dX9_goesOnAsking_146 : decode cX9_goesOnAsking 146 = .ok (.iaload, 1) := by decide +kernel
theorem dX9_goesOnAsking_147 : decode cX9_goesOnAsking 147 = .ok (.invokevirtual 201, 3) := by decide +kernel
theorem dX9_goesOnAsking_150 : decode cX9_goesOnAsking 150 = .ok (.goto 55, 3) := by decide +kernel
theorem dX9_goesOnAsking_153 : decode cX9_goesOnAsking 153 = .ok (.aload_n 0, 1) := by decide +kernel
theorem dX9_goesOnAsking_154 : decode cX9_goesOnAsking 154 = .ok (.getfield 40, 3) := by decide +kernel
theorem dX9_goesOnAsking_157 : decode cX9_goesOnAsking 157 = .ok (.iload_n 1, 1) := by decide +kernel
theorem dX9_goesOnAsking_158 : decode cX9_goesOnAsking 158 = .ok (.dup2, 1) := by decide +kernel
theorem dX9_goesOnAsking_159 : decode cX9_goesOnAsking 159 = .ok (.iaload, 1) := by decide +kernel
theorem dX9_goesOnAsking_160 : decode cX9_goesOnAsking 160 = .ok (.iconst 1, 1) := by decide +kernel
theorem dX9_goesOnAsking_161 : decode cX9_goesOnAsking 161 = .ok (.iadd, 1) := by decide +kernel
theorem dX9_goesOnAsking_162 : decode cX9_goesOnAsking 162 = .ok (.iastore, 1) := by decide +kernel
theorem dX9_goesOnAsking_163 : decode cX9_goesOnAsking 163 = .ok (.aload_n 0, 1) := by decide +kernel
theorem dX9_goesOnAsking_164 : decode cX9_goesOnAsking 164 = .ok (.bipush 6, 2) := by decide +kernel
theorem dX9_goesOnAsking_166 : decode cX9_goesOnAsking 166 = .ok (.aload_n 0, 1) := by decide +kernel
theorem dX9_goesOnAsking_167 : decode cX9_goesOnAsking 167 = .ok (.getfield 7, 3) := by decide +kernel
theorem dX9_goesOnAsking_170 : decode cX9_goesOnAsking 170 = .ok (.iload_n 3, 1) := by decide +kernel
theorem dX9_goesOnAsking_171 : decode cX9_goesOnAsking 171 = .ok (.iconst 2, 1) := by decide +kernel
theorem dX9_goesOnAsking_172 : decode cX9_goesOnAsking 172 = .ok (.iadd, 1) := by decide +kernel
theorem dX9_goesOnAsking_173 : decode cX9_goesOnAsking 173 = .ok (.iaload, 1) := by decide +kernel
theorem dX9_goesOnAsking_174 : decode cX9_goesOnAsking 174 = .ok (.imul, 1) := by decide +kernel
theorem dX9_goesOnAsking_175 : decode cX9_goesOnAsking 175 = .ok (.aload_n 0, 1) := by decide +kernel
theorem dX9_goesOnAsking_176 : decode cX9_goesOnAsking 176 = .ok (.getfield 7, 3) := by decide +kernel
theorem dX9_goesOnAsking_179 : decode cX9_goesOnAsking 179 = .ok (.iload_n 3, 1) := by decide +kernel
theorem dX9_goesOnAsking_180 : decode cX9_goesOnAsking 180 = .ok (.iconst 1, 1) := by decide +kernel
theorem dX9_goesOnAsking_181 : decode cX9_goesOnAsking 181 = .ok (.iadd, 1) := by decide +kernel
theorem dX9_goesOnAsking_182 : decode cX9_goesOnAsking 182 = .ok (.iaload, 1) := by decide +kernel
theorem dX9_goesOnAsking_183 : decode cX9_goesOnAsking 183 = .ok (.iadd, 1) := by decide +kernel
theorem dX9_goesOnAsking_184 : decode cX9_goesOnAsking 184 = .ok (.invokevirtual 204, 3) := by decide +kernel
theorem dX9_goesOnAsking_187 : decode cX9_goesOnAsking 187 = .ok (.goto 18, 3) := by decide +kernel
theorem dX9_goesOnAsking_190 : decode cX9_goesOnAsking 190 = .ok (.aload_n 0, 1) := by decide +kernel
theorem dX9_goesOnAsking_191 : decode cX9_goesOnAsking 191 = .ok (.iload_n 1, 1) := by decide +kernel
theorem dX9_goesOnAsking_192 : decode cX9_goesOnAsking 192 = .ok (.iload_n 3, 1) := by decide +kernel
theorem dX9_goesOnAsking_193 : decode cX9_goesOnAsking 193 = .ok (.invokevirtual 207, 3) := by decide +kernel
theorem dX9_goesOnAsking_196 : decode cX9_goesOnAsking 196 = .ok (.goto 9, 3) := by decide +kernel
theorem dX9_goesOnAsking_199 : decode cX9_goesOnAsking 199 = .ok (.aload_n 0, 1) := by decide +kernel
theorem dX9_goesOnAsking_200 : decode cX9_goesOnAsking 200 = .ok (.iconst 1, 1) := by decide +kernel
theorem dX9_goesOnAsking_201 : decode cX9_goesOnAsking 201 = .ok (.iload_n 2, 1) := by decide +kernel
theorem dX9_goesOnAsking_202 : decode cX9_goesOnAsking 202 = .ok (.invokevirtual 198, 3) := by decide +kernel
theorem dX9_goesOnAsking_205 : decode cX9_goesOnAsking 205 = .ok (.return_, 1) := by decide +kernel
theorem dX9_finds_0 : decode cX9_finds 0 = .ok (.iconst 0, 1) := by decide +kernel
theorem dX9_finds_1 : decode cX9_finds 1 = .ok (.istore_n 2, 1) := by decide +kernel
theorem dX9_finds_2 : decode cX9_finds 2 = .ok (.iload_n 2, 1) := by decide +kernel
theorem dX9_finds_3 : decode cX9_finds 3 = .ok (.bipush 36, 2) := by decide +kernel
theorem dX9_finds_5 : decode cX9_finds 5 = .ok (.if_icmp .ge 16, 3) := by decide +kernel
theorem dX9_finds_8 : decode cX9_finds 8 = .ok (.aload_n 0, 1) := by decide +kernel
theorem dX9_finds_9 : decode cX9_finds 9 = .ok (.getfield 31, 3) := by decide +kernel
theorem dX9_finds_12 : decode cX9_finds 12 = .ok (.iload_n 2, 1) := by decide +kernel
theorem dX9_finds_13 : decode cX9_finds 13 = .ok (.iconst 0, 1) := by decide +kernel
theorem dX9_finds_14 : decode cX9_finds 14 = .ok (.iastore, 1) := by decide +kernel
theorem dX9_finds_15 : decode cX9_finds 15 = .ok (.iinc 2 1, 3) := by decide +kernel
theorem dX9_finds_18 : decode cX9_finds 18 = .ok (.goto (-16), 3) := by decide +kernel
theorem dX9_finds_21 : decode cX9_finds 21 = .ok (.aload_n 0, 1) := by decide +kernel
theorem dX9_finds_22 : decode cX9_finds 22 = .ok (.iconst 0, 1) := by decide +kernel
theorem dX9_finds_23 : decode cX9_finds 23 = .ok (.putfield 191, 3) := by decide +kernel
theorem dX9_finds_26 : decode cX9_finds 26 = .ok (.aload_n 0, 1) := by decide +kernel
theorem dX9_finds_27 : decode cX9_finds 27 = .ok (.iconst 0, 1) := by decide +kernel
theorem dX9_finds_28 : decode cX9_finds 28 = .ok (.putfield 185, 3) := by decide +kernel
theorem dX9_finds_31 : decode cX9_finds 31 = .ok (.aload_n 0, 1) := by decide +kernel
theorem dX9_finds_32 : decode cX9_finds 32 = .ok (.iload_n 1, 1) := by decide +kernel
theorem dX9_finds_33 : decode cX9_finds 33 = .ok (.invokevirtual 204, 3) := by decide +kernel
theorem dX9_finds_36 : decode cX9_finds 36 = .ok (.aload_n 0, 1) := by decide +kernel
theorem dX9_finds_37 : decode cX9_finds 37 = .ok (.getfield 191, 3) := by decide +kernel
theorem dX9_finds_40 : decode cX9_finds 40 = .ok (.ifCond .le 17, 3) := by decide +kernel
theorem dX9_finds_43 : decode cX9_finds 43 = .ok (.aload_n 0, 1) := by decide +kernel
theorem dX9_finds_44 : decode cX9_finds 44 = .ok (.getfield 185, 3) := by decide +kernel
theorem dX9_finds_47 : decode cX9_finds 47 = .ok (.ifCond .ne 10, 3) := by decide +kernel
theorem dX9_finds_50 : decode cX9_finds 50 = .ok (.aload_n 0, 1) := by decide +kernel
theorem dX9_finds_51 : decode cX9_finds 51 = .ok (.invokevirtual 210, 3) := by decide +kernel
theorem dX9_finds_54 : decode cX9_finds 54 = .ok (.goto (-18), 3) := by decide +kernel
theorem dX9_finds_57 : decode cX9_finds 57 = .ok (.return_, 1) := by decide +kernel
theorem dX9_valueOf_0 : decode cX9_valueOf 0 = .ok (.aload_n 0, 1) := by decide +kernel
theorem dX9_valueOf_1 : decode cX9_valueOf 1 = .ok (.iload_n 1, 1) := by decide +kernel
theorem dX9_valueOf_2 : decode cX9_valueOf 2 = .ok (.invokevirtual 213, 3) := by decide +kernel
theorem dX9_valueOf_5 : decode cX9_valueOf 5 = .ok (.aload_n 0, 1) := by decide +kernel
theorem dX9_valueOf_6 : decode cX9_valueOf 6 = .ok (.getfield 185, 3) := by decide +kernel
theorem dX9_valueOf_9 : decode cX9_valueOf 9 = .ok (.ifCond .ne 12, 3) := by decide +kernel
theorem dX9_valueOf_12 : decode cX9_valueOf 12 = .ok (.aload_n 0, 1) := by decide +kernel
theorem dX9_valueOf_13 : decode cX9_valueOf 13 = .ok (.getfield 34, 3) := by decide +kernel
theorem dX9_valueOf_16 : decode cX9_valueOf 16 = .ok (.iload_n 1, 1) := by decide +kernel
theorem dX9_valueOf_17 : decode cX9_valueOf 17 = .ok (.iaload, 1) := by decide +kernel
theorem dX9_valueOf_18 : decode cX9_valueOf 18 = .ok (.goto 10, 3) := by decide +kernel
theorem dX9_valueOf_21 : decode cX9_valueOf 21 = .ok (.bipush (-10), 2) := by decide +kernel
theorem dX9_valueOf_23 : decode cX9_valueOf 23 = .ok (.aload_n 0, 1) := by decide +kernel
theorem dX9_valueOf_24 : decode cX9_valueOf 24 = .ok (.getfield 185, 3) := by decide +kernel
theorem dX9_valueOf_27 : decode cX9_valueOf 27 = .ok (.isub, 1) := by decide +kernel
theorem dX9_valueOf_28 : decode cX9_valueOf 28 = .ok (.ireturn, 1) := by decide +kernel
theorem dX9_whyOf_0 : decode cX9_whyOf 0 = .ok (.aload_n 0, 1) := by decide +kernel
theorem dX9_whyOf_1 : decode cX9_whyOf 1 = .ok (.iload_n 1, 1) := by decide +kernel
theorem dX9_whyOf_2 : decode cX9_whyOf 2 = .ok (.invokevirtual 213, 3) := by decide +kernel
theorem dX9_whyOf_5 : decode cX9_whyOf 5 = .ok (.aload_n 0, 1) := by decide +kernel
theorem dX9_whyOf_6 : decode cX9_whyOf 6 = .ok (.getfield 185, 3) := by decide +kernel
theorem dX9_whyOf_9 : decode cX9_whyOf 9 = .ok (.ifCond .ne 7, 3) := by decide +kernel
theorem dX9_whyOf_12 : decode cX9_whyOf 12 = .ok (.iconst (-1), 1) := by decide +kernel
theorem dX9_whyOf_13 : decode cX9_whyOf 13 = .ok (.goto 21, 3) := by decide +kernel
theorem dX9_whyOf_16 : decode cX9_whyOf 16 = .ok (.bipush 10, 2) := by decide +kernel
theorem dX9_whyOf_18 : decode cX9_whyOf 18 = .ok (.aload_n 0, 1) := by decide +kernel
theorem dX9_whyOf_19 : decode cX9_whyOf 19 = .ok (.getfield 188, 3) := by decide +kernel
theorem dX9_whyOf_22 : decode cX9_whyOf 22 = .ok (.bipush 6, 2) := by decide +kernel
theorem dX9_whyOf_24 : decode cX9_whyOf 24 = .ok (.irem, 1) := by decide +kernel
theorem dX9_whyOf_25 : decode cX9_whyOf 25 = .ok (.imul, 1) := by decide +kernel
theorem dX9_whyOf_26 : decode cX9_whyOf 26 = .ok (.aload_n 0, 1) := by decide +kernel
theorem dX9_whyOf_27 : decode cX9_whyOf 27 = .ok (.getfield 188, 3) := by decide +kernel
theorem dX9_whyOf_30 : decode cX9_whyOf 30 = .ok (.bipush 6, 2) := by decide +kernel
theorem dX9_whyOf_32 : decode cX9_whyOf 32 = .ok (.idiv, 1) := by decide +kernel
theorem dX9_whyOf_33 : decode cX9_whyOf 33 = .ok (.iadd, 1) := by decide +kernel
theorem dX9_whyOf_34 : decode cX9_whyOf 34 = .ok (.ireturn, 1) := by decide +kernel
theorem dX9_deepOf_0 : decode cX9_deepOf 0 = .ok (.aload_n 0, 1) := by decide +kernel
theorem dX9_deepOf_1 : decode cX9_deepOf 1 = .ok (.iload_n 1, 1) := by decide +kernel
theorem dX9_deepOf_2 : decode cX9_deepOf 2 = .ok (.invokevirtual 213, 3) := by decide +kernel
theorem dX9_deepOf_5 : decode cX9_deepOf 5 = .ok (.aload_n 0, 1) := by decide +kernel
theorem dX9_deepOf_6 : decode cX9_deepOf 6 = .ok (.getfield 185, 3) := by decide +kernel
theorem dX9_deepOf_9 : decode cX9_deepOf 9 = .ok (.ifCond .ne 7, 3) := by decide +kernel
theorem dX9_deepOf_12 : decode cX9_deepOf 12 = .ok (.iconst (-1), 1) := by decide +kernel
theorem dX9_deepOf_13 : decode cX9_deepOf 13 = .ok (.goto 7, 3) := by decide +kernel
theorem dX9_deepOf_16 : decode cX9_deepOf 16 = .ok (.aload_n 0, 1) := by decide +kernel
theorem dX9_deepOf_17 : decode cX9_deepOf 17 = .ok (.getfield 194, 3) := by decide +kernel
theorem dX9_deepOf_20 : decode cX9_deepOf 20 = .ok (.ireturn, 1) := by decide +kernel
theorem dX9_value_0 : decode cX9_value 0 = .ok (.iload_n 1, 1) := by decide +kernel
theorem dX9_value_1 : decode cX9_value 1 = .ok (.iload_n 2, 1) := by decide +kernel
theorem dX9_value_2 : decode cX9_value 2 = .ok (.invokestatic 99, 3) := by decide +kernel
theorem dX9_value_5 : decode cX9_value 5 = .ok (.ifCond .eq 16, 3) := by decide +kernel
theorem dX9_value_8 : decode cX9_value 8 = .ok (.aload_n 0, 1) := by decide +kernel
theorem dX9_value_9 : decode cX9_value 9 = .ok (.bipush 6, 2) := by decide +kernel
theorem dX9_value_11 : decode cX9_value 11 = .ok (.iload_n 2, 1) := by decide +kernel
theorem dX9_value_12 : decode cX9_value 12 = .ok (.imul, 1) := by decide +kernel
theorem dX9_value_13 : decode cX9_value 13 = .ok (.iload_n 1, 1) := by decide +kernel
theorem dX9_value_14 : decode cX9_value 14 = .ok (.iadd, 1) := by decide +kernel
theorem dX9_value_15 : decode cX9_value 15 = .ok (.invokevirtual 216, 3) := by decide +kernel
theorem dX9_value_18 : decode cX9_value 18 = .ok (.goto 7, 3) := by decide +kernel
theorem dX9_value_21 : decode cX9_value 21 = .ok (.aload_n 0, 1) := by decide +kernel
theorem dX9_value_22 : decode cX9_value 22 = .ok (.invokevirtual 95, 3) := by decide +kernel
theorem dX9_value_25 : decode cX9_value 25 = .ok (.ireturn, 1) := by decide +kernel
theorem dX9_why_0 : decode cX9_why 0 = .ok (.iload_n 1, 1) := by decide +kernel
theorem dX9_why_1 : decode cX9_why 1 = .ok (.iload_n 2, 1) := by decide +kernel
theorem dX9_why_2 : decode cX9_why 2 = .ok (.invokestatic 99, 3) := by decide +kernel
theorem dX9_why_5 : decode cX9_why 5 = .ok (.ifCond .eq 16, 3) := by decide +kernel
theorem dX9_why_8 : decode cX9_why 8 = .ok (.aload_n 0, 1) := by decide +kernel
theorem dX9_why_9 : decode cX9_why 9 = .ok (.bipush 6, 2) := by decide +kernel
theorem dX9_why_11 : decode cX9_why 11 = .ok (.iload_n 2, 1) := by decide +kernel
theorem dX9_why_12 : decode cX9_why 12 = .ok (.imul, 1) := by decide +kernel
theorem dX9_why_13 : decode cX9_why 13 = .ok (.iload_n 1, 1) := by decide +kernel
theorem dX9_why_14 : decode cX9_why 14 = .ok (.iadd, 1) := by decide +kernel
theorem dX9_why_15 : decode cX9_why 15 = .ok (.invokevirtual 219, 3) := by decide +kernel
theorem dX9_why_18 : decode cX9_why 18 = .ok (.goto 7, 3) := by decide +kernel
theorem dX9_why_21 : decode cX9_why 21 = .ok (.aload_n 0, 1) := by decide +kernel
theorem dX9_why_22 : decode cX9_why 22 = .ok (.invokevirtual 95, 3) := by decide +kernel
theorem dX9_why_25 : decode cX9_why 25 = .ok (.ireturn, 1) := by decide +kernel
theorem dX9_deep_0 : decode cX9_deep 0 = .ok (.iload_n 1, 1) := by decide +kernel
theorem dX9_deep_1 : decode cX9_deep 1 = .ok (.iload_n 2, 1) := by decide +kernel
theorem dX9_deep_2 : decode cX9_deep 2 = .ok (.invokestatic 99, 3) := by decide +kernel
theorem dX9_deep_5 : decode cX9_deep 5 = .ok (.ifCond .eq 16, 3) := by decide +kernel
theorem dX9_deep_8 : decode cX9_deep 8 = .ok (.aload_n 0, 1) := by decide +kernel
theorem dX9_deep_9 : decode cX9_deep 9 = .ok (.bipush 6, 2) := by decide +kernel
theorem dX9_deep_11 : decode cX9_deep 11 = .ok (.iload_n 2, 1) := by decide +kernel
theorem dX9_deep_12 : decode cX9_deep 12 = .ok (.imul, 1) := by decide +kernel
theorem dX9_deep_13 : decode cX9_deep 13 = .ok (.iload_n 1, 1) := by decide +kernel
theorem dX9_deep_14 : decode cX9_deep 14 = .ok (.iadd, 1) := by decide +kernel
theorem dX9_deep_15 : decode cX9_deep 15 = .ok (.invokevirtual 222, 3) := by decide +kernel
theorem dX9_deep_18 : decode cX9_deep 18 = .ok (.goto 7, 3) := by decide +kernel
theorem dX9_deep_21 : decode cX9_deep 21 = .ok (.aload_n 0, 1) := by decide +kernel
theorem dX9_deep_22 : decode cX9_deep 22 = .ok (.invokevirtual 95, 3) := by decide +kernel
theorem dX9_deep_25 : decode cX9_deep 25 = .ok (.ireturn, 1) := by decide +kernel
theorem dX9_refersTo_0 : decode cX9_refersTo 0 = .ok (.aload_n 0, 1) := by decide +kernel
theorem dX9_refersTo_1 : decode cX9_refersTo 1 = .ok (.getfield 7, 3) := by decide +kernel
theorem dX9_refersTo_4 : decode cX9_refersTo 4 = .ok (.iload_n 1, 1) := by decide +kernel
theorem dX9_refersTo_5 : decode cX9_refersTo 5 = .ok (.iconst 0, 1) := by decide +kernel
theorem dX9_refersTo_6 : decode cX9_refersTo 6 = .ok (.iadd, 1) := by decide +kernel
theorem dX9_refersTo_7 : decode cX9_refersTo 7 = .ok (.iaload, 1) := by decide +kernel
theorem dX9_refersTo_8 : decode cX9_refersTo 8 = .ok (.iconst 1, 1) := by decide +kernel
theorem dX9_refersTo_9 : decode cX9_refersTo 9 = .ok (.if_icmp .ne 33, 3) := by decide +kernel
theorem dX9_refersTo_12 : decode cX9_refersTo 12 = .ok (.aload_n 0, 1) := by decide +kernel
theorem dX9_refersTo_13 : decode cX9_refersTo 13 = .ok (.getfield 7, 3) := by decide +kernel
theorem dX9_refersTo_16 : decode cX9_refersTo 16 = .ok (.iload_n 1, 1) := by decide +kernel
theorem dX9_refersTo_17 : decode cX9_refersTo 17 = .ok (.iconst 1, 1) := by decide +kernel
theorem dX9_refersTo_18 : decode cX9_refersTo 18 = .ok (.iadd, 1) := by decide +kernel
theorem dX9_refersTo_19 : decode cX9_refersTo 19 = .ok (.iaload, 1) := by decide +kernel
theorem dX9_refersTo_20 : decode cX9_refersTo 20 = .ok (.iload_n 2, 1) := by decide +kernel
theorem dX9_refersTo_21 : decode cX9_refersTo 21 = .ok (.if_icmp .ne 19, 3) := by decide +kernel
theorem dX9_refersTo_24 : decode cX9_refersTo 24 = .ok (.aload_n 0, 1) := by decide +kernel
theorem dX9_refersTo_25 : decode cX9_refersTo 25 = .ok (.getfield 7, 3) := by decide +kernel
theorem dX9_refersTo_28 : decode cX9_refersTo 28 = .ok (.iload_n 1, 1) := by decide +kernel
theorem dX9_refersTo_29 : decode cX9_refersTo 29 = .ok (.iconst 2, 1) := by decide +kernel
theorem dX9_refersTo_30 : decode cX9_refersTo 30 = .ok (.iadd, 1) := by decide +kernel
theorem dX9_refersTo_31 : decode cX9_refersTo 31 = .ok (.iaload, 1) := by decide +kernel
theorem dX9_refersTo_32 : decode cX9_refersTo 32 = .ok (.iload_n 3, 1) := by decide +kernel
theorem dX9_refersTo_33 : decode cX9_refersTo 33 = .ok (.if_icmp .ne 7, 3) := by decide +kernel
theorem dX9_refersTo_36 : decode cX9_refersTo 36 = .ok (.iconst 1, 1) := by decide +kernel
theorem dX9_refersTo_37 : decode cX9_refersTo 37 = .ok (.goto 4, 3) := by decide +kernel
theorem dX9_refersTo_40 : decode cX9_refersTo 40 = .ok (.iconst 0, 1) := by decide +kernel
theorem dX9_refersTo_41 : decode cX9_refersTo 41 = .ok (.ireturn, 1) := by decide +kernel
theorem dX9_refersTo_42 : decode cX9_refersTo 42 = .ok (.aload_n 0, 1) := by decide +kernel
theorem dX9_refersTo_43 : decode cX9_refersTo 43 = .ok (.getfield 7, 3) := by decide +kernel
theorem dX9_refersTo_46 : decode cX9_refersTo 46 = .ok (.iload_n 1, 1) := by decide +kernel
theorem dX9_refersTo_47 : decode cX9_refersTo 47 = .ok (.iconst 0, 1) := by decide +kernel
theorem dX9_refersTo_48 : decode cX9_refersTo 48 = .ok (.iadd, 1) := by decide +kernel
theorem dX9_refersTo_49 : decode cX9_refersTo 49 = .ok (.iaload, 1) := by decide +kernel
theorem dX9_refersTo_50 : decode cX9_refersTo 50 = .ok (.iconst 2, 1) := by decide +kernel
theorem dX9_refersTo_51 : decode cX9_refersTo 51 = .ok (.if_icmp .ne 53, 3) := by decide +kernel
theorem dX9_refersTo_54 : decode cX9_refersTo 54 = .ok (.iload_n 2, 1) := by decide +kernel
theorem dX9_refersTo_55 : decode cX9_refersTo 55 = .ok (.aload_n 0, 1) := by decide +kernel
theorem dX9_refersTo_56 : decode cX9_refersTo 56 = .ok (.getfield 7, 3) := by decide +kernel
theorem dX9_refersTo_59 : decode cX9_refersTo 59 = .ok (.iload_n 1, 1) := by decide +kernel
theorem dX9_refersTo_60 : decode cX9_refersTo 60 = .ok (.iconst 1, 1) := by decide +kernel
theorem dX9_refersTo_61 : decode cX9_refersTo 61 = .ok (.iadd, 1) := by decide +kernel
theorem dX9_refersTo_62 : decode cX9_refersTo 62 = .ok (.iaload, 1) := by decide +kernel
theorem dX9_refersTo_63 : decode cX9_refersTo 63 = .ok (.aload_n 0, 1) := by decide +kernel
theorem dX9_refersTo_64 : decode cX9_refersTo 64 = .ok (.getfield 7, 3) := by decide +kernel
theorem dX9_refersTo_67 : decode cX9_refersTo 67 = .ok (.iload_n 1, 1) := by decide +kernel
theorem dX9_refersTo_68 : decode cX9_refersTo 68 = .ok (.iconst 3, 1) := by decide +kernel
theorem dX9_refersTo_69 : decode cX9_refersTo 69 = .ok (.iadd, 1) := by decide +kernel
theorem dX9_refersTo_70 : decode cX9_refersTo 70 = .ok (.iaload, 1) := by decide +kernel
theorem dX9_refersTo_71 : decode cX9_refersTo 71 = .ok (.invokestatic 53, 3) := by decide +kernel
theorem dX9_refersTo_74 : decode cX9_refersTo 74 = .ok (.ifCond .eq 30, 3) := by decide +kernel
theorem dX9_refersTo_77 : decode cX9_refersTo 77 = .ok (.iload_n 3, 1) := by decide +kernel
theorem dX9_refersTo_78 : decode cX9_refersTo 78 = .ok (.aload_n 0, 1) := by decide +kernel
theorem dX9_refersTo_79 : decode cX9_refersTo 79 = .ok (.getfield 7, 3) := by decide +kernel
theorem dX9_refersTo_82 : decode cX9_refersTo 82 = .ok (.iload_n 1, 1) := by decide +kernel
theorem dX9_refersTo_83 : decode cX9_refersTo 83 = .ok (.iconst 2, 1) := by decide +kernel
theorem dX9_refersTo_84 : decode cX9_refersTo 84 = .ok (.iadd, 1) := by decide +kernel
theorem dX9_refersTo_85 : decode cX9_refersTo 85 = .ok (.iaload, 1) := by decide +kernel
theorem dX9_refersTo_86 : decode cX9_refersTo 86 = .ok (.aload_n 0, 1) := by decide +kernel
theorem dX9_refersTo_87 : decode cX9_refersTo 87 = .ok (.getfield 7, 3) := by decide +kernel
theorem dX9_refersTo_90 : decode cX9_refersTo 90 = .ok (.iload_n 1, 1) := by decide +kernel
theorem dX9_refersTo_91 : decode cX9_refersTo 91 = .ok (.iconst 4, 1) := by decide +kernel
theorem dX9_refersTo_92 : decode cX9_refersTo 92 = .ok (.iadd, 1) := by decide +kernel
theorem dX9_refersTo_93 : decode cX9_refersTo 93 = .ok (.iaload, 1) := by decide +kernel
theorem dX9_refersTo_94 : decode cX9_refersTo 94 = .ok (.invokestatic 53, 3) := by decide +kernel
theorem dX9_refersTo_97 : decode cX9_refersTo 97 = .ok (.ifCond .eq 7, 3) := by decide +kernel
theorem dX9_refersTo_100 : decode cX9_refersTo 100 = .ok (.iconst 1, 1) := by decide +kernel
theorem dX9_refersTo_101 : decode cX9_refersTo 101 = .ok (.goto 4, 3) := by decide +kernel
theorem dX9_refersTo_104 : decode cX9_refersTo 104 = .ok (.iconst 0, 1) := by decide +kernel
theorem dX9_refersTo_105 : decode cX9_refersTo 105 = .ok (.ireturn, 1) := by decide +kernel
theorem dX9_users_0 : decode cX9_users 0 = .ok (.iload_n 1, 1) := by decide +kernel
theorem dX9_users_1 : decode cX9_users 1 = .ok (.iload_n 2, 1) := by decide +kernel
theorem dX9_users_2 : decode cX9_users 2 = .ok (.invokestatic 99, 3) := by decide +kernel
theorem dX9_users_5 : decode cX9_users 5 = .ok (.ifCond .ne 8, 3) := by decide +kernel
theorem dX9_users_8 : decode cX9_users 8 = .ok (.aload_n 0, 1) := by decide +kernel
theorem dX9_users_9 : decode cX9_users 9 = .ok (.invokevirtual 95, 3) := by decide +kernel
theorem dX9_users_12 : decode cX9_users 12 = .ok (.ireturn, 1) := by decide +kernel
theorem dX9_users_13 : decode cX9_users 13 = .ok (.iconst 0, 1) := by decide +kernel
theorem dX9_users_14 : decode cX9_users 14 = .ok (.istore_n 3, 1) := by decide +kernel
theorem dX9_users_15 : decode cX9_users 15 = .ok (.iconst 0, 1) := by decide +kernel
theorem dX9_users_16 : decode cX9_users 16 = .ok (.istore 4, 2) := by decide +kernel
theorem dX9_users_18 : decode cX9_users 18 = .ok (.iload 4, 2) := by decide +kernel
theorem dX9_users_20 : decode cX9_users 20 = .ok (.bipush 36, 2) := by decide +kernel
theorem dX9_users_22 : decode cX9_users 22 = .ok (.if_icmp .ge 60, 3) := by decide +kernel
theorem dX9_users_25 : decode cX9_users 25 = .ok (.iconst 0, 1) := by decide +kernel
theorem dX9_users_26 : decode cX9_users 26 = .ok (.istore 5, 2) := by decide +kernel
theorem dX9_users_28 : decode cX9_users 28 = .ok (.iload 5, 2) := by decide +kernel
theorem dX9_users_30 : decode cX9_users 30 = .ok (.aload_n 0, 1) := by decide +kernel
theorem dX9_users_31 : decode cX9_users 31 = .ok (.getfield 7, 3) := by decide +kernel
theorem dX9_users_34 : decode cX9_users 34 = .ok (.bipush 25, 2) := by decide +kernel
theorem dX9_users_36 : decode cX9_users 36 = .ok (.iload 4, 2) := by decide +kernel
theorem dX9_users_38 : decode cX9_users 38 = .ok (.imul, 1) := by decide +kernel
theorem dX9_users_39 : decode cX9_users 39 = .ok (.iaload, 1) := by decide +kernel
theorem dX9_users_40 : decode cX9_users 40 = .ok (.if_icmp .ge 36, 3) := by decide +kernel
theorem dX9_users_43 : decode cX9_users 43 = .ok (.iload_n 3, 1) := by decide +kernel
theorem dX9_users_44 : decode cX9_users 44 = .ok (.aload_n 0, 1) := by decide +kernel
theorem dX9_users_45 : decode cX9_users 45 = .ok (.bipush 25, 2) := by decide +kernel
theorem dX9_users_47 : decode cX9_users 47 = .ok (.iload 4, 2) := by decide +kernel
theorem dX9_users_49 : decode cX9_users 49 = .ok (.imul, 1) := by decide +kernel
theorem dX9_users_50 : decode cX9_users 50 = .ok (.iload 5, 2) := by decide +kernel
theorem dX9_users_52 : decode cX9_users 52 = .ok (.invokestatic 137, 3) := by decide +kernel
theorem dX9_users_55 : decode cX9_users 55 = .ok (.iload_n 1, 1) := by decide +kernel
theorem dX9_users_56 : decode cX9_users 56 = .ok (.iload_n 2, 1) := by decide +kernel
theorem dX9_users_57 : decode cX9_users 57 = .ok (.invokevirtual 225, 3) := by decide +kernel
theorem dX9_users_60 : decode cX9_users 60 = .ok (.ifCond .eq 7, 3) := by decide +kernel
theorem dX9_users_63 : decode cX9_users 63 = .ok (.iconst 1, 1) := by decide +kernel
theorem dX9_users_64 : decode cX9_users 64 = .ok (.goto 4, 3) := by decide +kernel
theorem dX9_users_67 : decode cX9_users 67 = .ok (.iconst 0, 1) := by decide +kernel
theorem dX9_users_68 : decode cX9_users 68 = .ok (.iadd, 1) := by decide +kernel
theorem dX9_users_69 : decode cX9_users 69 = .ok (.istore_n 3, 1) := by decide +kernel
theorem dX9_users_70 : decode cX9_users 70 = .ok (.iinc 5 1, 3) := by decide +kernel
theorem dX9_users_73 : decode cX9_users 73 = .ok (.goto (-45), 3) := by decide +kernel
theorem dX9_users_76 : decode cX9_users 76 = .ok (.iinc 4 1, 3) := by decide +kernel
theorem dX9_users_79 : decode cX9_users 79 = .ok (.goto (-61), 3) := by decide +kernel
theorem dX9_users_82 : decode cX9_users 82 = .ok (.iload_n 3, 1) := by decide +kernel
theorem dX9_users_83 : decode cX9_users 83 = .ok (.ireturn, 1) := by decide +kernel
theorem dX9_countOf_0 : decode cX9_countOf 0 = .ok (.iload_n 1, 1) := by decide +kernel
theorem dX9_countOf_1 : decode cX9_countOf 1 = .ok (.ifCond .ne 8, 3) := by decide +kernel
theorem dX9_countOf_4 : decode cX9_countOf 4 = .ok (.aload_n 0, 1) := by decide +kernel
theorem dX9_countOf_5 : decode cX9_countOf 5 = .ok (.invokevirtual 153, 3) := by decide +kernel
theorem dX9_countOf_8 : decode cX9_countOf 8 = .ok (.ireturn, 1) := by decide +kernel
theorem dX9_countOf_9 : decode cX9_countOf 9 = .ok (.iconst 0, 1) := by decide +kernel
theorem dX9_countOf_10 : decode cX9_countOf 10 = .ok (.istore_n 2, 1) := by decide +kernel
theorem dX9_countOf_11 : decode cX9_countOf 11 = .ok (.iconst 0, 1) := by decide +kernel
theorem dX9_countOf_12 : decode cX9_countOf 12 = .ok (.istore_n 3, 1) := by decide +kernel
theorem dX9_countOf_13 : decode cX9_countOf 13 = .ok (.iload_n 3, 1) := by decide +kernel
theorem dX9_countOf_14 : decode cX9_countOf 14 = .ok (.bipush 36, 2) := by decide +kernel
theorem dX9_countOf_16 : decode cX9_countOf 16 = .ok (.if_icmp .ge 91, 3) := by decide +kernel
theorem dX9_countOf_19 : decode cX9_countOf 19 = .ok (.iload_n 1, 1) := by decide +kernel
theorem dX9_countOf_20 : decode cX9_countOf 20 = .ok (.iconst 3, 1) := by decide +kernel
theorem dX9_countOf_21 : decode cX9_countOf 21 = .ok (.if_icmp .ne 19, 3) := by decide +kernel
theorem dX9_countOf_24 : decode cX9_countOf 24 = .ok (.iload_n 2, 1) := by decide +kernel
theorem dX9_countOf_25 : decode cX9_countOf 25 = .ok (.aload_n 0, 1) := by decide +kernel
theorem dX9_countOf_26 : decode cX9_countOf 26 = .ok (.iload_n 3, 1) := by decide +kernel
theorem dX9_countOf_27 : decode cX9_countOf 27 = .ok (.invokevirtual 216, 3) := by decide +kernel
theorem dX9_countOf_30 : decode cX9_countOf 30 = .ok (.ifCond .ge 7, 3) := by decide +kernel
theorem dX9_countOf_33 : decode cX9_countOf 33 = .ok (.iconst 1, 1) := by decide +kernel
theorem dX9_countOf_34 : decode cX9_countOf 34 = .ok (.goto 4, 3) := by decide +kernel
theorem dX9_countOf_37 : decode cX9_countOf 37 = .ok (.iconst 0, 1) := by decide +kernel
theorem dX9_countOf_38 : decode cX9_countOf 38 = .ok (.iadd, 1) := by decide +kernel
theorem dX9_countOf_39 : decode cX9_countOf 39 = .ok (.istore_n 2, 1) := by decide +kernel
theorem dX9_countOf_40 : decode cX9_countOf 40 = .ok (.iconst 0, 1) := by decide +kernel
theorem dX9_countOf_41 : decode cX9_countOf 41 = .ok (.istore 4, 2) := by decide +kernel
theorem dX9_countOf_43 : decode cX9_countOf 43 = .ok (.iload 4, 2) := by decide +kernel
theorem dX9_countOf_45 : decode cX9_countOf 45 = .ok (.aload_n 0, 1) := by decide +kernel
theorem dX9_countOf_46 : decode cX9_countOf 46 = .ok (.getfield 7, 3) := by decide +kernel
theorem dX9_countOf_49 : decode cX9_countOf 49 = .ok (.bipush 25, 2) := by decide +kernel
theorem dX9_countOf_51 : decode cX9_countOf 51 = .ok (.iload_n 3, 1) := by decide +kernel
theorem dX9_countOf_52 : decode cX9_countOf 52 = .ok (.imul, 1) := by decide +kernel
theorem dX9_countOf_53 : decode cX9_countOf 53 = .ok (.iaload, 1) := by decide +kernel
theorem dX9_countOf_54 : decode cX9_countOf 54 = .ok (.if_icmp .ge 47, 3) := by decide +kernel
theorem dX9_countOf_57 : decode cX9_countOf 57 = .ok (.iload_n 1, 1) := by decide +kernel
theorem dX9_countOf_58 : decode cX9_countOf 58 = .ok (.iconst 3, 1) := by decide +kernel
theorem dX9_countOf_59 : decode cX9_countOf 59 = .ok (.if_icmp .ge 42, 3) := by decide +kernel
theorem dX9_countOf_62 : decode cX9_countOf 62 = .ok (.iload_n 2, 1) := by decide +kernel
theorem dX9_countOf_63 : decode cX9_countOf 63 = .ok (.iload_n 1, 1) := by decide +kernel
theorem dX9_countOf_64 : decode cX9_countOf 64 = .ok (.iconst 1, 1) := by decide +kernel
theorem dX9_countOf_65 : decode cX9_countOf 65 = .ok (.if_icmp .eq 23, 3) := by decide +kernel
theorem dX9_countOf_68 : decode cX9_countOf 68 = .ok (.aload_n 0, 1) := by decide +kernel
theorem dX9_countOf_69 : decode cX9_countOf 69 = .ok (.getfield 7, 3) := by decide +kernel
theorem dX9_countOf_72 : decode cX9_countOf 72 = .ok (.bipush 25, 2) := by decide +kernel
theorem dX9_countOf_74 : decode cX9_countOf 74 = .ok (.iload_n 3, 1) := by decide +kernel
theorem dX9_countOf_75 : decode cX9_countOf 75 = .ok (.imul, 1) := by decide +kernel
theorem dX9_countOf_76 : decode cX9_countOf 76 = .ok (.iload 4, 2) := by decide +kernel
theorem dX9_countOf_78 : decode cX9_countOf 78 = .ok (.invokestatic 137, 3) := by decide +kernel
theorem dX9_countOf_81 : decode cX9_countOf 81 = .ok (.iconst 0, 1) := by decide +kernel
theorem dX9_countOf_82 : decode cX9_countOf 82 = .ok (.iadd, 1) := by decide +kernel
theorem dX9_countOf_83 : decode cX9_countOf 83 = .ok (.iaload, 1) := by decide +kernel
theorem dX9_countOf_84 : decode cX9_countOf 84 = .ok (.iconst 3, 1) := by decide +kernel
theorem dX9_countOf_85 : decode cX9_countOf 85 = .ok (.if_icmp .ne 7, 3) := by decide +kernel
theorem dX9_countOf_88 : decode cX9_countOf 88 = .ok (.iconst 1, 1) := by decide +kernel
theorem dX9_countOf_89 : decode cX9_countOf 89 = .ok (.goto 4, 3) := by decide +kernel
theorem dX9_countOf_92 : decode cX9_countOf 92 = .ok (.iconst 0, 1) := by decide +kernel
theorem dX9_countOf_93 : decode cX9_countOf 93 = .ok (.iadd, 1) := by decide +kernel
theorem dX9_countOf_94 : decode cX9_countOf 94 = .ok (.istore_n 2, 1) := by decide +kernel
theorem dX9_countOf_95 : decode cX9_countOf 95 = .ok (.iinc 4 1, 3) := by decide +kernel
theorem dX9_countOf_98 : decode cX9_countOf 98 = .ok (.goto (-55), 3) := by decide +kernel
theorem dX9_countOf_101 : decode cX9_countOf 101 = .ok (.iinc 3 1, 3) := by decide +kernel
theorem dX9_countOf_104 : decode cX9_countOf 104 = .ok (.goto (-91), 3) := by decide +kernel
theorem dX9_countOf_107 : decode cX9_countOf 107 = .ok (.iload_n 2, 1) := by decide +kernel
theorem dX9_countOf_108 : decode cX9_countOf 108 = .ok (.ireturn, 1) := by decide +kernel
theorem dX9_count_0 : decode cX9_count 0 = .ok (.iload_n 1, 1) := by decide +kernel
theorem dX9_count_1 : decode cX9_count 1 = .ok (.iconst 0, 1) := by decide +kernel
theorem dX9_count_2 : decode cX9_count 2 = .ok (.iconst 3, 1) := by decide +kernel
theorem dX9_count_3 : decode cX9_count 3 = .ok (.invokestatic 53, 3) := by decide +kernel
theorem dX9_count_6 : decode cX9_count 6 = .ok (.ifCond .eq 11, 3) := by decide +kernel
theorem dX9_count_9 : decode cX9_count 9 = .ok (.aload_n 0, 1) := by decide +kernel
theorem dX9_count_10 : decode cX9_count 10 = .ok (.iload_n 1, 1) := by decide +kernel
theorem dX9_count_11 : decode cX9_count 11 = .ok (.invokevirtual 228, 3) := by decide +kernel
theorem dX9_count_14 : decode cX9_count 14 = .ok (.goto 7, 3) := by decide +kernel
theorem dX9_count_17 : decode cX9_count 17 = .ok (.aload_n 0, 1) := by decide +kernel
theorem dX9_count_18 : decode cX9_count 18 = .ok (.invokevirtual 95, 3) := by decide +kernel
theorem dX9_count_21 : decode cX9_count 21 = .ok (.ireturn, 1) := by decide +kernel
theorem dX9_toldOf_0 : decode cX9_toldOf 0 = .ok (.iload_n 1, 1) := by decide +kernel
theorem dX9_toldOf_1 : decode cX9_toldOf 1 = .ok (.iconst 3, 1) := by decide +kernel
theorem dX9_toldOf_2 : decode cX9_toldOf 2 = .ok (.if_icmp .ge 12, 3) := by decide +kernel
theorem dX9_toldOf_5 : decode cX9_toldOf 5 = .ok (.aload_n 0, 1) := by decide +kernel
theorem dX9_toldOf_6 : decode cX9_toldOf 6 = .ok (.getfield 19, 3) := by decide +kernel
theorem dX9_toldOf_9 : decode cX9_toldOf 9 = .ok (.iload_n 1, 1) := by decide +kernel
theorem dX9_toldOf_10 : decode cX9_toldOf 10 = .ok (.iaload, 1) := by decide +kernel
theorem dX9_toldOf_11 : decode cX9_toldOf 11 = .ok (.goto 19, 3) := by decide +kernel
theorem dX9_toldOf_14 : decode cX9_toldOf 14 = .ok (.iload_n 1, 1) := by decide +kernel
theorem dX9_toldOf_15 : decode cX9_toldOf 15 = .ok (.iconst 3, 1) := by decide +kernel
theorem dX9_toldOf_16 : decode cX9_toldOf 16 = .ok (.if_icmp .ne 10, 3) := by decide +kernel
theorem dX9_toldOf_19 : decode cX9_toldOf 19 = .ok (.aload_n 0, 1) := by decide +kernel
theorem dX9_toldOf_20 : decode cX9_toldOf 20 = .ok (.getfield 60, 3) := by decide +kernel
theorem dX9_toldOf_23 : decode cX9_toldOf 23 = .ok (.goto 7, 3) := by decide +kernel
theorem dX9_toldOf_26 : decode cX9_toldOf 26 = .ok (.aload_n 0, 1) := by decide +kernel
theorem dX9_toldOf_27 : decode cX9_toldOf 27 = .ok (.getfield 49, 3) := by decide +kernel
theorem dX9_toldOf_30 : decode cX9_toldOf 30 = .ok (.ireturn, 1) := by decide +kernel
theorem dX9_told_0 : decode cX9_told 0 = .ok (.iload_n 1, 1) := by decide +kernel
theorem dX9_told_1 : decode cX9_told 1 = .ok (.iconst 0, 1) := by decide +kernel
theorem dX9_told_2 : decode cX9_told 2 = .ok (.iconst 4, 1) := by decide +kernel
theorem dX9_told_3 : decode cX9_told 3 = .ok (.invokestatic 53, 3) := by decide +kernel
theorem dX9_told_6 : decode cX9_told 6 = .ok (.ifCond .eq 11, 3) := by decide +kernel
theorem dX9_told_9 : decode cX9_told 9 = .ok (.aload_n 0, 1) := by decide +kernel
theorem dX9_told_10 : decode cX9_told 10 = .ok (.iload_n 1, 1) := by decide +kernel
theorem dX9_told_11 : decode cX9_told 11 = .ok (.invokevirtual 231, 3) := by decide +kernel
theorem dX9_told_14 : decode cX9_told 14 = .ok (.goto 7, 3) := by decide +kernel
theorem dX9_told_17 : decode cX9_told 17 = .ok (.aload_n 0, 1) := by decide +kernel
theorem dX9_told_18 : decode cX9_told 18 = .ok (.invokevirtual 95, 3) := by decide +kernel
theorem dX9_told_21 : decode cX9_told 21 = .ok (.ireturn, 1) := by decide +kernel
theorem dX9_mix_0 : decode cX9_mix 0 = .ok (.aload_n 0, 1) := by decide +kernel
theorem dX9_mix_1 : decode cX9_mix 1 = .ok (.ldc2_w 234, 3) := by decide +kernel
theorem dX9_mix_4 : decode cX9_mix 4 = .ok (.aload_n 0, 1) := by decide +kernel
theorem dX9_mix_5 : decode cX9_mix 5 = .ok (.getfield 236, 3) := by decide +kernel
theorem dX9_mix_8 : decode cX9_mix 8 = .ok (.lmul, 1) := by decide +kernel
theorem dX9_mix_9 : decode cX9_mix 9 = .ok (.lload_n 1, 1) := by decide +kernel
theorem dX9_mix_10 : decode cX9_mix 10 = .ok (.ladd, 1) := by decide +kernel
theorem dX9_mix_11 : decode cX9_mix 11 = .ok (.putfield 236, 3) := by decide +kernel
theorem dX9_mix_14 : decode cX9_mix 14 = .ok (.return_, 1) := by decide +kernel
theorem dX9_digest_0 : decode cX9_digest 0 = .ok (.aload_n 0, 1) := by decide +kernel
theorem dX9_digest_1 : decode cX9_digest 1 = .ok (.ldc2_w 240, 3) := by decide +kernel
theorem dX9_digest_4 : decode cX9_digest 4 = .ok (.putfield 236, 3) := by decide +kernel
theorem dX9_digest_7 : decode cX9_digest 7 = .ok (.iconst 0, 1) := by decide +kernel
theorem dX9_digest_8 : decode cX9_digest 8 = .ok (.istore_n 1, 1) := by decide +kernel
theorem dX9_digest_9 : decode cX9_digest 9 = .ok (.iload_n 1, 1) := by decide +kernel
theorem dX9_digest_10 : decode cX9_digest 10 = .ok (.iconst 5, 1) := by decide +kernel
theorem dX9_digest_11 : decode cX9_digest 11 = .ok (.if_icmp .ge 19, 3) := by decide +kernel
theorem dX9_digest_14 : decode cX9_digest 14 = .ok (.aload_n 0, 1) := by decide +kernel
theorem dX9_digest_15 : decode cX9_digest 15 = .ok (.aload_n 0, 1) := by decide +kernel
theorem dX9_digest_16 : decode cX9_digest 16 = .ok (.iload_n 1, 1) := by decide +kernel
theorem dX9_digest_17 : decode cX9_digest 17 = .ok (.invokevirtual 231, 3) := by decide +kernel
theorem dX9_digest_20 : decode cX9_digest 20 = .ok (.i2l, 1) := by decide +kernel
theorem dX9_digest_21 : decode cX9_digest 21 = .ok (.invokevirtual 242, 3) := by decide +kernel
theorem dX9_digest_24 : decode cX9_digest 24 = .ok (.iinc 1 1, 3) := by decide +kernel
theorem dX9_digest_27 : decode cX9_digest 27 = .ok (.goto (-18), 3) := by decide +kernel
theorem dX9_digest_30 : decode cX9_digest 30 = .ok (.iconst 0, 1) := by decide +kernel
theorem dX9_digest_31 : decode cX9_digest 31 = .ok (.istore_n 1, 1) := by decide +kernel
theorem dX9_digest_32 : decode cX9_digest 32 = .ok (.iload_n 1, 1) := by decide +kernel
theorem dX9_digest_33 : decode cX9_digest 33 = .ok (.iconst 4, 1) := by decide +kernel
theorem dX9_digest_34 : decode cX9_digest 34 = .ok (.if_icmp .ge 19, 3) := by decide +kernel
theorem dX9_digest_37 : decode cX9_digest 37 = .ok (.aload_n 0, 1) := by decide +kernel
theorem dX9_digest_38 : decode cX9_digest 38 = .ok (.aload_n 0, 1) := by decide +kernel
theorem dX9_digest_39 : decode cX9_digest 39 = .ok (.iload_n 1, 1) := by decide +kernel
theorem dX9_digest_40 : decode cX9_digest 40 = .ok (.invokevirtual 228, 3) := by decide +kernel
theorem dX9_digest_43 : decode cX9_digest 43 = .ok (.i2l, 1) := by decide +kernel
theorem dX9_digest_44 : decode cX9_digest 44 = .ok (.invokevirtual 242, 3) := by decide +kernel
theorem dX9_digest_47 : decode cX9_digest 47 = .ok (.iinc 1 1, 3) := by decide +kernel
theorem dX9_digest_50 : decode cX9_digest 50 = .ok (.goto (-18), 3) := by decide +kernel
theorem dX9_digest_53 : decode cX9_digest 53 = .ok (.iconst 0, 1) := by decide +kernel
theorem dX9_digest_54 : decode cX9_digest 54 = .ok (.istore_n 1, 1) := by decide +kernel
theorem dX9_digest_55 : decode cX9_digest 55 = .ok (.iload_n 1, 1) := by decide +kernel
theorem dX9_digest_56 : decode cX9_digest 56 = .ok (.bipush 36, 2) := by decide +kernel
theorem dX9_digest_58 : decode cX9_digest 58 = .ok (.if_icmp .ge 81, 3) := by decide +kernel
theorem dX9_digest_61 : decode cX9_digest 61 = .ok (.bipush 25, 2) := by decide +kernel
theorem dX9_digest_63 : decode cX9_digest 63 = .ok (.iload_n 1, 1) := by decide +kernel
theorem dX9_digest_64 : decode cX9_digest 64 = .ok (.imul, 1) := by decide +kernel
theorem dX9_digest_65 : decode cX9_digest 65 = .ok (.istore_n 2, 1) := by decide +kernel
theorem dX9_digest_66 : decode cX9_digest 66 = .ok (.aload_n 0, 1) := by decide +kernel
theorem dX9_digest_67 : decode cX9_digest 67 = .ok (.aload_n 0, 1) := by decide +kernel
theorem dX9_digest_68 : decode cX9_digest 68 = .ok (.getfield 7, 3) := by decide +kernel
theorem dX9_digest_71 : decode cX9_digest 71 = .ok (.iload_n 2, 1) := by decide +kernel
theorem dX9_digest_72 : decode cX9_digest 72 = .ok (.iaload, 1) := by decide +kernel
theorem dX9_digest_73 : decode cX9_digest 73 = .ok (.i2l, 1) := by decide +kernel
theorem dX9_digest_74 : decode cX9_digest 74 = .ok (.invokevirtual 242, 3) := by decide +kernel
theorem dX9_digest_77 : decode cX9_digest 77 = .ok (.iconst 0, 1) := by decide +kernel
theorem dX9_digest_78 : decode cX9_digest 78 = .ok (.istore_n 3, 1) := by decide +kernel
theorem dX9_digest_79 : decode cX9_digest 79 = .ok (.iload_n 3, 1) := by decide +kernel
theorem dX9_digest_80 : decode cX9_digest 80 = .ok (.bipush 6, 2) := by decide +kernel
theorem dX9_digest_82 : decode cX9_digest 82 = .ok (.aload_n 0, 1) := by decide +kernel
theorem dX9_digest_83 : decode cX9_digest 83 = .ok (.getfield 7, 3) := by decide +kernel
theorem dX9_digest_86 : decode cX9_digest 86 = .ok (.iload_n 2, 1) := by decide +kernel
theorem dX9_digest_87 : decode cX9_digest 87 = .ok (.iaload, 1) := by decide +kernel
theorem dX9_digest_88 : decode cX9_digest 88 = .ok (.imul, 1) := by decide +kernel
theorem dX9_digest_89 : decode cX9_digest 89 = .ok (.if_icmp .ge 24, 3) := by decide +kernel
theorem dX9_digest_92 : decode cX9_digest 92 = .ok (.aload_n 0, 1) := by decide +kernel
theorem dX9_digest_93 : decode cX9_digest 93 = .ok (.aload_n 0, 1) := by decide +kernel
theorem dX9_digest_94 : decode cX9_digest 94 = .ok (.getfield 7, 3) := by decide +kernel
theorem dX9_digest_97 : decode cX9_digest 97 = .ok (.iload_n 2, 1) := by decide +kernel
theorem dX9_digest_98 : decode cX9_digest 98 = .ok (.iconst 1, 1) := by decide +kernel
theorem dX9_digest_99 : decode cX9_digest 99 = .ok (.iadd, 1) := by decide +kernel
theorem dX9_digest_100 : decode cX9_digest 100 = .ok (.iload_n 3, 1) := by decide +kernel
theorem dX9_digest_101 : decode cX9_digest 101 = .ok (.iadd, 1) := by decide +kernel
theorem dX9_digest_102 : decode cX9_digest 102 = .ok (.iaload, 1) := by decide +kernel
theorem dX9_digest_103 : decode cX9_digest 103 = .ok (.i2l, 1) := by decide +kernel
theorem dX9_digest_104 : decode cX9_digest 104 = .ok (.invokevirtual 242, 3) := by decide +kernel
theorem dX9_digest_107 : decode cX9_digest 107 = .ok (.iinc 3 1, 3) := by decide +kernel
theorem dX9_digest_110 : decode cX9_digest 110 = .ok (.goto (-31), 3) := by decide +kernel
theorem dX9_digest_113 : decode cX9_digest 113 = .ok (.aload_n 0, 1) := by decide +kernel
theorem dX9_digest_114 : decode cX9_digest 114 = .ok (.aload_n 0, 1) := by decide +kernel
theorem dX9_digest_115 : decode cX9_digest 115 = .ok (.iload_n 1, 1) := by decide +kernel
theorem dX9_digest_116 : decode cX9_digest 116 = .ok (.invokevirtual 216, 3) := by decide +kernel
theorem dX9_digest_119 : decode cX9_digest 119 = .ok (.i2l, 1) := by decide +kernel
theorem dX9_digest_120 : decode cX9_digest 120 = .ok (.invokevirtual 242, 3) := by decide +kernel
theorem dX9_digest_123 : decode cX9_digest 123 = .ok (.aload_n 0, 1) := by decide +kernel
theorem dX9_digest_124 : decode cX9_digest 124 = .ok (.aload_n 0, 1) := by decide +kernel
theorem dX9_digest_125 : decode cX9_digest 125 = .ok (.iload_n 1, 1) := by decide +kernel
theorem dX9_digest_126 : decode cX9_digest 126 = .ok (.invokevirtual 219, 3) := by decide +kernel
theorem dX9_digest_129 : decode cX9_digest 129 = .ok (.i2l, 1) := by decide +kernel
theorem dX9_digest_130 : decode cX9_digest 130 = .ok (.invokevirtual 242, 3) := by decide +kernel
theorem dX9_digest_133 : decode cX9_digest 133 = .ok (.iinc 1 1, 3) := by decide +kernel
theorem dX9_digest_136 : decode cX9_digest 136 = .ok (.goto (-81), 3) := by decide +kernel
theorem dX9_digest_139 : decode cX9_digest 139 = .ok (.aload_n 0, 1) := by decide +kernel
theorem dX9_digest_140 : decode cX9_digest 140 = .ok (.getfield 236, 3) := by decide +kernel
theorem dX9_digest_143 : decode cX9_digest 143 = .ok (.lreturn, 1) := by decide +kernel
