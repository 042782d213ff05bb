theorem dX10_init_0 : decode cX10_init 0 = .ok (.aload_n 0, 1) := by decide +kernel
theorem dX10_init_1 : decode cX10_init 1 = .ok (.invokespecial 1, 3) := by decide +kernel
theorem dX10_init_4 : decode cX10_init 4 = .ok (.aload_n 0, 1) := by decide +kernel
theorem dX10_init_5 : decode cX10_init 5 = .ok (.sipush 198, 3) := by decide +kernel
theorem dX10_init_8 : decode cX10_init 8 = .ok (.newarray .int, 2) := by decide +kernel
theorem dX10_init_10 : decode cX10_init 10 = .ok (.putfield 7, 3) := by decide +kernel
theorem dX10_init_13 : decode cX10_init 13 = .ok (.aload_n 0, 1) := by decide +kernel
theorem dX10_init_14 : decode cX10_init 14 = .ok (.sipush 198, 3) := by decide +kernel
theorem dX10_init_17 : decode cX10_init 17 = .ok (.newarray .int, 2) := by decide +kernel
theorem dX10_init_19 : decode cX10_init 19 = .ok (.putfield 13, 3) := by decide +kernel
theorem dX10_init_22 : decode cX10_init 22 = .ok (.aload_n 0, 1) := by decide +kernel
theorem dX10_init_23 : decode cX10_init 23 = .ok (.sipush 792, 3) := by decide +kernel
theorem dX10_init_26 : decode cX10_init 26 = .ok (.newarray .int, 2) := by decide +kernel
theorem dX10_init_28 : decode cX10_init 28 = .ok (.putfield 16, 3) := by decide +kernel
theorem dX10_init_31 : decode cX10_init 31 = .ok (.aload_n 0, 1) := by decide +kernel
theorem dX10_init_32 : decode cX10_init 32 = .ok (.sipush 150, 3) := by decide +kernel
theorem dX10_init_35 : decode cX10_init 35 = .ok (.newarray .int, 2) := by decide +kernel
theorem dX10_init_37 : decode cX10_init 37 = .ok (.putfield 19, 3) := by decide +kernel
theorem dX10_init_40 : decode cX10_init 40 = .ok (.aload_n 0, 1) := by decide +kernel
theorem dX10_init_41 : decode cX10_init 41 = .ok (.bipush 20, 2) := by decide +kernel
theorem dX10_init_43 : decode cX10_init 43 = .ok (.newarray .int, 2) := by decide +kernel
theorem dX10_init_45 : decode cX10_init 45 = .ok (.putfield 22, 3) := by decide +kernel
theorem dX10_init_48 : decode cX10_init 48 = .ok (.aload_n 0, 1) := by decide +kernel
theorem dX10_init_49 : decode cX10_init 49 = .ok (.bipush 20, 2) := by decide +kernel
theorem dX10_init_51 : decode cX10_init 51 = .ok (.newarray .int, 2) := by decide +kernel
theorem dX10_init_53 : decode cX10_init 53 = .ok (.putfield 25, 3) := by decide +kernel
theorem dX10_init_56 : decode cX10_init 56 = .ok (.aload_n 0, 1) := by decide +kernel
theorem dX10_init_57 : decode cX10_init 57 = .ok (.bipush 20, 2) := by decide +kernel
theorem dX10_init_59 : decode cX10_init 59 = .ok (.newarray .int, 2) := by decide +kernel
theorem dX10_init_61 : decode cX10_init 61 = .ok (.putfield 28, 3) := by decide +kernel
theorem dX10_init_64 : decode cX10_init 64 = .ok (.aload_n 0, 1) := by decide +kernel
theorem dX10_init_65 : decode cX10_init 65 = .ok (.bipush 20, 2) := by decide +kernel
theorem dX10_init_67 : decode cX10_init 67 = .ok (.newarray .int, 2) := by decide +kernel
theorem dX10_init_69 : decode cX10_init 69 = .ok (.putfield 31, 3) := by decide +kernel
theorem dX10_init_72 : decode cX10_init 72 = .ok (.aload_n 0, 1) := by decide +kernel
theorem dX10_init_73 : decode cX10_init 73 = .ok (.bipush 20, 2) := by decide +kernel
theorem dX10_init_75 : decode cX10_init 75 = .ok (.newarray .int, 2) := by decide +kernel
theorem dX10_init_77 : decode cX10_init 77 = .ok (.putfield 34, 3) := by decide +kernel
theorem dX10_init_80 : decode cX10_init 80 = .ok (.aload_n 0, 1) := by decide +kernel
theorem dX10_init_81 : decode cX10_init 81 = .ok (.bipush 20, 2) := by decide +kernel
theorem dX10_init_83 : decode cX10_init 83 = .ok (.newarray .int, 2) := by decide +kernel
theorem dX10_init_85 : decode cX10_init 85 = .ok (.putfield 37, 3) := by decide +kernel
theorem dX10_init_88 : decode cX10_init 88 = .ok (.aload_n 0, 1) := by decide +kernel
theorem dX10_init_89 : decode cX10_init 89 = .ok (.bipush 6, 2) := by decide +kernel
theorem dX10_init_91 : decode cX10_init 91 = .ok (.newarray .int, 2) := by decide +kernel
theorem dX10_init_93 : decode cX10_init 93 = .ok (.putfield 40, 3) := by decide +kernel
theorem dX10_init_96 : decode cX10_init 96 = .ok (.aload_n 0, 1) := by decide +kernel
theorem dX10_init_97 : decode cX10_init 97 = .ok (.getfield 7, 3) := by decide +kernel
theorem dX10_init_100 : decode cX10_init 100 = .ok (.bipush 7, 2) := by decide +kernel
theorem dX10_init_102 : decode cX10_init 102 = .ok (.bipush 20, 2) := by decide +kernel
theorem dX10_init_104 : decode cX10_init 104 = .ok (.iastore, 1) := by decide +kernel
theorem dX10_init_105 : decode cX10_init 105 = .ok (.aload_n 0, 1) := by decide +kernel
theorem dX10_init_106 : decode cX10_init 106 = .ok (.getfield 7, 3) := by decide +kernel
theorem dX10_init_109 : decode cX10_init 109 = .ok (.bipush 8, 2) := by decide +kernel
theorem dX10_init_111 : decode cX10_init 111 = .ok (.iconst 1, 1) := by decide +kernel
theorem dX10_init_112 : decode cX10_init 112 = .ok (.iastore, 1) := by decide +kernel
theorem dX10_init_113 : decode cX10_init 113 = .ok (.aload_n 0, 1) := by decide +kernel
theorem dX10_init_114 : decode cX10_init 114 = .ok (.getfield 7, 3) := by decide +kernel
theorem dX10_init_117 : decode cX10_init 117 = .ok (.bipush 9, 2) := by decide +kernel
theorem dX10_init_119 : decode cX10_init 119 = .ok (.iconst 4, 1) := by decide +kernel
theorem dX10_init_120 : decode cX10_init 120 = .ok (.iastore, 1) := by decide +kernel
theorem dX10_init_121 : decode cX10_init 121 = .ok (.aload_n 0, 1) := by decide +kernel
theorem dX10_init_122 : decode cX10_init 122 = .ok (.getfield 7, 3) := by decide +kernel
theorem dX10_init_125 : decode cX10_init 125 = .ok (.bipush 10, 2) := by decide +kernel
theorem dX10_init_127 : decode cX10_init 127 = .ok (.bipush 10, 2) := by decide +kernel
theorem dX10_init_129 : decode cX10_init 129 = .ok (.iastore, 1) := by decide +kernel
theorem dX10_init_130 : decode cX10_init 130 = .ok (.aload_n 0, 1) := by decide +kernel
theorem dX10_init_131 : decode cX10_init 131 = .ok (.bipush 80, 2) := by decide +kernel
theorem dX10_init_133 : decode cX10_init 133 = .ok (.bipush 40, 2) := by decide +kernel
theorem dX10_init_135 : decode cX10_init 135 = .ok (.invokevirtual 43, 3) := by decide +kernel
theorem dX10_init_138 : decode cX10_init 138 = .ok (.return_, 1) := by decide +kernel
theorem dX10_anew_0 : decode cX10_anew 0 = .ok (.aload_n 0, 1) := by decide +kernel
theorem dX10_anew_1 : decode cX10_anew 1 = .ok (.getfield 7, 3) := by decide +kernel
theorem dX10_anew_4 : decode cX10_anew 4 = .ok (.iconst 0, 1) := by decide +kernel
theorem dX10_anew_5 : decode cX10_anew 5 = .ok (.iload_n 1, 1) := by decide +kernel
theorem dX10_anew_6 : decode cX10_anew 6 = .ok (.iastore, 1) := by decide +kernel
theorem dX10_anew_7 : decode cX10_anew 7 = .ok (.aload_n 0, 1) := by decide +kernel
theorem dX10_anew_8 : decode cX10_anew 8 = .ok (.getfield 7, 3) := by decide +kernel
theorem dX10_anew_11 : decode cX10_anew 11 = .ok (.iconst 1, 1) := by decide +kernel
theorem dX10_anew_12 : decode cX10_anew 12 = .ok (.iload_n 2, 1) := by decide +kernel
theorem dX10_anew_13 : decode cX10_anew 13 = .ok (.iastore, 1) := by decide +kernel
theorem dX10_anew_14 : decode cX10_anew 14 = .ok (.aload_n 0, 1) := by decide +kernel
theorem dX10_anew_15 : decode cX10_anew 15 = .ok (.getfield 7, 3) := by decide +kernel
theorem dX10_anew_18 : decode cX10_anew 18 = .ok (.iconst 2, 1) := by decide +kernel
theorem dX10_anew_19 : decode cX10_anew 19 = .ok (.iconst 0, 1) := by decide +kernel
theorem dX10_anew_20 : decode cX10_anew 20 = .ok (.iastore, 1) := by decide +kernel
theorem dX10_anew_21 : decode cX10_anew 21 = .ok (.aload_n 0, 1) := by decide +kernel
theorem dX10_anew_22 : decode cX10_anew 22 = .ok (.getfield 7, 3) := by decide +kernel
theorem dX10_anew_25 : decode cX10_anew 25 = .ok (.iconst 3, 1) := by decide +kernel
theorem dX10_anew_26 : decode cX10_anew 26 = .ok (.iconst 0, 1) := by decide +kernel
theorem dX10_anew_27 : decode cX10_anew 27 = .ok (.iastore, 1) := by decide +kernel
theorem dX10_anew_28 : decode cX10_anew 28 = .ok (.aload_n 0, 1) := by decide +kernel
theorem dX10_anew_29 : decode cX10_anew 29 = .ok (.getfield 7, 3) := by decide +kernel
theorem dX10_anew_32 : decode cX10_anew 32 = .ok (.iconst 4, 1) := by decide +kernel
theorem dX10_anew_33 : decode cX10_anew 33 = .ok (.iconst 0, 1) := by decide +kernel
theorem dX10_anew_34 : decode cX10_anew 34 = .ok (.iastore, 1) := by decide +kernel
theorem dX10_anew_35 : decode cX10_anew 35 = .ok (.aload_n 0, 1) := by decide +kernel
theorem dX10_anew_36 : decode cX10_anew 36 = .ok (.getfield 7, 3) := by decide +kernel
theorem dX10_anew_39 : decode cX10_anew 39 = .ok (.iconst 5, 1) := by decide +kernel
theorem dX10_anew_40 : decode cX10_anew 40 = .ok (.bipush (-5), 2) := by decide +kernel
theorem dX10_anew_42 : decode cX10_anew 42 = .ok (.iastore, 1) := by decide +kernel
theorem dX10_anew_43 : decode cX10_anew 43 = .ok (.aload_n 0, 1) := by decide +kernel
theorem dX10_anew_44 : decode cX10_anew 44 = .ok (.getfield 7, 3) := by decide +kernel
theorem dX10_anew_47 : decode cX10_anew 47 = .ok (.bipush 6, 2) := by decide +kernel
theorem dX10_anew_49 : decode cX10_anew 49 = .ok (.iconst 5, 1) := by decide +kernel
theorem dX10_anew_50 : decode cX10_anew 50 = .ok (.iastore, 1) := by decide +kernel
theorem dX10_anew_51 : decode cX10_anew 51 = .ok (.aload_n 0, 1) := by decide +kernel
theorem dX10_anew_52 : decode cX10_anew 52 = .ok (.getfield 7, 3) := by decide +kernel
theorem dX10_anew_55 : decode cX10_anew 55 = .ok (.bipush 13, 2) := by decide +kernel
theorem dX10_anew_57 : decode cX10_anew 57 = .ok (.iconst 0, 1) := by decide +kernel
theorem dX10_anew_58 : decode cX10_anew 58 = .ok (.iastore, 1) := by decide +kernel
theorem dX10_anew_59 : decode cX10_anew 59 = .ok (.return_, 1) := by decide +kernel
theorem dX10_thrown_0 : decode cX10_thrown 0 = .ok (.aload_n 0, 1) := by decide +kernel
theorem dX10_thrown_1 : decode cX10_thrown 1 = .ok (.getfield 47, 3) := by decide +kernel
theorem dX10_thrown_4 : decode cX10_thrown 4 = .ok (.ireturn, 1) := by decide +kernel
theorem dX10_in_0 : decode cX10_in 0 = .ok (.iload_n 0, 1) := by decide +kernel
theorem dX10_in_1 : decode cX10_in 1 = .ok (.iload_n 1, 1) := by decide +kernel
theorem dX10_in_2 : decode cX10_in 2 = .ok (.if_icmp .lt 12, 3) := by decide +kernel
theorem dX10_in_5 : decode cX10_in 5 = .ok (.iload_n 0, 1) := by decide +kernel
theorem dX10_in_6 : decode cX10_in 6 = .ok (.iload_n 2, 1) := by decide +kernel
theorem dX10_in_7 : decode cX10_in 7 = .ok (.if_icmp .gt 7, 3) := by decide +kernel
theorem dX10_in_10 : decode cX10_in 10 = .ok (.iconst 1, 1) := by decide +kernel
theorem dX10_in_11 : decode cX10_in 11 = .ok (.goto 4, 3) := by decide +kernel
theorem dX10_in_14 : decode cX10_in 14 = .ok (.iconst 0, 1) := by decide +kernel
theorem dX10_in_15 : decode cX10_in 15 = .ok (.ireturn, 1) := by decide +kernel
theorem dX10_floor_0 : decode cX10_floor 0 = .ok (.iload_n 0, 1) := by decide +kernel
theorem dX10_floor_1 : decode cX10_floor 1 = .ok (.ifCond .lt 9, 3) := by decide +kernel
theorem dX10_floor_4 : decode cX10_floor 4 = .ok (.iload_n 0, 1) := by decide +kernel
theorem dX10_floor_5 : decode cX10_floor 5 = .ok (.iload_n 1, 1) := by decide +kernel
theorem dX10_floor_6 : decode cX10_floor 6 = .ok (.idiv, 1) := by decide +kernel
theorem dX10_floor_7 : decode cX10_floor 7 = .ok (.goto 11, 3) := by decide +kernel
theorem dX10_floor_10 : decode cX10_floor 10 = .ok (.iload_n 1, 1) := by decide +kernel
theorem dX10_floor_11 : decode cX10_floor 11 = .ok (.iconst 1, 1) := by decide +kernel
theorem dX10_floor_12 : decode cX10_floor 12 = .ok (.isub, 1) := by decide +kernel
theorem dX10_floor_13 : decode cX10_floor 13 = .ok (.iload_n 0, 1) := by decide +kernel
theorem dX10_floor_14 : decode cX10_floor 14 = .ok (.isub, 1) := by decide +kernel
theorem dX10_floor_15 : decode cX10_floor 15 = .ok (.iload_n 1, 1) := by decide +kernel
theorem dX10_floor_16 : decode cX10_floor 16 = .ok (.idiv, 1) := by decide +kernel
theorem dX10_floor_17 : decode cX10_floor 17 = .ok (.ineg, 1) := by decide +kernel
theorem dX10_floor_18 : decode cX10_floor 18 = .ok (.ireturn, 1) := by decide +kernel
theorem dX10_greater_0 : decode cX10_greater 0 = .ok (.iload_n 0, 1) := by decide +kernel
theorem dX10_greater_1 : decode cX10_greater 1 = .ok (.iload_n 1, 1) := by decide +kernel
theorem dX10_greater_2 : decode cX10_greater 2 = .ok (.if_icmp .le 7, 3) := by decide +kernel
theorem dX10_greater_5 : decode cX10_greater 5 = .ok (.iload_n 0, 1) := by decide +kernel
theorem dX10_greater_6 : decode cX10_greater 6 = .ok (.goto 4, 3) := by decide +kernel
theorem dX10_greater_9 : decode cX10_greater 9 = .ok (.iload_n 1, 1) := by decide +kernel
theorem dX10_greater_10 : decode cX10_greater 10 = .ok (.ireturn, 1) := by decide +kernel
theorem dX10_bring_0 : decode cX10_bring 0 = .ok (.iconst 0, 1) := by decide +kernel
theorem dX10_bring_1 : decode cX10_bring 1 = .ok (.istore 4, 2) := by decide +kernel
theorem dX10_bring_3 : decode cX10_bring 3 = .ok (.iload 4, 2) := by decide +kernel
theorem dX10_bring_5 : decode cX10_bring 5 = .ok (.sipush 198, 3) := by decide +kernel
theorem dX10_bring_8 : decode cX10_bring 8 = .ok (.if_icmp .ge 21, 3) := by decide +kernel
theorem dX10_bring_11 : decode cX10_bring 11 = .ok (.aload_n 2, 1) := by decide +kernel
theorem dX10_bring_12 : decode cX10_bring 12 = .ok (.iload_n 3, 1) := by decide +kernel
theorem dX10_bring_13 : decode cX10_bring 13 = .ok (.iload 4, 2) := by decide +kernel
theorem dX10_bring_15 : decode cX10_bring 15 = .ok (.iadd, 1) := by decide +kernel
theorem dX10_bring_16 : decode cX10_bring 16 = .ok (.aload_n 0, 1) := by decide +kernel
theorem dX10_bring_17 : decode cX10_bring 17 = .ok (.iload_n 1, 1) := by decide +kernel
theorem dX10_bring_18 : decode cX10_bring 18 = .ok (.iload 4, 2) := by decide +kernel
theorem dX10_bring_20 : decode cX10_bring 20 = .ok (.iadd, 1) := by decide +kernel
theorem dX10_bring_21 : decode cX10_bring 21 = .ok (.iaload, 1) := by decide +kernel
theorem dX10_bring_22 : decode cX10_bring 22 = .ok (.iastore, 1) := by decide +kernel
theorem dX10_bring_23 : decode cX10_bring 23 = .ok (.iinc 4 1, 3) := by decide +kernel
theorem dX10_bring_26 : decode cX10_bring 26 = .ok (.goto (-23), 3) := by decide +kernel
theorem dX10_bring_29 : decode cX10_bring 29 = .ok (.return_, 1) := by decide +kernel
theorem dX10_keep_0 : decode cX10_keep 0 = .ok (.aload_n 0, 1) := by decide +kernel
theorem dX10_keep_1 : decode cX10_keep 1 = .ok (.getfield 51, 3) := by decide +kernel
theorem dX10_keep_4 : decode cX10_keep 4 = .ok (.iconst 4, 1) := by decide +kernel
theorem dX10_keep_5 : decode cX10_keep 5 = .ok (.if_icmp .ne 44, 3) := by decide +kernel
theorem dX10_keep_8 : decode cX10_keep 8 = .ok (.iconst 0, 1) := by decide +kernel
theorem dX10_keep_9 : decode cX10_keep 9 = .ok (.istore_n 1, 1) := by decide +kernel
theorem dX10_keep_10 : decode cX10_keep 10 = .ok (.iload_n 1, 1) := by decide +kernel
theorem dX10_keep_11 : decode cX10_keep 11 = .ok (.sipush 594, 3) := by decide +kernel
theorem dX10_keep_14 : decode cX10_keep 14 = .ok (.if_icmp .ge 25, 3) := by decide +kernel
theorem dX10_keep_17 : decode cX10_keep 17 = .ok (.aload_n 0, 1) := by decide +kernel
theorem dX10_keep_18 : decode cX10_keep 18 = .ok (.getfield 16, 3) := by decide +kernel
theorem dX10_keep_21 : decode cX10_keep 21 = .ok (.iload_n 1, 1) := by decide +kernel
theorem dX10_keep_22 : decode cX10_keep 22 = .ok (.aload_n 0, 1) := by decide +kernel
theorem dX10_keep_23 : decode cX10_keep 23 = .ok (.getfield 16, 3) := by decide +kernel
theorem dX10_keep_26 : decode cX10_keep 26 = .ok (.iload_n 1, 1) := by decide +kernel
theorem dX10_keep_27 : decode cX10_keep 27 = .ok (.sipush 198, 3) := by decide +kernel
theorem dX10_keep_30 : decode cX10_keep 30 = .ok (.iadd, 1) := by decide +kernel
theorem dX10_keep_31 : decode cX10_keep 31 = .ok (.iaload, 1) := by decide +kernel
theorem dX10_keep_32 : decode cX10_keep 32 = .ok (.iastore, 1) := by decide +kernel
theorem dX10_keep_33 : decode cX10_keep 33 = .ok (.iinc 1 1, 3) := by decide +kernel
theorem dX10_keep_36 : decode cX10_keep 36 = .ok (.goto (-26), 3) := by decide +kernel
theorem dX10_keep_39 : decode cX10_keep 39 = .ok (.aload_n 0, 1) := by decide +kernel
theorem dX10_keep_40 : decode cX10_keep 40 = .ok (.dup, 1) := by decide +kernel
theorem dX10_keep_41 : decode cX10_keep 41 = .ok (.getfield 51, 3) := by decide +kernel
theorem dX10_keep_44 : decode cX10_keep 44 = .ok (.iconst 1, 1) := by decide +kernel
theorem dX10_keep_45 : decode cX10_keep 45 = .ok (.isub, 1) := by decide +kernel
theorem dX10_keep_46 : decode cX10_keep 46 = .ok (.putfield 51, 3) := by decide +kernel
theorem dX10_keep_49 : decode cX10_keep 49 = .ok (.aload_n 0, 1) := by decide +kernel
theorem dX10_keep_50 : decode cX10_keep 50 = .ok (.getfield 7, 3) := by decide +kernel
theorem dX10_keep_53 : decode cX10_keep 53 = .ok (.iconst 0, 1) := by decide +kernel
theorem dX10_keep_54 : decode cX10_keep 54 = .ok (.aload_n 0, 1) := by decide +kernel
theorem dX10_keep_55 : decode cX10_keep 55 = .ok (.getfield 16, 3) := by decide +kernel
theorem dX10_keep_58 : decode cX10_keep 58 = .ok (.sipush 198, 3) := by decide +kernel
theorem dX10_keep_61 : decode cX10_keep 61 = .ok (.aload_n 0, 1) := by decide +kernel
theorem dX10_keep_62 : decode cX10_keep 62 = .ok (.getfield 51, 3) := by decide +kernel
theorem dX10_keep_65 : decode cX10_keep 65 = .ok (.imul, 1) := by decide +kernel
theorem dX10_keep_66 : decode cX10_keep 66 = .ok (.invokestatic 54, 3) := by decide +kernel
theorem dX10_keep_69 : decode cX10_keep 69 = .ok (.aload_n 0, 1) := by decide +kernel
theorem dX10_keep_70 : decode cX10_keep 70 = .ok (.dup, 1) := by decide +kernel
theorem dX10_keep_71 : decode cX10_keep 71 = .ok (.getfield 51, 3) := by decide +kernel
theorem dX10_keep_74 : decode cX10_keep 74 = .ok (.iconst 1, 1) := by decide +kernel
theorem dX10_keep_75 : decode cX10_keep 75 = .ok (.iadd, 1) := by decide +kernel
theorem dX10_keep_76 : decode cX10_keep 76 = .ok (.putfield 51, 3) := by decide +kernel
theorem dX10_keep_79 : decode cX10_keep 79 = .ok (.return_, 1) := by decide +kernel
theorem dX10_isNode_0 : decode cX10_isNode 0 = .ok (.iload_n 1, 1) := by decide +kernel
theorem dX10_isNode_1 : decode cX10_isNode 1 = .ok (.iconst 0, 1) := by decide +kernel
theorem dX10_isNode_2 : decode cX10_isNode 2 = .ok (.aload_n 0, 1) := by decide +kernel
theorem dX10_isNode_3 : decode cX10_isNode 3 = .ok (.getfield 7, 3) := by decide +kernel
theorem dX10_isNode_6 : decode cX10_isNode 6 = .ok (.iconst 2, 1) := by decide +kernel
theorem dX10_isNode_7 : decode cX10_isNode 7 = .ok (.iaload, 1) := by decide +kernel
theorem dX10_isNode_8 : decode cX10_isNode 8 = .ok (.iconst 1, 1) := by decide +kernel
theorem dX10_isNode_9 : decode cX10_isNode 9 = .ok (.isub, 1) := by decide +kernel
theorem dX10_isNode_10 : decode cX10_isNode 10 = .ok (.invokestatic 58, 3) := by decide +kernel
theorem dX10_isNode_13 : decode cX10_isNode 13 = .ok (.ireturn, 1) := by decide +kernel
theorem dX10_of_0 : decode cX10_of 0 = .ok (.aload_n 0, 1) := by decide +kernel
theorem dX10_of_1 : decode cX10_of 1 = .ok (.getfield 7, 3) := by decide +kernel
theorem dX10_of_4 : decode cX10_of 4 = .ok (.bipush 14, 2) := by decide +kernel
theorem dX10_of_6 : decode cX10_of 6 = .ok (.bipush 8, 2) := by decide +kernel
theorem dX10_of_8 : decode cX10_of 8 = .ok (.iload_n 1, 1) := by decide +kernel
theorem dX10_of_9 : decode cX10_of 9 = .ok (.imul, 1) := by decide +kernel
theorem dX10_of_10 : decode cX10_of 10 = .ok (.iadd, 1) := by decide +kernel
theorem dX10_of_11 : decode cX10_of 11 = .ok (.iload_n 2, 1) := by decide +kernel
theorem dX10_of_12 : decode cX10_of 12 = .ok (.iadd, 1) := by decide +kernel
theorem dX10_of_13 : decode cX10_of 13 = .ok (.iaload, 1) := by decide +kernel
theorem dX10_of_14 : decode cX10_of 14 = .ok (.ireturn, 1) := by decide +kernel
theorem dX10_isBox_0 : decode cX10_isBox 0 = .ok (.aload_n 0, 1) := by decide +kernel
theorem dX10_isBox_1 : decode cX10_isBox 1 = .ok (.iload_n 1, 1) := by decide +kernel
theorem dX10_isBox_2 : decode cX10_isBox 2 = .ok (.iconst 4, 1) := by decide +kernel
theorem dX10_isBox_3 : decode cX10_isBox 3 = .ok (.invokevirtual 62, 3) := by decide +kernel
theorem dX10_isBox_6 : decode cX10_isBox 6 = .ok (.ifCond .le 7, 3) := by decide +kernel
theorem dX10_isBox_9 : decode cX10_isBox 9 = .ok (.iconst 1, 1) := by decide +kernel
theorem dX10_isBox_10 : decode cX10_isBox 10 = .ok (.goto 4, 3) := by decide +kernel
theorem dX10_isBox_13 : decode cX10_isBox 13 = .ok (.iconst 0, 1) := by decide +kernel
theorem dX10_isBox_14 : decode cX10_isBox 14 = .ok (.ireturn, 1) := by decide +kernel
theorem dX10_groupsAround_0 : decode cX10_groupsAround 0 = .ok (.iconst 0, 1) := by decide +kernel
theorem dX10_groupsAround_1 : decode cX10_groupsAround 1 = .ok (.istore_n 2, 1) := by decide +kernel
theorem dX10_groupsAround_2 : decode cX10_groupsAround 2 = .ok (.aload_n 0, 1) := by decide +kernel
theorem dX10_groupsAround_3 : decode cX10_groupsAround 3 = .ok (.iload_n 1, 1) := by decide +kernel
theorem dX10_groupsAround_4 : decode cX10_groupsAround 4 = .ok (.iconst 0, 1) := by decide +kernel
theorem dX10_groupsAround_5 : decode cX10_groupsAround 5 = .ok (.invokevirtual 62, 3) := by decide +kernel
theorem dX10_groupsAround_8 : decode cX10_groupsAround 8 = .ok (.istore_n 3, 1) := by decide +kernel
theorem dX10_groupsAround_9 : decode cX10_groupsAround 9 = .ok (.iload_n 3, 1) := by decide +kernel
theorem dX10_groupsAround_10 : decode cX10_groupsAround 10 = .ok (.sipush (-1000), 3) := by decide +kernel
theorem dX10_groupsAround_13 : decode cX10_groupsAround 13 = .ok (.if_icmp .eq 16, 3) := by decide +kernel
theorem dX10_groupsAround_16 : decode cX10_groupsAround 16 = .ok (.iinc 2 1, 3) := by decide +kernel
theorem dX10_groupsAround_19 : decode cX10_groupsAround 19 = .ok (.aload_n 0, 1) := by decide +kernel
theorem dX10_groupsAround_20 : decode cX10_groupsAround 20 = .ok (.iload_n 3, 1) := by decide +kernel
theorem dX10_groupsAround_21 : decode cX10_groupsAround 21 = .ok (.iconst 0, 1) := by decide +kernel
theorem dX10_groupsAround_22 : decode cX10_groupsAround 22 = .ok (.invokevirtual 62, 3) := by decide +kernel
theorem dX10_groupsAround_25 : decode cX10_groupsAround 25 = .ok (.istore_n 3, 1) := by decide +kernel
theorem dX10_groupsAround_26 : decode cX10_groupsAround 26 = .ok (.goto (-17), 3) := by decide +kernel
theorem dX10_groupsAround_29 : decode cX10_groupsAround 29 = .ok (.iload_n 2, 1) := by decide +kernel
theorem dX10_groupsAround_30 : decode cX10_groupsAround 30 = .ok (.ireturn, 1) := by decide +kernel
theorem dX10_sumOf_0 : decode cX10_sumOf 0 = .ok (.iconst 0, 1) := by decide +kernel
theorem dX10_sumOf_1 : decode cX10_sumOf 1 = .ok (.istore_n 3, 1) := by decide +kernel
theorem dX10_sumOf_2 : decode cX10_sumOf 2 = .ok (.iload_n 1, 1) := by decide +kernel
theorem dX10_sumOf_3 : decode cX10_sumOf 3 = .ok (.istore 4, 2) := by decide +kernel
theorem dX10_sumOf_5 : decode cX10_sumOf 5 = .ok (.iload 4, 2) := by decide +kernel
theorem dX10_sumOf_7 : decode cX10_sumOf 7 = .ok (.sipush (-1000), 3) := by decide +kernel
theorem dX10_sumOf_10 : decode cX10_sumOf 10 = .ok (.if_icmp .eq 25, 3) := by decide +kernel
theorem dX10_sumOf_13 : decode cX10_sumOf 13 = .ok (.iload_n 3, 1) := by decide +kernel
theorem dX10_sumOf_14 : decode cX10_sumOf 14 = .ok (.aload_n 0, 1) := by decide +kernel
theorem dX10_sumOf_15 : decode cX10_sumOf 15 = .ok (.iload 4, 2) := by decide +kernel
theorem dX10_sumOf_17 : decode cX10_sumOf 17 = .ok (.iload_n 2, 1) := by decide +kernel
theorem dX10_sumOf_18 : decode cX10_sumOf 18 = .ok (.invokevirtual 62, 3) := by decide +kernel
theorem dX10_sumOf_21 : decode cX10_sumOf 21 = .ok (.iadd, 1) := by decide +kernel
theorem dX10_sumOf_22 : decode cX10_sumOf 22 = .ok (.istore_n 3, 1) := by decide +kernel
theorem dX10_sumOf_23 : decode cX10_sumOf 23 = .ok (.aload_n 0, 1) := by decide +kernel
theorem dX10_sumOf_24 : decode cX10_sumOf 24 = .ok (.iload 4, 2) := by decide +kernel
theorem dX10_sumOf_26 : decode cX10_sumOf 26 = .ok (.iconst 0, 1) := by decide +kernel
theorem dX10_sumOf_27 : decode cX10_sumOf 27 = .ok (.invokevirtual 62, 3) := by decide +kernel
theorem dX10_sumOf_30 : decode cX10_sumOf 30 = .ok (.istore 4, 2) := by decide +kernel
theorem dX10_sumOf_32 : decode cX10_sumOf 32 = .ok (.goto (-27), 3) := by decide +kernel
theorem dX10_sumOf_35 : decode cX10_sumOf 35 = .ok (.iload_n 3, 1) := by decide +kernel
theorem dX10_sumOf_36 : decode cX10_sumOf 36 = .ok (.ireturn, 1) := by decide +kernel
theorem dX10_notBegin_0 : decode cX10_notBegin 0 = .ok (.iload_n 0, 1) := by decide +kernel
theorem dX10_notBegin_1 : decode cX10_notBegin 1 = .ok (.bipush 20, 2) := by decide +kernel
theorem dX10_notBegin_3 : decode cX10_notBegin 3 = .ok (.sipush 200, 3) := by decide +kernel
theorem dX10_notBegin_6 : decode cX10_notBegin 6 = .ok (.invokestatic 58, 3) := by decide +kernel
theorem dX10_notBegin_9 : decode cX10_notBegin 9 = .ok (.ifCond .eq 18, 3) := by decide +kernel
theorem dX10_notBegin_12 : decode cX10_notBegin 12 = .ok (.iload_n 1, 1) := by decide +kernel
theorem dX10_notBegin_13 : decode cX10_notBegin 13 = .ok (.bipush 10, 2) := by decide +kernel
theorem dX10_notBegin_15 : decode cX10_notBegin 15 = .ok (.bipush 120, 2) := by decide +kernel
theorem dX10_notBegin_17 : decode cX10_notBegin 17 = .ok (.invokestatic 58, 3) := by decide +kernel
theorem dX10_notBegin_20 : decode cX10_notBegin 20 = .ok (.ifCond .eq 7, 3) := by decide +kernel
theorem dX10_notBegin_23 : decode cX10_notBegin 23 = .ok (.iconst 0, 1) := by decide +kernel
theorem dX10_notBegin_24 : decode cX10_notBegin 24 = .ok (.goto 4, 3) := by decide +kernel
theorem dX10_notBegin_27 : decode cX10_notBegin 27 = .ok (.iconst 1, 1) := by decide +kernel
theorem dX10_notBegin_28 : decode cX10_notBegin 28 = .ok (.ireturn, 1) := by decide +kernel
theorem dX10_begins_0 : decode cX10_begins 0 = .ok (.aload_n 0, 1) := by decide +kernel
theorem dX10_begins_1 : decode cX10_begins 1 = .ok (.getfield 7, 3) := by decide +kernel
theorem dX10_begins_4 : decode cX10_begins 4 = .ok (.iconst 4, 1) := by decide +kernel
theorem dX10_begins_5 : decode cX10_begins 5 = .ok (.iaload, 1) := by decide +kernel
theorem dX10_begins_6 : decode cX10_begins 6 = .ok (.istore_n 3, 1) := by decide +kernel
theorem dX10_begins_7 : decode cX10_begins 7 = .ok (.aload_n 0, 1) := by decide +kernel
theorem dX10_begins_8 : decode cX10_begins 8 = .ok (.iload_n 1, 1) := by decide +kernel
theorem dX10_begins_9 : decode cX10_begins 9 = .ok (.iload_n 2, 1) := by decide +kernel
theorem dX10_begins_10 : decode cX10_begins 10 = .ok (.invokevirtual 43, 3) := by decide +kernel
theorem dX10_begins_13 : decode cX10_begins 13 = .ok (.iload_n 3, 1) := by decide +kernel
theorem dX10_begins_14 : decode cX10_begins 14 = .ok (.ireturn, 1) := by decide +kernel
theorem dX10_begin_0 : decode cX10_begin 0 = .ok (.aload_n 0, 1) := by decide +kernel
theorem dX10_begin_1 : decode cX10_begin 1 = .ok (.iload_n 1, 1) := by decide +kernel
theorem dX10_begin_2 : decode cX10_begin 2 = .ok (.iload_n 2, 1) := by decide +kernel
theorem dX10_begin_3 : decode cX10_begin 3 = .ok (.invokestatic 66, 3) := by decide +kernel
theorem dX10_begin_6 : decode cX10_begin 6 = .ok (.putfield 47, 3) := by decide +kernel
theorem dX10_begin_9 : decode cX10_begin 9 = .ok (.aload_n 0, 1) := by decide +kernel
theorem dX10_begin_10 : decode cX10_begin 10 = .ok (.getfield 47, 3) := by decide +kernel
theorem dX10_begin_13 : decode cX10_begin 13 = .ok (.ifCond .eq 5, 3) := by decide +kernel
theorem dX10_begin_16 : decode cX10_begin 16 = .ok (.iconst 0, 1) := by decide +kernel
theorem dX10_begin_17 : decode cX10_begin 17 = .ok (.ireturn, 1) := by decide +kernel
theorem dX10_begin_18 : decode cX10_begin 18 = .ok (.aload_n 0, 1) := by decide +kernel
theorem dX10_begin_19 : decode cX10_begin 19 = .ok (.invokevirtual 69, 3) := by decide +kernel
theorem dX10_begin_22 : decode cX10_begin 22 = .ok (.aload_n 0, 1) := by decide +kernel
theorem dX10_begin_23 : decode cX10_begin 23 = .ok (.iload_n 1, 1) := by decide +kernel
theorem dX10_begin_24 : decode cX10_begin 24 = .ok (.iload_n 2, 1) := by decide +kernel
theorem dX10_begin_25 : decode cX10_begin 25 = .ok (.invokevirtual 72, 3) := by decide +kernel
theorem dX10_begin_28 : decode cX10_begin 28 = .ok (.ireturn, 1) := by decide +kernel
theorem dX10_isFar_0 : decode cX10_isFar 0 = .ok (.iload_n 0, 1) := by decide +kernel
theorem dX10_isFar_1 : decode cX10_isFar 1 = .ok (.sipush (-200), 3) := by decide +kernel
theorem dX10_isFar_4 : decode cX10_isFar 4 = .ok (.sipush 200, 3) := by decide +kernel
theorem dX10_isFar_7 : decode cX10_isFar 7 = .ok (.invokestatic 58, 3) := by decide +kernel
theorem dX10_isFar_10 : decode cX10_isFar 10 = .ok (.ireturn, 1) := by decide +kernel
theorem dX10_notAdd_0 : decode cX10_notAdd 0 = .ok (.iload_n 1, 1) := by decide +kernel
theorem dX10_notAdd_1 : decode cX10_notAdd 1 = .ok (.sipush (-1000), 3) := by decide +kernel
theorem dX10_notAdd_4 : decode cX10_notAdd 4 = .ok (.if_icmp .eq 13, 3) := by decide +kernel
theorem dX10_notAdd_7 : decode cX10_notAdd 7 = .ok (.aload_n 0, 1) := by decide +kernel
theorem dX10_notAdd_8 : decode cX10_notAdd 8 = .ok (.iload_n 1, 1) := by decide +kernel
theorem dX10_notAdd_9 : decode cX10_notAdd 9 = .ok (.invokevirtual 75, 3) := by decide +kernel
theorem dX10_notAdd_12 : decode cX10_notAdd 12 = .ok (.ifCond .ne 5, 3) := by decide +kernel
theorem dX10_notAdd_15 : decode cX10_notAdd 15 = .ok (.iconst 1, 1) := by decide +kernel
theorem dX10_notAdd_16 : decode cX10_notAdd 16 = .ok (.ireturn, 1) := by decide +kernel
theorem dX10_notAdd_17 : decode cX10_notAdd 17 = .ok (.iload_n 1, 1) := by decide +kernel
theorem dX10_notAdd_18 : decode cX10_notAdd 18 = .ok (.sipush (-1000), 3) := by decide +kernel
theorem dX10_notAdd_21 : decode cX10_notAdd 21 = .ok (.if_icmp .eq 11, 3) := by decide +kernel
theorem dX10_notAdd_24 : decode cX10_notAdd 24 = .ok (.aload_n 0, 1) := by decide +kernel
theorem dX10_notAdd_25 : decode cX10_notAdd 25 = .ok (.iload_n 1, 1) := by decide +kernel
theorem dX10_notAdd_26 : decode cX10_notAdd 26 = .ok (.invokevirtual 79, 3) := by decide +kernel
theorem dX10_notAdd_29 : decode cX10_notAdd 29 = .ok (.ifCond .ne 25, 3) := by decide +kernel
theorem dX10_notAdd_32 : decode cX10_notAdd 32 = .ok (.iload_n 2, 1) := by decide +kernel
theorem dX10_notAdd_33 : decode cX10_notAdd 33 = .ok (.invokestatic 82, 3) := by decide +kernel
theorem dX10_notAdd_36 : decode cX10_notAdd 36 = .ok (.ifCond .eq 18, 3) := by decide +kernel
theorem dX10_notAdd_39 : decode cX10_notAdd 39 = .ok (.iload_n 3, 1) := by decide +kernel
theorem dX10_notAdd_40 : decode cX10_notAdd 40 = .ok (.invokestatic 82, 3) := by decide +kernel
theorem dX10_notAdd_43 : decode cX10_notAdd 43 = .ok (.ifCond .eq 11, 3) := by decide +kernel
theorem dX10_notAdd_46 : decode cX10_notAdd 46 = .ok (.iload 4, 2) := by decide +kernel
theorem dX10_notAdd_48 : decode cX10_notAdd 48 = .ok (.invokestatic 82, 3) := by decide +kernel
theorem dX10_notAdd_51 : decode cX10_notAdd 51 = .ok (.ifCond .ne 5, 3) := by decide +kernel
theorem dX10_notAdd_54 : decode cX10_notAdd 54 = .ok (.iconst 2, 1) := by decide +kernel
theorem dX10_notAdd_55 : decode cX10_notAdd 55 = .ok (.ireturn, 1) := by decide +kernel
theorem dX10_notAdd_56 : decode cX10_notAdd 56 = .ok (.aload_n 0, 1) := by decide +kernel
theorem dX10_notAdd_57 : decode cX10_notAdd 57 = .ok (.getfield 7, 3) := by decide +kernel
theorem dX10_notAdd_60 : decode cX10_notAdd 60 = .ok (.iconst 2, 1) := by decide +kernel
theorem dX10_notAdd_61 : decode cX10_notAdd 61 = .ok (.iaload, 1) := by decide +kernel
theorem dX10_notAdd_62 : decode cX10_notAdd 62 = .ok (.bipush 20, 2) := by decide +kernel
theorem dX10_notAdd_64 : decode cX10_notAdd 64 = .ok (.if_icmp .eq 19, 3) := by decide +kernel
theorem dX10_notAdd_67 : decode cX10_notAdd 67 = .ok (.iload_n 1, 1) := by decide +kernel
theorem dX10_notAdd_68 : decode cX10_notAdd 68 = .ok (.sipush (-1000), 3) := by decide +kernel
theorem dX10_notAdd_71 : decode cX10_notAdd 71 = .ok (.if_icmp .eq 16, 3) := by decide +kernel
theorem dX10_notAdd_74 : decode cX10_notAdd 74 = .ok (.aload_n 0, 1) := by decide +kernel
theorem dX10_notAdd_75 : decode cX10_notAdd 75 = .ok (.iload_n 1, 1) := by decide +kernel
theorem dX10_notAdd_76 : decode cX10_notAdd 76 = .ok (.invokevirtual 85, 3) := by decide +kernel
theorem dX10_notAdd_79 : decode cX10_notAdd 79 = .ok (.iconst 5, 1) := by decide +kernel
theorem dX10_notAdd_80 : decode cX10_notAdd 80 = .ok (.if_icmp .lt 7, 3) := by decide +kernel
theorem dX10_notAdd_83 : decode cX10_notAdd 83 = .ok (.iconst 3, 1) := by decide +kernel
theorem dX10_notAdd_84 : decode cX10_notAdd 84 = .ok (.goto 4, 3) := by decide +kernel
theorem dX10_notAdd_87 : decode cX10_notAdd 87 = .ok (.iconst 0, 1) := by decide +kernel
theorem dX10_notAdd_88 : decode cX10_notAdd 88 = .ok (.ireturn, 1) := by decide +kernel
theorem dX10_adds_0 : decode cX10_adds 0 = .ok (.bipush 14, 2) := by decide +kernel
theorem dX10_adds_2 : decode cX10_adds 2 = .ok (.bipush 8, 2) := by decide +kernel
theorem dX10_adds_4 : decode cX10_adds 4 = .ok (.aload_n 0, 1) := by decide +kernel
theorem dX10_adds_5 : decode cX10_adds 5 = .ok (.getfield 7, 3) := by decide +kernel
theorem dX10_adds_8 : decode cX10_adds 8 = .ok (.iconst 2, 1) := by decide +kernel
theorem dX10_adds_9 : decode cX10_adds 9 = .ok (.iaload, 1) := by decide +kernel
theorem dX10_adds_10 : decode cX10_adds 10 = .ok (.imul, 1) := by decide +kernel
theorem dX10_adds_11 : decode cX10_adds 11 = .ok (.iadd, 1) := by decide +kernel
theorem dX10_adds_12 : decode cX10_adds 12 = .ok (.istore 7, 2) := by decide +kernel
theorem dX10_adds_14 : decode cX10_adds 14 = .ok (.aload_n 0, 1) := by decide +kernel
theorem dX10_adds_15 : decode cX10_adds 15 = .ok (.getfield 7, 3) := by decide +kernel
theorem dX10_adds_18 : decode cX10_adds 18 = .ok (.iload 7, 2) := by decide +kernel
theorem dX10_adds_20 : decode cX10_adds 20 = .ok (.iload_n 1, 1) := by decide +kernel
theorem dX10_adds_21 : decode cX10_adds 21 = .ok (.iastore, 1) := by decide +kernel
theorem dX10_adds_22 : decode cX10_adds 22 = .ok (.aload_n 0, 1) := by decide +kernel
theorem dX10_adds_23 : decode cX10_adds 23 = .ok (.getfield 7, 3) := by decide +kernel
theorem dX10_adds_26 : decode cX10_adds 26 = .ok (.iload 7, 2) := by decide +kernel
theorem dX10_adds_28 : decode cX10_adds 28 = .ok (.iconst 1, 1) := by decide +kernel
theorem dX10_adds_29 : decode cX10_adds 29 = .ok (.iadd, 1) := by decide +kernel
theorem dX10_adds_30 : decode cX10_adds 30 = .ok (.iload_n 2, 1) := by decide +kernel
theorem dX10_adds_31 : decode cX10_adds 31 = .ok (.iastore, 1) := by decide +kernel
theorem dX10_adds_32 : decode cX10_adds 32 = .ok (.aload_n 0, 1) := by decide +kernel
theorem dX10_adds_33 : decode cX10_adds 33 = .ok (.getfield 7, 3) := by decide +kernel
theorem dX10_adds_36 : decode cX10_adds 36 = .ok (.iload 7, 2) := by decide +kernel
theorem dX10_adds_38 : decode cX10_adds 38 = .ok (.iconst 2, 1) := by decide +kernel
theorem dX10_adds_39 : decode cX10_adds 39 = .ok (.iadd, 1) := by decide +kernel
theorem dX10_adds_40 : decode cX10_adds 40 = .ok (.iload_n 3, 1) := by decide +kernel
theorem dX10_adds_41 : decode cX10_adds 41 = .ok (.iastore, 1) := by decide +kernel
theorem dX10_adds_42 : decode cX10_adds 42 = .ok (.aload_n 0, 1) := by decide +kernel
theorem dX10_adds_43 : decode cX10_adds 43 = .ok (.getfield 7, 3) := by decide +kernel
theorem dX10_adds_46 : decode cX10_adds 46 = .ok (.iload 7, 2) := by decide +kernel
theorem dX10_adds_48 : decode cX10_adds 48 = .ok (.iconst 3, 1) := by decide +kernel
theorem dX10_adds_49 : decode cX10_adds 49 = .ok (.iadd, 1) := by decide +kernel
theorem dX10_adds_50 : decode cX10_adds 50 = .ok (.iload 4, 2) := by decide +kernel
theorem dX10_adds_52 : decode cX10_adds 52 = .ok (.iastore, 1) := by decide +kernel
theorem dX10_adds_53 : decode cX10_adds 53 = .ok (.aload_n 0, 1) := by decide +kernel
theorem dX10_adds_54 : decode cX10_adds 54 = .ok (.getfield 7, 3) := by decide +kernel
theorem dX10_adds_57 : decode cX10_adds 57 = .ok (.iload 7, 2) := by decide +kernel
theorem dX10_adds_59 : decode cX10_adds 59 = .ok (.iconst 4, 1) := by decide +kernel
theorem dX10_adds_60 : decode cX10_adds 60 = .ok (.iadd, 1) := by decide +kernel
theorem dX10_adds_61 : decode cX10_adds 61 = .ok (.iload 5, 2) := by decide +kernel
theorem dX10_adds_63 : decode cX10_adds 63 = .ok (.iastore, 1) := by decide +kernel
theorem dX10_adds_64 : decode cX10_adds 64 = .ok (.aload_n 0, 1) := by decide +kernel
theorem dX10_adds_65 : decode cX10_adds 65 = .ok (.getfield 7, 3) := by decide +kernel
theorem dX10_adds_68 : decode cX10_adds 68 = .ok (.iload 7, 2) := by decide +kernel
theorem dX10_adds_70 : decode cX10_adds 70 = .ok (.iconst 5, 1) := by decide +kernel
theorem dX10_adds_71 : decode cX10_adds 71 = .ok (.iadd, 1) := by decide +kernel
theorem dX10_adds_72 : decode cX10_adds 72 = .ok (.iload 6, 2) := by decide +kernel
theorem dX10_adds_74 : decode cX10_adds 74 = .ok (.iastore, 1) := by decide +kernel
theorem dX10_adds_75 : decode cX10_adds 75 = .ok (.aload_n 0, 1) := by decide +kernel
theorem dX10_adds_76 : decode cX10_adds 76 = .ok (.getfield 7, 3) := by decide +kernel
theorem dX10_adds_79 : decode cX10_adds 79 = .ok (.iload 7, 2) := by decide +kernel
theorem dX10_adds_81 : decode cX10_adds 81 = .ok (.bipush 6, 2) := by decide +kernel
theorem dX10_adds_83 : decode cX10_adds 83 = .ok (.iadd, 1) := by decide +kernel
theorem dX10_adds_84 : decode cX10_adds 84 = .ok (.bipush 8, 2) := by decide +kernel
theorem dX10_adds_86 : decode cX10_adds 86 = .ok (.iastore, 1) := by decide +kernel
theorem dX10_adds_87 : decode cX10_adds 87 = .ok (.aload_n 0, 1) := by decide +kernel
theorem dX10_adds_88 : decode cX10_adds 88 = .ok (.getfield 7, 3) := by decide +kernel
theorem dX10_adds_91 : decode cX10_adds 91 = .ok (.iconst 2, 1) := by decide +kernel
theorem dX10_adds_92 : decode cX10_adds 92 = .ok (.dup2, 1) := by decide +kernel
theorem dX10_adds_93 : decode cX10_adds 93 = .ok (.iaload, 1) := by decide +kernel
theorem dX10_adds_94 : decode cX10_adds 94 = .ok (.iconst 1, 1) := by decide +kernel
theorem dX10_adds_95 : decode cX10_adds 95 = .ok (.iadd, 1) := by decide +kernel
theorem dX10_adds_96 : decode cX10_adds 96 = .ok (.iastore, 1) := by decide +kernel
theorem dX10_adds_97 : decode cX10_adds 97 = .ok (.aload_n 0, 1) := by decide +kernel
theorem dX10_adds_98 : decode cX10_adds 98 = .ok (.getfield 7, 3) := by decide +kernel
theorem dX10_adds_101 : decode cX10_adds 101 = .ok (.iconst 2, 1) := by decide +kernel
theorem dX10_adds_102 : decode cX10_adds 102 = .ok (.iaload, 1) := by decide +kernel
theorem dX10_adds_103 : decode cX10_adds 103 = .ok (.iconst 1, 1) := by decide +kernel
theorem dX10_adds_104 : decode cX10_adds 104 = .ok (.isub, 1) := by decide +kernel
theorem dX10_adds_105 : decode cX10_adds 105 = .ok (.ireturn, 1) := by decide +kernel
theorem dX10_addGroup_0 : decode cX10_addGroup 0 = .ok (.aload_n 0, 1) := by decide +kernel
theorem dX10_addGroup_1 : decode cX10_addGroup 1 = .ok (.aload_n 0, 1) := by decide +kernel
theorem dX10_addGroup_2 : decode cX10_addGroup 2 = .ok (.iload_n 1, 1) := by decide +kernel
theorem dX10_addGroup_3 : decode cX10_addGroup 3 = .ok (.iload_n 2, 1) := by decide +kernel
theorem dX10_addGroup_4 : decode cX10_addGroup 4 = .ok (.iload_n 3, 1) := by decide +kernel
theorem dX10_addGroup_5 : decode cX10_addGroup 5 = .ok (.iload 4, 2) := by decide +kernel
theorem dX10_addGroup_7 : decode cX10_addGroup 7 = .ok (.invokevirtual 89, 3) := by decide +kernel
theorem dX10_addGroup_10 : decode cX10_addGroup 10 = .ok (.putfield 47, 3) := by decide +kernel
theorem dX10_addGroup_13 : decode cX10_addGroup 13 = .ok (.aload_n 0, 1) := by decide +kernel
theorem dX10_addGroup_14 : decode cX10_addGroup 14 = .ok (.getfield 47, 3) := by decide +kernel
theorem dX10_addGroup_17 : decode cX10_addGroup 17 = .ok (.ifCond .eq 5, 3) := by decide +kernel
theorem dX10_addGroup_20 : decode cX10_addGroup 20 = .ok (.iconst 0, 1) := by decide +kernel
theorem dX10_addGroup_21 : decode cX10_addGroup 21 = .ok (.ireturn, 1) := by decide +kernel
theorem dX10_addGroup_22 : decode cX10_addGroup 22 = .ok (.aload_n 0, 1) := by decide +kernel
theorem dX10_addGroup_23 : decode cX10_addGroup 23 = .ok (.invokevirtual 69, 3) := by decide +kernel
theorem dX10_addGroup_26 : decode cX10_addGroup 26 = .ok (.aload_n 0, 1) := by decide +kernel
theorem dX10_addGroup_27 : decode cX10_addGroup 27 = .ok (.iload_n 1, 1) := by decide +kernel
theorem dX10_addGroup_28 : decode cX10_addGroup 28 = .ok (.iload_n 2, 1) := by decide +kernel
theorem dX10_addGroup_29 : decode cX10_addGroup 29 = .ok (.iload_n 3, 1) := by decide +kernel
theorem dX10_addGroup_30 : decode cX10_addGroup 30 = .ok (.iload 4, 2) := by decide +kernel
theorem dX10_addGroup_32 : decode cX10_addGroup 32 = .ok (.iconst 0, 1) := by decide +kernel
theorem dX10_addGroup_33 : decode cX10_addGroup 33 = .ok (.iconst 0, 1) := by decide +kernel
theorem dX10_addGroup_34 : decode cX10_addGroup 34 = .ok (.invokevirtual 93, 3) := by decide +kernel
theorem dX10_addGroup_37 : decode cX10_addGroup 37 = .ok (.ireturn, 1) := by decide +kernel
theorem dX10_notBox_0 : decode cX10_notBox 0 = .ok (.aload_n 0, 1) := by decide +kernel
theorem dX10_notBox_1 : decode cX10_notBox 1 = .ok (.iload_n 1, 1) := by decide +kernel
theorem dX10_notBox_2 : decode cX10_notBox 2 = .ok (.iload_n 2, 1) := by decide +kernel
theorem dX10_notBox_3 : decode cX10_notBox 3 = .ok (.iload_n 3, 1) := by decide +kernel
theorem dX10_notBox_4 : decode cX10_notBox 4 = .ok (.iload 4, 2) := by decide +kernel
theorem dX10_notBox_6 : decode cX10_notBox 6 = .ok (.invokevirtual 89, 3) := by decide +kernel
theorem dX10_notBox_9 : decode cX10_notBox 9 = .ok (.istore 7, 2) := by decide +kernel
theorem dX10_notBox_11 : decode cX10_notBox 11 = .ok (.iload 7, 2) := by decide +kernel
theorem dX10_notBox_13 : decode cX10_notBox 13 = .ok (.iconst 1, 1) := by decide +kernel
theorem dX10_notBox_14 : decode cX10_notBox 14 = .ok (.if_icmp .eq 29, 3) := by decide +kernel
theorem dX10_notBox_17 : decode cX10_notBox 17 = .ok (.iload 5, 2) := by decide +kernel
theorem dX10_notBox_19 : decode cX10_notBox 19 = .ok (.iconst 1, 1) := by decide +kernel
theorem dX10_notBox_20 : decode cX10_notBox 20 = .ok (.bipush 100, 2) := by decide +kernel
theorem dX10_notBox_22 : decode cX10_notBox 22 = .ok (.invokestatic 58, 3) := by decide +kernel
theorem dX10_notBox_25 : decode cX10_notBox 25 = .ok (.ifCond .eq 14, 3) := by decide +kernel
theorem dX10_notBox_28 : decode cX10_notBox 28 = .ok (.iload 6, 2) := by decide +kernel
theorem dX10_notBox_30 : decode cX10_notBox 30 = .ok (.iconst 1, 1) := by decide +kernel
theorem dX10_notBox_31 : decode cX10_notBox 31 = .ok (.bipush 100, 2) := by decide +kernel
theorem dX10_notBox_33 : decode cX10_notBox 33 = .ok (.invokestatic 58, 3) := by decide +kernel
theorem dX10_notBox_36 : decode cX10_notBox 36 = .ok (.ifCond .ne 7, 3) := by decide +kernel
theorem dX10_notBox_39 : decode cX10_notBox 39 = .ok (.iconst 2, 1) := by decide +kernel
theorem dX10_notBox_40 : decode cX10_notBox 40 = .ok (.goto 5, 3) := by decide +kernel
theorem dX10_notBox_43 : decode cX10_notBox 43 = .ok (.iload 7, 2) := by decide +kernel
theorem dX10_notBox_45 : decode cX10_notBox 45 = .ok (.ireturn, 1) := by decide +kernel
theorem dX10_addBox_0 : decode cX10_addBox 0 = .ok (.aload_n 0, 1) := by decide +kernel
theorem dX10_addBox_1 : decode cX10_addBox 1 = .ok (.aload_n 0, 1) := by decide +kernel
theorem dX10_addBox_2 : decode cX10_addBox 2 = .ok (.iload_n 1, 1) := by decide +kernel
theorem dX10_addBox_3 : decode cX10_addBox 3 = .ok (.iload_n 2, 1) := by decide +kernel
theorem dX10_addBox_4 : decode cX10_addBox 4 = .ok (.iload_n 3, 1) := by decide +kernel
theorem dX10_addBox_5 : decode cX10_addBox 5 = .ok (.iload 4, 2) := by decide +kernel
theorem dX10_addBox_7 : decode cX10_addBox 7 = .ok (.iload 5, 2) := by decide +kernel
theorem dX10_addBox_9 : decode cX10_addBox 9 = .ok (.iload 6, 2) := by decide +kernel
theorem dX10_addBox_11 : decode cX10_addBox 11 = .ok (.invokevirtual 97, 3) := by decide +kernel
theorem dX10_addBox_14 : decode cX10_addBox 14 = .ok (.putfield 47, 3) := by decide +kernel
theorem dX10_addBox_17 : decode cX10_addBox 17 = .ok (.aload_n 0, 1) := by decide +kernel
theorem dX10_addBox_18 : decode cX10_addBox 18 = .ok (.getfield 47, 3) := by decide +kernel
theorem dX10_addBox_21 : decode cX10_addBox 21 = .ok (.ifCond .eq 5, 3) := by decide +kernel
theorem dX10_addBox_24 : decode cX10_addBox 24 = .ok (.iconst 0, 1) := by decide +kernel
theorem dX10_addBox_25 : decode cX10_addBox 25 = .ok (.ireturn, 1) := by decide +kernel
theorem dX10_addBox_26 : decode cX10_addBox 26 = .ok (.aload_n 0, 1) := by decide +kernel
theorem dX10_addBox_27 : decode cX10_addBox 27 = .ok (.invokevirtual 69, 3) := by decide +kernel
theorem dX10_addBox_30 : decode cX10_addBox 30 = .ok (.aload_n 0, 1) := by decide +kernel
theorem dX10_addBox_31 : decode cX10_addBox 31 = .ok (.iload_n 1, 1) := by decide +kernel
theorem dX10_addBox_32 : decode cX10_addBox 32 = .ok (.iload_n 2, 1) := by decide +kernel
theorem dX10_addBox_33 : decode cX10_addBox 33 = .ok (.iload_n 3, 1) := by decide +kernel
theorem dX10_addBox_34 : decode cX10_addBox 34 = .ok (.iload 4, 2) := by decide +kernel
theorem dX10_addBox_36 : decode cX10_addBox 36 = .ok (.iload 5, 2) := by decide +kernel
theorem dX10_addBox_38 : decode cX10_addBox 38 = .ok (.iload 6, 2) := by decide +kernel
theorem dX10_addBox_40 : decode cX10_addBox 40 = .ok (.invokevirtual 93, 3) := by decide +kernel
theorem dX10_addBox_43 : decode cX10_addBox 43 = .ok (.ireturn, 1) := by decide +kernel
theorem dX10_notMove_0 : decode cX10_notMove 0 = .ok (.aload_n 0, 1) := by decide +kernel
theorem dX10_notMove_1 : decode cX10_notMove 1 = .ok (.iload_n 1, 1) := by decide +kernel
theorem dX10_notMove_2 : decode cX10_notMove 2 = .ok (.invokevirtual 75, 3) := by decide +kernel
theorem dX10_notMove_5 : decode cX10_notMove 5 = .ok (.ifCond .ne 7, 3) := by decide +kernel
theorem dX10_notMove_8 : decode cX10_notMove 8 = .ok (.iconst 1, 1) := by decide +kernel
theorem dX10_notMove_9 : decode cX10_notMove 9 = .ok (.goto 30, 3) := by decide +kernel
theorem dX10_notMove_12 : decode cX10_notMove 12 = .ok (.iload_n 2, 1) := by decide +kernel
theorem dX10_notMove_13 : decode cX10_notMove 13 = .ok (.invokestatic 82, 3) := by decide +kernel
theorem dX10_notMove_16 : decode cX10_notMove 16 = .ok (.ifCond .eq 22, 3) := by decide +kernel
theorem dX10_notMove_19 : decode cX10_notMove 19 = .ok (.iload_n 3, 1) := by decide +kernel
theorem dX10_notMove_20 : decode cX10_notMove 20 = .ok (.invokestatic 82, 3) := by decide +kernel
theorem dX10_notMove_23 : decode cX10_notMove 23 = .ok (.ifCond .eq 15, 3) := by decide +kernel
theorem dX10_notMove_26 : decode cX10_notMove 26 = .ok (.iload 4, 2) := by decide +kernel
theorem dX10_notMove_28 : decode cX10_notMove 28 = .ok (.invokestatic 82, 3) := by decide +kernel
theorem dX10_notMove_31 : decode cX10_notMove 31 = .ok (.ifCond .eq 7, 3) := by decide +kernel
theorem dX10_notMove_34 : decode cX10_notMove 34 = .ok (.iconst 0, 1) := by decide +kernel
theorem dX10_notMove_35 : decode cX10_notMove 35 = .ok (.goto 4, 3) := by decide +kernel
theorem dX10_notMove_38 : decode cX10_notMove 38 = .ok (.iconst 2, 1) := by decide +kernel
theorem dX10_notMove_39 : decode cX10_notMove 39 = .ok (.ireturn, 1) := by decide +kernel
theorem dX10_moves_0 : decode cX10_moves 0 = .ok (.bipush 14, 2) := by decide +kernel
theorem dX10_moves_2 : decode cX10_moves 2 = .ok (.bipush 8, 2) := by decide +kernel
theorem dX10_moves_4 : decode cX10_moves 4 = .ok (.iload_n 1, 1) := by decide +kernel
theorem dX10_moves_5 : decode cX10_moves 5 = .ok (.imul, 1) := by decide +kernel
theorem dX10_moves_6 : decode cX10_moves 6 = .ok (.iadd, 1) := by decide +kernel
theorem dX10_moves_7 : decode cX10_moves 7 = .ok (.istore 5, 2) := by decide +kernel
theorem dX10_moves_9 : decode cX10_moves 9 = .ok (.aload_n 0, 1) := by decide +kernel
theorem dX10_moves_10 : decode cX10_moves 10 = .ok (.getfield 7, 3) := by decide +kernel
theorem dX10_moves_13 : decode cX10_moves 13 = .ok (.iload 5, 2) := by decide +kernel
theorem dX10_moves_15 : decode cX10_moves 15 = .ok (.iconst 3, 1) := by decide +kernel
theorem dX10_moves_16 : decode cX10_moves 16 = .ok (.iadd, 1) := by decide +kernel
theorem dX10_moves_17 : decode cX10_moves 17 = .ok (.iaload, 1) := by decide +kernel
theorem dX10_moves_18 : decode cX10_moves 18 = .ok (.istore 6, 2) := by decide +kernel
theorem dX10_moves_20 : decode cX10_moves 20 = .ok (.aload_n 0, 1) := by decide +kernel
theorem dX10_moves_21 : decode cX10_moves 21 = .ok (.getfield 7, 3) := by decide +kernel
theorem dX10_moves_24 : decode cX10_moves 24 = .ok (.iload 5, 2) := by decide +kernel
theorem dX10_moves_26 : decode cX10_moves 26 = .ok (.iconst 1, 1) := by decide +kernel
theorem dX10_moves_27 : decode cX10_moves 27 = .ok (.iadd, 1) := by decide +kernel
theorem dX10_moves_28 : decode cX10_moves 28 = .ok (.iload_n 2, 1) := by decide +kernel
theorem dX10_moves_29 : decode cX10_moves 29 = .ok (.iastore, 1) := by decide +kernel
theorem dX10_moves_30 : decode cX10_moves 30 = .ok (.aload_n 0, 1) := by decide +kernel
theorem dX10_moves_31 : decode cX10_moves 31 = .ok (.getfield 7, 3) := by decide +kernel
theorem dX10_moves_34 : decode cX10_moves 34 = .ok (.iload 5, 2) := by decide +kernel
theorem dX10_moves_36 : decode cX10_moves 36 = .ok (.iconst 2, 1) := by decide +kernel
theorem dX10_moves_37 : decode cX10_moves 37 = .ok (.iadd, 1) := by decide +kernel
theorem dX10_moves_38 : decode cX10_moves 38 = .ok (.iload_n 3, 1) := by decide +kernel
theorem dX10_moves_39 : decode cX10_moves 39 = .ok (.iastore, 1) := by decide +kernel
theorem dX10_moves_40 : decode cX10_moves 40 = .ok (.aload_n 0, 1) := by decide +kernel
theorem dX10_moves_41 : decode cX10_moves 41 = .ok (.getfield 7, 3) := by decide +kernel
theorem dX10_moves_44 : decode cX10_moves 44 = .ok (.iload 5, 2) := by decide +kernel
theorem dX10_moves_46 : decode cX10_moves 46 = .ok (.iconst 3, 1) := by decide +kernel
theorem dX10_moves_47 : decode cX10_moves 47 = .ok (.iadd, 1) := by decide +kernel
theorem dX10_moves_48 : decode cX10_moves 48 = .ok (.iload 4, 2) := by decide +kernel
theorem dX10_moves_50 : decode cX10_moves 50 = .ok (.iastore, 1) := by decide +kernel
theorem dX10_moves_51 : decode cX10_moves 51 = .ok (.iload 6, 2) := by decide +kernel
theorem dX10_moves_53 : decode cX10_moves 53 = .ok (.ireturn, 1) := by decide +kernel
theorem dX10_move_0 : decode cX10_move 0 = .ok (.aload_n 0, 1) := by decide +kernel
theorem dX10_move_1 : decode cX10_move 1 = .ok (.aload_n 0, 1) := by decide +kernel
theorem dX10_move_2 : decode cX10_move 2 = .ok (.iload_n 1, 1) := by decide +kernel
theorem dX10_move_3 : decode cX10_move 3 = .ok (.iload_n 2, 1) := by decide +kernel
theorem dX10_move_4 : decode cX10_move 4 = .ok (.iload_n 3, 1) := by decide +kernel
theorem dX10_move_5 : decode cX10_move 5 = .ok (.iload 4, 2) := by decide +kernel
theorem dX10_move_7 : decode cX10_move 7 = .ok (.invokevirtual 100, 3) := by decide +kernel
theorem dX10_move_10 : decode cX10_move 10 = .ok (.putfield 47, 3) := by decide +kernel
theorem dX10_move_13 : decode cX10_move 13 = .ok (.aload_n 0, 1) := by decide +kernel
theorem dX10_move_14 : decode cX10_move 14 = .ok (.getfield 47, 3) := by decide +kernel
theorem dX10_move_17 : decode cX10_move 17 = .ok (.ifCond .eq 5, 3) := by decide +kernel
theorem dX10_move_20 : decode cX10_move 20 = .ok (.iconst 0, 1) := by decide +kernel
theorem dX10_move_21 : decode cX10_move 21 = .ok (.ireturn, 1) := by decide +kernel
theorem dX10_move_22 : decode cX10_move 22 = .ok (.aload_n 0, 1) := by decide +kernel
theorem dX10_move_23 : decode cX10_move 23 = .ok (.invokevirtual 69, 3) := by decide +kernel
theorem dX10_move_26 : decode cX10_move 26 = .ok (.aload_n 0, 1) := by decide +kernel
theorem dX10_move_27 : decode cX10_move 27 = .ok (.iload_n 1, 1) := by decide +kernel
theorem dX10_move_28 : decode cX10_move 28 = .ok (.iload_n 2, 1) := by decide +kernel
theorem dX10_move_29 : decode cX10_move 29 = .ok (.iload_n 3, 1) := by decide +kernel
theorem dX10_move_30 : decode cX10_move 30 = .ok (.iload 4, 2) := by decide +kernel
theorem dX10_move_32 : decode cX10_move 32 = .ok (.invokevirtual 103, 3) := by decide +kernel
theorem dX10_move_35 : decode cX10_move 35 = .ok (.ireturn, 1) := by decide +kernel
theorem dX10_setShade_0 : decode cX10_setShade 0 = .ok (.aload_n 0, 1) := by decide +kernel
theorem dX10_setShade_1 : decode cX10_setShade 1 = .ok (.aload_n 0, 1) := by decide +kernel
theorem dX10_setShade_2 : decode cX10_setShade 2 = .ok (.iload_n 1, 1) := by decide +kernel
theorem dX10_setShade_3 : decode cX10_setShade 3 = .ok (.invokevirtual 75, 3) := by decide +kernel
theorem dX10_setShade_6 : decode cX10_setShade 6 = .ok (.ifCond .ne 7, 3) := by decide +kernel
theorem dX10_setShade_9 : decode cX10_setShade 9 = .ok (.iconst 1, 1) := by decide +kernel
theorem dX10_setShade_10 : decode cX10_setShade 10 = .ok (.goto 26, 3) := by decide +kernel
theorem dX10_setShade_13 : decode cX10_setShade 13 = .ok (.aload_n 0, 1) := by decide +kernel
theorem dX10_setShade_14 : decode cX10_setShade 14 = .ok (.iload_n 1, 1) := by decide +kernel
theorem dX10_setShade_15 : decode cX10_setShade 15 = .ok (.invokevirtual 79, 3) := by decide +kernel
theorem dX10_setShade_18 : decode cX10_setShade 18 = .ok (.ifCond .eq 17, 3) := by decide +kernel
theorem dX10_setShade_21 : decode cX10_setShade 21 = .ok (.iload_n 2, 1) := by decide +kernel
theorem dX10_setShade_22 : decode cX10_setShade 22 = .ok (.iconst 0, 1) := by decide +kernel
theorem dX10_setShade_23 : decode cX10_setShade 23 = .ok (.bipush 15, 2) := by decide +kernel
theorem dX10_setShade_25 : decode cX10_setShade 25 = .ok (.invokestatic 58, 3) := by decide +kernel
theorem dX10_setShade_28 : decode cX10_setShade 28 = .ok (.ifCond .eq 7, 3) := by decide +kernel
theorem dX10_setShade_31 : decode cX10_setShade 31 = .ok (.iconst 0, 1) := by decide +kernel
theorem dX10_setShade_32 : decode cX10_setShade 32 = .ok (.goto 4, 3) := by decide +kernel
theorem dX10_setShade_35 : decode cX10_setShade 35 = .ok (.iconst 2, 1) := by decide +kernel
theorem dX10_setShade_36 : decode cX10_setShade 36 = .ok (.putfield 47, 3) := by decide +kernel
theorem dX10_setShade_39 : decode cX10_setShade 39 = .ok (.aload_n 0, 1) := by decide +kernel
theorem dX10_setShade_40 : decode cX10_setShade 40 = .ok (.getfield 47, 3) := by decide +kernel
theorem dX10_setShade_43 : decode cX10_setShade 43 = .ok (.ifCond .eq 5, 3) := by decide +kernel
theorem dX10_setShade_46 : decode cX10_setShade 46 = .ok (.iconst 0, 1) := by decide +kernel
theorem dX10_setShade_47 : decode cX10_setShade 47 = .ok (.ireturn, 1) := by decide +kernel
theorem dX10_setShade_48 : decode cX10_setShade 48 = .ok (.aload_n 0, 1) := by decide +kernel
theorem dX10_setShade_49 : decode cX10_setShade 49 = .ok (.invokevirtual 69, 3) := by decide +kernel
theorem dX10_setShade_52 : decode cX10_setShade 52 = .ok (.aload_n 0, 1) := by decide +kernel
theorem dX10_setShade_53 : decode cX10_setShade 53 = .ok (.iload_n 1, 1) := by decide +kernel
theorem dX10_setShade_54 : decode cX10_setShade 54 = .ok (.bipush 6, 2) := by decide +kernel
theorem dX10_setShade_56 : decode cX10_setShade 56 = .ok (.invokevirtual 62, 3) := by decide +kernel
theorem dX10_setShade_59 : decode cX10_setShade 59 = .ok (.istore_n 3, 1) := by decide +kernel
theorem dX10_setShade_60 : decode cX10_setShade 60 = .ok (.aload_n 0, 1) := by decide +kernel
theorem dX10_setShade_61 : decode cX10_setShade 61 = .ok (.getfield 7, 3) := by decide +kernel
theorem dX10_setShade_64 : decode cX10_setShade 64 = .ok (.bipush 14, 2) := by decide +kernel
theorem dX10_setShade_66 : decode cX10_setShade 66 = .ok (.bipush 8, 2) := by decide +kernel
theorem dX10_setShade_68 : decode cX10_setShade 68 = .ok (.iload_n 1, 1) := by decide +kernel
theorem dX10_setShade_69 : decode cX10_setShade 69 = .ok (.imul, 1) := by decide +kernel
theorem dX10_setShade_70 : decode cX10_setShade 70 = .ok (.iadd, 1) := by decide +kernel
theorem dX10_setShade_71 : decode cX10_setShade 71 = .ok (.bipush 6, 2) := by decide +kernel
theorem dX10_setShade_73 : decode cX10_setShade 73 = .ok (.iadd, 1) := by decide +kernel
theorem dX10_setShade_74 : decode cX10_setShade 74 = .ok (.iload_n 2, 1) := by decide +kernel
theorem dX10_setShade_75 : decode cX10_setShade 75 = .ok (.iastore, 1) := by decide +kernel
theorem dX10_setShade_76 : decode cX10_setShade 76 = .ok (.iload_n 3, 1) := by decide +kernel
theorem dX10_setShade_77 : decode cX10_setShade 77 = .ok (.ireturn, 1) := by decide +kernel
theorem dX10_isWithin_0 : decode cX10_isWithin 0 = .ok (.iload_n 1, 1) := by decide +kernel
theorem dX10_isWithin_1 : decode cX10_isWithin 1 = .ok (.istore_n 3, 1) := by decide +kernel
theorem dX10_isWithin_2 : decode cX10_isWithin 2 = .ok (.iload_n 3, 1) := by decide +kernel
theorem dX10_isWithin_3 : decode cX10_isWithin 3 = .ok (.sipush (-1000), 3) := by decide +kernel
theorem dX10_isWithin_6 : decode cX10_isWithin 6 = .ok (.if_icmp .eq 18, 3) := by decide +kernel
theorem dX10_isWithin_9 : decode cX10_isWithin 9 = .ok (.iload_n 3, 1) := by decide +kernel
theorem dX10_isWithin_10 : decode cX10_isWithin 10 = .ok (.iload_n 2, 1) := by decide +kernel
theorem dX10_isWithin_11 : decode cX10_isWithin 11 = .ok (.if_icmp .eq 13, 3) := by decide +kernel
theorem dX10_isWithin_14 : decode cX10_isWithin 14 = .ok (.aload_n 0, 1) := by decide +kernel
theorem dX10_isWithin_15 : decode cX10_isWithin 15 = .ok (.iload_n 3, 1) := by decide +kernel
theorem dX10_isWithin_16 : decode cX10_isWithin 16 = .ok (.iconst 0, 1) := by decide +kernel
theorem dX10_isWithin_17 : decode cX10_isWithin 17 = .ok (.invokevirtual 62, 3) := by decide +kernel
theorem dX10_isWithin_20 : decode cX10_isWithin 20 = .ok (.istore_n 3, 1) := by decide +kernel
theorem dX10_isWithin_21 : decode cX10_isWithin 21 = .ok (.goto (-19), 3) := by decide +kernel
theorem dX10_isWithin_24 : decode cX10_isWithin 24 = .ok (.iload_n 3, 1) := by decide +kernel
theorem dX10_isWithin_25 : decode cX10_isWithin 25 = .ok (.iload_n 2, 1) := by decide +kernel
theorem dX10_isWithin_26 : decode cX10_isWithin 26 = .ok (.if_icmp .ne 7, 3) := by decide +kernel
theorem dX10_isWithin_29 : decode cX10_isWithin 29 = .ok (.iconst 1, 1) := by decide +kernel
theorem dX10_isWithin_30 : decode cX10_isWithin 30 = .ok (.goto 4, 3) := by decide +kernel
theorem dX10_isWithin_33 : decode cX10_isWithin 33 = .ok (.iconst 0, 1) := by decide +kernel
theorem dX10_isWithin_34 : decode cX10_isWithin 34 = .ok (.ireturn, 1) := by decide +kernel
theorem dX10_removes_0 : decode cX10_removes 0 = .ok (.iconst 0, 1) := by decide +kernel
theorem dX10_removes_1 : decode cX10_removes 1 = .ok (.istore_n 2, 1) := by decide +kernel
theorem dX10_removes_2 : decode cX10_removes 2 = .ok (.iconst 0, 1) := by decide +kernel
theorem dX10_removes_3 : decode cX10_removes 3 = .ok (.istore_n 3, 1) := by decide +kernel
theorem dX10_removes_4 : decode cX10_removes 4 = .ok (.iload_n 3, 1) := by decide +kernel
theorem dX10_removes_5 : decode cX10_removes 5 = .ok (.aload_n 0, 1) := by decide +kernel
theorem dX10_removes_6 : decode cX10_removes 6 = .ok (.getfield 7, 3) := by decide +kernel
theorem dX10_removes_9 : decode cX10_removes 9 = .ok (.iconst 2, 1) := by decide +kernel
theorem dX10_removes_10 : decode cX10_removes 10 = .ok (.iaload, 1) := by decide +kernel
theorem dX10_removes_11 : decode cX10_removes 11 = .ok (.if_icmp .ge 51, 3) := by decide +kernel
theorem dX10_removes_14 : decode cX10_removes 14 = .ok (.aload_n 0, 1) := by decide +kernel
theorem dX10_removes_15 : decode cX10_removes 15 = .ok (.getfield 22, 3) := by decide +kernel
theorem dX10_removes_18 : decode cX10_removes 18 = .ok (.iload_n 3, 1) := by decide +kernel
theorem dX10_removes_19 : decode cX10_removes 19 = .ok (.aload_n 0, 1) := by decide +kernel
theorem dX10_removes_20 : decode cX10_removes 20 = .ok (.iload_n 3, 1) := by decide +kernel
theorem dX10_removes_21 : decode cX10_removes 21 = .ok (.iload_n 1, 1) := by decide +kernel
theorem dX10_removes_22 : decode cX10_removes 22 = .ok (.invokevirtual 106, 3) := by decide +kernel
theorem dX10_removes_25 : decode cX10_removes 25 = .ok (.ifCond .eq 9, 3) := by decide +kernel
theorem dX10_removes_28 : decode cX10_removes 28 = .ok (.sipush (-1000), 3) := by decide +kernel
theorem dX10_removes_31 : decode cX10_removes 31 = .ok (.goto 4, 3) := by decide +kernel
theorem dX10_removes_34 : decode cX10_removes 34 = .ok (.iload_n 2, 1) := by decide +kernel
theorem dX10_removes_35 : decode cX10_removes 35 = .ok (.iastore, 1) := by decide +kernel
theorem dX10_removes_36 : decode cX10_removes 36 = .ok (.iload_n 2, 1) := by decide +kernel
theorem dX10_removes_37 : decode cX10_removes 37 = .ok (.aload_n 0, 1) := by decide +kernel
theorem dX10_removes_38 : decode cX10_removes 38 = .ok (.getfield 22, 3) := by decide +kernel
theorem dX10_removes_41 : decode cX10_removes 41 = .ok (.iload_n 3, 1) := by decide +kernel
theorem dX10_removes_42 : decode cX10_removes 42 = .ok (.iaload, 1) := by decide +kernel
theorem dX10_removes_43 : decode cX10_removes 43 = .ok (.sipush (-1000), 3) := by decide +kernel
theorem dX10_removes_46 : decode cX10_removes 46 = .ok (.if_icmp .ne 7, 3) := by decide +kernel
theorem dX10_removes_49 : decode cX10_removes 49 = .ok (.iconst 0, 1) := by decide +kernel
theorem dX10_removes_50 : decode cX10_removes 50 = .ok (.goto 4, 3) := by decide +kernel
theorem dX10_removes_53 : decode cX10_removes 53 = .ok (.iconst 1, 1) := by decide +kernel
theorem dX10_removes_54 : decode cX10_removes 54 = .ok (.iadd, 1) := by decide +kernel
theorem dX10_removes_55 : decode cX10_removes 55 = .ok (.istore_n 2, 1) := by decide +kernel
theorem dX10_removes_56 : decode cX10_removes 56 = .ok (.iinc 3 1, 3) := by decide +kernel
theorem dX10_removes_59 : decode cX10_removes 59 = .ok (.goto (-55), 3) := by decide +kernel
theorem dX10_removes_62 : decode cX10_removes 62 = .ok (.iconst 0, 1) := by decide +kernel
theorem dX10_removes_63 : decode cX10_removes 63 = .ok (.istore_n 3, 1) := by decide +kernel
theorem dX10_removes_64 : decode cX10_removes 64 = .ok (.iload_n 3, 1) := by decide +kernel
theorem dX10_removes_65 : decode cX10_removes 65 = .ok (.aload_n 0, 1) := by decide +kernel
theorem dX10_removes_66 : decode cX10_removes 66 = .ok (.getfield 7, 3) := by decide +kernel
theorem dX10_removes_69 : decode cX10_removes 69 = .ok (.iconst 2, 1) := by decide +kernel
theorem dX10_removes_70 : decode cX10_removes 70 = .ok (.iaload, 1) := by decide +kernel
theorem dX10_removes_71 : decode cX10_removes 71 = .ok (.if_icmp .ge 104, 3) := by decide +kernel
theorem dX10_removes_74 : decode cX10_removes 74 = .ok (.aload_n 0, 1) := by decide +kernel
theorem dX10_removes_75 : decode cX10_removes 75 = .ok (.getfield 22, 3) := by decide +kernel
theorem dX10_removes_78 : decode cX10_removes 78 = .ok (.iload_n 3, 1) := by decide +kernel
theorem dX10_removes_79 : decode cX10_removes 79 = .ok (.iaload, 1) := by decide +kernel
theorem dX10_removes_80 : decode cX10_removes 80 = .ok (.sipush (-1000), 3) := by decide +kernel
theorem dX10_removes_83 : decode cX10_removes 83 = .ok (.if_icmp .eq 86, 3) := by decide +kernel
theorem dX10_removes_86 : decode cX10_removes 86 = .ok (.aload_n 0, 1) := by decide +kernel
theorem dX10_removes_87 : decode cX10_removes 87 = .ok (.iload_n 3, 1) := by decide +kernel
theorem dX10_removes_88 : decode cX10_removes 88 = .ok (.iconst 0, 1) := by decide +kernel
theorem dX10_removes_89 : decode cX10_removes 89 = .ok (.invokevirtual 62, 3) := by decide +kernel
theorem dX10_removes_92 : decode cX10_removes 92 = .ok (.istore 4, 2) := by decide +kernel
theorem dX10_removes_94 : decode cX10_removes 94 = .ok (.bipush 14, 2) := by decide +kernel
theorem dX10_removes_96 : decode cX10_removes 96 = .ok (.bipush 8, 2) := by decide +kernel
theorem dX10_removes_98 : decode cX10_removes 98 = .ok (.aload_n 0, 1) := by decide +kernel
theorem dX10_removes_99 : decode cX10_removes 99 = .ok (.getfield 22, 3) := by decide +kernel
theorem dX10_removes_102 : decode cX10_removes 102 = .ok (.iload_n 3, 1) := by decide +kernel
theorem dX10_removes_103 : decode cX10_removes 103 = .ok (.iaload, 1) := by decide +kernel
theorem dX10_removes_104 : decode cX10_removes 104 = .ok (.imul, 1) := by decide +kernel
theorem dX10_removes_105 : decode cX10_removes 105 = .ok (.iadd, 1) := by decide +kernel
theorem dX10_removes_106 : decode cX10_removes 106 = .ok (.istore 5, 2) := by decide +kernel
theorem dX10_removes_108 : decode cX10_removes 108 = .ok (.iconst 0, 1) := by decide +kernel
theorem dX10_removes_109 : decode cX10_removes 109 = .ok (.istore 6, 2) := by decide +kernel
theorem dX10_removes_111 : decode cX10_removes 111 = .ok (.iload 6, 2) := by decide +kernel
theorem dX10_removes_113 : decode cX10_removes 113 = .ok (.bipush 8, 2) := by decide +kernel
theorem dX10_removes_115 : decode cX10_removes 115 = .ok (.if_icmp .ge 26, 3) := by decide +kernel
theorem dX10_removes_118 : decode cX10_removes 118 = .ok (.aload_n 0, 1) := by decide +kernel
theorem dX10_removes_119 : decode cX10_removes 119 = .ok (.getfield 7, 3) := by decide +kernel
theorem dX10_removes_122 : decode cX10_removes 122 = .ok (.iload 5, 2) := by decide +kernel
theorem dX10_removes_124 : decode cX10_removes 124 = .ok (.iload 6, 2) := by decide +kernel
theorem dX10_removes_126 : decode cX10_removes 126 = .ok (.iadd, 1) := by decide +kernel
theorem dX10_removes_127 : decode cX10_removes 127 = .ok (.aload_n 0, 1) := by decide +kernel
theorem dX10_removes_128 : decode cX10_removes 128 = .ok (.iload_n 3, 1) := by decide +kernel
theorem dX10_removes_129 : decode cX10_removes 129 = .ok (.iload 6, 2) := by decide +kernel
theorem dX10_removes_131 : decode cX10_removes 131 = .ok (.invokevirtual 62, 3) := by decide +kernel
theorem dX10_removes_134 : decode cX10_removes 134 = .ok (.iastore, 1) := by decide +kernel
theorem dX10_removes_135 : decode cX10_removes 135 = .ok (.iinc 6 1, 3) := by decide +kernel
theorem dX10_removes_138 : decode cX10_removes 138 = .ok (.goto (-27), 3) := by decide +kernel
theorem dX10_removes_141 : decode cX10_removes 141 = .ok (.aload_n 0, 1) := by decide +kernel
theorem dX10_removes_142 : decode cX10_removes 142 = .ok (.getfield 7, 3) := by decide +kernel
theorem dX10_removes_145 : decode cX10_removes 145 = .ok (.iload 5, 2) := by decide +kernel
theorem dX10_removes_147 : decode cX10_removes 147 = .ok (.iload 4, 2) := by decide +kernel
theorem dX10_removes_149 : decode cX10_removes 149 = .ok (.sipush (-1000), 3) := by decide +kernel
theorem dX10_removes_152 : decode cX10_removes 152 = .ok (.if_icmp .ne 9, 3) := by decide +kernel
theorem dX10_removes_155 : decode cX10_removes 155 = .ok (.sipush (-1000), 3) := by decide +kernel
theorem dX10_removes_158 : decode cX10_removes 158 = .ok (.goto 10, 3) := by decide +kernel
theorem dX10_removes_161 : decode cX10_removes 161 = .ok (.aload_n 0, 1) := by decide +kernel
theorem dX10_removes_162 : decode cX10_removes 162 = .ok (.getfield 22, 3) := by decide +kernel
theorem dX10_removes_165 : decode cX10_removes 165 = .ok (.iload 4, 2) := by decide +kernel
theorem dX10_removes_167 : decode cX10_removes 167 = .ok (.iaload, 1) := by decide +kernel
theorem dX10_removes_168 : decode cX10_removes 168 = .ok (.iastore, 1) := by decide +kernel
theorem dX10_removes_169 : decode cX10_removes 169 = .ok (.iinc 3 1, 3) := by decide +kernel
theorem dX10_removes_172 : decode cX10_removes 172 = .ok (.goto (-108), 3) := by decide +kernel
theorem dX10_removes_175 : decode cX10_removes 175 = .ok (.aload_n 0, 1) := by decide +kernel
theorem dX10_removes_176 : decode cX10_removes 176 = .ok (.getfield 7, 3) := by decide +kernel
theorem dX10_removes_179 : decode cX10_removes 179 = .ok (.iconst 2, 1) := by decide +kernel
theorem dX10_removes_180 : decode cX10_removes 180 = .ok (.iload_n 2, 1) := by decide +kernel
theorem dX10_removes_181 : decode cX10_removes 181 = .ok (.iastore, 1) := by decide +kernel
theorem dX10_removes_182 : decode cX10_removes 182 = .ok (.iload_n 2, 1) := by decide +kernel
theorem dX10_removes_183 : decode cX10_removes 183 = .ok (.ireturn, 1) := by decide +kernel
theorem dX10_notRemove_0 : decode cX10_notRemove 0 = .ok (.aload_n 0, 1) := by decide +kernel
theorem dX10_notRemove_1 : decode cX10_notRemove 1 = .ok (.iload_n 1, 1) := by decide +kernel
theorem dX10_notRemove_2 : decode cX10_notRemove 2 = .ok (.invokevirtual 75, 3) := by decide +kernel
theorem dX10_notRemove_5 : decode cX10_notRemove 5 = .ok (.ifCond .eq 7, 3) := by decide +kernel
theorem dX10_notRemove_8 : decode cX10_notRemove 8 = .ok (.iconst 0, 1) := by decide +kernel
theorem dX10_notRemove_9 : decode cX10_notRemove 9 = .ok (.goto 4, 3) := by decide +kernel
theorem dX10_notRemove_12 : decode cX10_notRemove 12 = .ok (.iconst 1, 1) := by decide +kernel
theorem dX10_notRemove_13 : decode cX10_notRemove 13 = .ok (.ireturn, 1) := by decide +kernel
theorem dX10_removeNode_0 : decode cX10_removeNode 0 = .ok (.aload_n 0, 1) := by decide +kernel
theorem dX10_removeNode_1 : decode cX10_removeNode 1 = .ok (.aload_n 0, 1) := by decide +kernel
theorem dX10_removeNode_2 : decode cX10_removeNode 2 = .ok (.iload_n 1, 1) := by decide +kernel
theorem dX10_removeNode_3 : decode cX10_removeNode 3 = .ok (.invokevirtual 110, 3) := by decide +kernel
theorem dX10_removeNode_6 : decode cX10_removeNode 6 = .ok (.putfield 47, 3) := by decide +kernel
theorem dX10_removeNode_9 : decode cX10_removeNode 9 = .ok (.aload_n 0, 1) := by decide +kernel
theorem dX10_removeNode_10 : decode cX10_removeNode 10 = .ok (.getfield 47, 3) := by decide +kernel
theorem dX10_removeNode_13 : decode cX10_removeNode 13 = .ok (.ifCond .eq 5, 3) := by decide +kernel
theorem dX10_removeNode_16 : decode cX10_removeNode 16 = .ok (.iconst 0, 1) := by decide +kernel
theorem dX10_removeNode_17 : decode cX10_removeNode 17 = .ok (.ireturn, 1) := by decide +kernel
theorem dX10_removeNode_18 : decode cX10_removeNode 18 = .ok (.aload_n 0, 1) := by decide +kernel
theorem dX10_removeNode_19 : decode cX10_removeNode 19 = .ok (.invokevirtual 69, 3) := by decide +kernel
theorem dX10_removeNode_22 : decode cX10_removeNode 22 = .ok (.aload_n 0, 1) := by decide +kernel
theorem dX10_removeNode_23 : decode cX10_removeNode 23 = .ok (.iload_n 1, 1) := by decide +kernel
theorem dX10_removeNode_24 : decode cX10_removeNode 24 = .ok (.invokevirtual 113, 3) := by decide +kernel
theorem dX10_removeNode_27 : decode cX10_removeNode 27 = .ok (.ireturn, 1) := by decide +kernel
theorem dX10_notScene_0 : decode cX10_notScene 0 = .ok (.iload_n 1, 1) := by decide +kernel
theorem dX10_notScene_1 : decode cX10_notScene 1 = .ok (.bipush (-20), 2) := by decide +kernel
theorem dX10_notScene_3 : decode cX10_notScene 3 = .ok (.iconst 0, 1) := by decide +kernel
theorem dX10_notScene_4 : decode cX10_notScene 4 = .ok (.invokestatic 58, 3) := by decide +kernel
theorem dX10_notScene_7 : decode cX10_notScene 7 = .ok (.ifCond .eq 23, 3) := by decide +kernel
theorem dX10_notScene_10 : decode cX10_notScene 10 = .ok (.iload_n 2, 1) := by decide +kernel
theorem dX10_notScene_11 : decode cX10_notScene 11 = .ok (.iconst 0, 1) := by decide +kernel
theorem dX10_notScene_12 : decode cX10_notScene 12 = .ok (.bipush 20, 2) := by decide +kernel
theorem dX10_notScene_14 : decode cX10_notScene 14 = .ok (.invokestatic 58, 3) := by decide +kernel
theorem dX10_notScene_17 : decode cX10_notScene 17 = .ok (.ifCond .eq 13, 3) := by decide +kernel
theorem dX10_notScene_20 : decode cX10_notScene 20 = .ok (.iload_n 3, 1) := by decide +kernel
theorem dX10_notScene_21 : decode cX10_notScene 21 = .ok (.iconst 1, 1) := by decide +kernel
theorem dX10_notScene_22 : decode cX10_notScene 22 = .ok (.bipush 50, 2) := by decide +kernel
theorem dX10_notScene_24 : decode cX10_notScene 24 = .ok (.invokestatic 58, 3) := by decide +kernel
theorem dX10_notScene_27 : decode cX10_notScene 27 = .ok (.ifCond .ne 7, 3) := by decide +kernel
theorem dX10_notScene_30 : decode cX10_notScene 30 = .ok (.iconst 1, 1) := by decide +kernel
theorem dX10_notScene_31 : decode cX10_notScene 31 = .ok (.goto 19, 3) := by decide +kernel
theorem dX10_notScene_34 : decode cX10_notScene 34 = .ok (.aload_n 0, 1) := by decide +kernel
theorem dX10_notScene_35 : decode cX10_notScene 35 = .ok (.getfield 7, 3) := by decide +kernel
theorem dX10_notScene_38 : decode cX10_notScene 38 = .ok (.iconst 3, 1) := by decide +kernel
theorem dX10_notScene_39 : decode cX10_notScene 39 = .ok (.iaload, 1) := by decide +kernel
theorem dX10_notScene_40 : decode cX10_notScene 40 = .ok (.bipush 8, 2) := by decide +kernel
theorem dX10_notScene_42 : decode cX10_notScene 42 = .ok (.if_icmp .ne 7, 3) := by decide +kernel
theorem dX10_notScene_45 : decode cX10_notScene 45 = .ok (.iconst 2, 1) := by decide +kernel
theorem dX10_notScene_46 : decode cX10_notScene 46 = .ok (.goto 4, 3) := by decide +kernel
theorem dX10_notScene_49 : decode cX10_notScene 49 = .ok (.iconst 0, 1) := by decide +kernel
theorem dX10_notScene_50 : decode cX10_notScene 50 = .ok (.ireturn, 1) := by decide +kernel
theorem dX10_addsScene_0 : decode cX10_addsScene 0 = .ok (.sipush 174, 3) := by decide +kernel
theorem dX10_addsScene_3 : decode cX10_addsScene 3 = .ok (.iconst 3, 1) := by decide +kernel
theorem dX10_addsScene_4 : decode cX10_addsScene 4 = .ok (.aload_n 0, 1) := by decide +kernel
theorem dX10_addsScene_5 : decode cX10_addsScene 5 = .ok (.getfield 7, 3) := by decide +kernel
theorem dX10_addsScene_8 : decode cX10_addsScene 8 = .ok (.iconst 3, 1) := by decide +kernel
theorem dX10_addsScene_9 : decode cX10_addsScene 9 = .ok (.iaload, 1) := by decide +kernel
theorem dX10_addsScene_10 : decode cX10_addsScene 10 = .ok (.imul, 1) := by decide +kernel
theorem dX10_addsScene_11 : decode cX10_addsScene 11 = .ok (.iadd, 1) := by decide +kernel
theorem dX10_addsScene_12 : decode cX10_addsScene 12 = .ok (.istore 4, 2) := by decide +kernel
theorem dX10_addsScene_14 : decode cX10_addsScene 14 = .ok (.aload_n 0, 1) := by decide +kernel
theorem dX10_addsScene_15 : decode cX10_addsScene 15 = .ok (.getfield 7, 3) := by decide +kernel
theorem dX10_addsScene_18 : decode cX10_addsScene 18 = .ok (.iload 4, 2) := by decide +kernel
theorem dX10_addsScene_20 : decode cX10_addsScene 20 = .ok (.iload_n 1, 1) := by decide +kernel
theorem dX10_addsScene_21 : decode cX10_addsScene 21 = .ok (.iastore, 1) := by decide +kernel
theorem dX10_addsScene_22 : decode cX10_addsScene 22 = .ok (.aload_n 0, 1) := by decide +kernel
theorem dX10_addsScene_23 : decode cX10_addsScene 23 = .ok (.getfield 7, 3) := by decide +kernel
theorem dX10_addsScene_26 : decode cX10_addsScene 26 = .ok (.iload 4, 2) := by decide +kernel
theorem dX10_addsScene_28 : decode cX10_addsScene 28 = .ok (.iconst 1, 1) := by decide +kernel
theorem dX10_addsScene_29 : decode cX10_addsScene 29 = .ok (.iadd, 1) := by decide +kernel
theorem dX10_addsScene_30 : decode cX10_addsScene 30 = .ok (.iload_n 2, 1) := by decide +kernel
theorem dX10_addsScene_31 : decode cX10_addsScene 31 = .ok (.iastore, 1) := by decide +kernel
theorem dX10_addsScene_32 : decode cX10_addsScene 32 = .ok (.aload_n 0, 1) := by decide +kernel
theorem dX10_addsScene_33 : decode cX10_addsScene 33 = .ok (.getfield 7, 3) := by decide +kernel
theorem dX10_addsScene_36 : decode cX10_addsScene 36 = .ok (.iload 4, 2) := by decide +kernel
theorem dX10_addsScene_38 : decode cX10_addsScene 38 = .ok (.iconst 2, 1) := by decide +kernel
theorem dX10_addsScene_39 : decode cX10_addsScene 39 = .ok (.iadd, 1) := by decide +kernel
theorem dX10_addsScene_40 : decode cX10_addsScene 40 = .ok (.iload_n 3, 1) := by decide +kernel
theorem dX10_addsScene_41 : decode cX10_addsScene 41 = .ok (.iastore, 1) := by decide +kernel
theorem dX10_addsScene_42 : decode cX10_addsScene 42 = .ok (.aload_n 0, 1) := by decide +kernel
theorem dX10_addsScene_43 : decode cX10_addsScene 43 = .ok (.getfield 7, 3) := by decide +kernel
theorem dX10_addsScene_46 : decode cX10_addsScene 46 = .ok (.iconst 3, 1) := by decide +kernel
theorem dX10_addsScene_47 : decode cX10_addsScene 47 = .ok (.dup2, 1) := by decide +kernel
theorem dX10_addsScene_48 : decode cX10_addsScene 48 = .ok (.iaload, 1) := by decide +kernel
theorem dX10_addsScene_49 : decode cX10_addsScene 49 = .ok (.iconst 1, 1) := by decide +kernel
theorem dX10_addsScene_50 : decode cX10_addsScene 50 = .ok (.iadd, 1) := by decide +kernel
theorem dX10_addsScene_51 : decode cX10_addsScene 51 = .ok (.iastore, 1) := by decide +kernel
theorem dX10_addsScene_52 : decode cX10_addsScene 52 = .ok (.aload_n 0, 1) := by decide +kernel
theorem dX10_addsScene_53 : decode cX10_addsScene 53 = .ok (.getfield 7, 3) := by decide +kernel
theorem dX10_addsScene_56 : decode cX10_addsScene 56 = .ok (.iconst 3, 1) := by decide +kernel
theorem dX10_addsScene_57 : decode cX10_addsScene 57 = .ok (.iaload, 1) := by decide +kernel
theorem dX10_addsScene_58 : decode cX10_addsScene 58 = .ok (.iconst 1, 1) := by decide +kernel
theorem dX10_addsScene_59 : decode cX10_addsScene 59 = .ok (.isub, 1) := by decide +kernel
theorem dX10_addsScene_60 : decode cX10_addsScene 60 = .ok (.ireturn, 1) := by decide +kernel
theorem dX10_addScene_0 : decode cX10_addScene 0 = .ok (.aload_n 0, 1) := by decide +kernel
theorem dX10_addScene_1 : decode cX10_addScene 1 = .ok (.aload_n 0, 1) := by decide +kernel
theorem dX10_addScene_2 : decode cX10_addScene 2 = .ok (.iload_n 1, 1) := by decide +kernel
theorem dX10_addScene_3 : decode cX10_addScene 3 = .ok (.iload_n 2, 1) := by decide +kernel
theorem dX10_addScene_4 : decode cX10_addScene 4 = .ok (.iload_n 3, 1) := by decide +kernel
theorem dX10_addScene_5 : decode cX10_addScene 5 = .ok (.invokevirtual 116, 3) := by decide +kernel
theorem dX10_addScene_8 : decode cX10_addScene 8 = .ok (.putfield 47, 3) := by decide +kernel
theorem dX10_addScene_11 : decode cX10_addScene 11 = .ok (.aload_n 0, 1) := by decide +kernel
theorem dX10_addScene_12 : decode cX10_addScene 12 = .ok (.getfield 47, 3) := by decide +kernel
theorem dX10_addScene_15 : decode cX10_addScene 15 = .ok (.ifCond .eq 5, 3) := by decide +kernel
theorem dX10_addScene_18 : decode cX10_addScene 18 = .ok (.iconst 0, 1) := by decide +kernel
theorem dX10_addScene_19 : decode cX10_addScene 19 = .ok (.ireturn, 1) := by decide +kernel
theorem dX10_addScene_20 : decode cX10_addScene 20 = .ok (.aload_n 0, 1) := by decide +kernel
theorem dX10_addScene_21 : decode cX10_addScene 21 = .ok (.invokevirtual 69, 3) := by decide +kernel
theorem dX10_addScene_24 : decode cX10_addScene 24 = .ok (.aload_n 0, 1) := by decide +kernel
theorem dX10_addScene_25 : decode cX10_addScene 25 = .ok (.iload_n 1, 1) := by decide +kernel
theorem dX10_addScene_26 : decode cX10_addScene 26 = .ok (.iload_n 2, 1) := by decide +kernel
theorem dX10_addScene_27 : decode cX10_addScene 27 = .ok (.iload_n 3, 1) := by decide +kernel
theorem dX10_addScene_28 : decode cX10_addScene 28 = .ok (.invokevirtual 120, 3) := by decide +kernel
theorem dX10_addScene_31 : decode cX10_addScene 31 = .ok (.ireturn, 1) := by decide +kernel
theorem dX10_notSet_0 : decode cX10_notSet 0 = .ok (.iload_n 0, 1) := by decide +kernel
theorem dX10_notSet_1 : decode cX10_notSet 1 = .ok (.tableswitch 78 0 3 #[31, 47, 62, 31], 31) := by decide +kernel
theorem dX10_notSet_32 : decode cX10_notSet 32 = .ok (.iload_n 1, 1) := by decide +kernel
theorem dX10_notSet_33 : decode cX10_notSet 33 = .ok (.iconst 0, 1) := by decide +kernel
theorem dX10_notSet_34 : decode cX10_notSet 34 = .ok (.bipush 100, 2) := by decide +kernel
theorem dX10_notSet_36 : decode cX10_notSet 36 = .ok (.invokestatic 58, 3) := by decide +kernel
theorem dX10_notSet_39 : decode cX10_notSet 39 = .ok (.ifCond .eq 7, 3) := by decide +kernel
theorem dX10_notSet_42 : decode cX10_notSet 42 = .ok (.iconst 0, 1) := by decide +kernel
theorem dX10_notSet_43 : decode cX10_notSet 43 = .ok (.goto 4, 3) := by decide +kernel
theorem dX10_notSet_46 : decode cX10_notSet 46 = .ok (.iconst 1, 1) := by decide +kernel
theorem dX10_notSet_47 : decode cX10_notSet 47 = .ok (.ireturn, 1) := by decide +kernel
theorem dX10_notSet_48 : decode cX10_notSet 48 = .ok (.iload_n 1, 1) := by decide +kernel
theorem dX10_notSet_49 : decode cX10_notSet 49 = .ok (.iconst 1, 1) := by decide +kernel
theorem dX10_notSet_50 : decode cX10_notSet 50 = .ok (.iconst 5, 1) := by decide +kernel
theorem dX10_notSet_51 : decode cX10_notSet 51 = .ok (.invokestatic 58, 3) := by decide +kernel
theorem dX10_notSet_54 : decode cX10_notSet 54 = .ok (.ifCond .eq 7, 3) := by decide +kernel
theorem dX10_notSet_57 : decode cX10_notSet 57 = .ok (.iconst 0, 1) := by decide +kernel
theorem dX10_notSet_58 : decode cX10_notSet 58 = .ok (.goto 4, 3) := by decide +kernel
theorem dX10_notSet_61 : decode cX10_notSet 61 = .ok (.iconst 1, 1) := by decide +kernel
theorem dX10_notSet_62 : decode cX10_notSet 62 = .ok (.ireturn, 1) := by decide +kernel
theorem dX10_notSet_63 : decode cX10_notSet 63 = .ok (.iload_n 1, 1) := by decide +kernel
theorem dX10_notSet_64 : decode cX10_notSet 64 = .ok (.iconst 0, 1) := by decide +kernel
theorem dX10_notSet_65 : decode cX10_notSet 65 = .ok (.bipush 15, 2) := by decide +kernel
theorem dX10_notSet_67 : decode cX10_notSet 67 = .ok (.invokestatic 58, 3) := by decide +kernel
theorem dX10_notSet_70 : decode cX10_notSet 70 = .ok (.ifCond .eq 7, 3) := by decide +kernel
theorem dX10_notSet_73 : decode cX10_notSet 73 = .ok (.iconst 0, 1) := by decide +kernel
theorem dX10_notSet_74 : decode cX10_notSet 74 = .ok (.goto 4, 3) := by decide +kernel
theorem dX10_notSet_77 : decode cX10_notSet 77 = .ok (.iconst 1, 1) := by decide +kernel
theorem dX10_notSet_78 : decode cX10_notSet 78 = .ok (.ireturn, 1) := by decide +kernel
theorem dX10_notSet_79 : decode cX10_notSet 79 = .ok (.iconst 1, 1) := by decide +kernel
theorem dX10_notSet_80 : decode cX10_notSet 80 = .ok (.ireturn, 1) := by decide +kernel
theorem dX10_sets_0 : decode cX10_sets 0 = .ok (.aload_n 0, 1) := by decide +kernel
theorem dX10_sets_1 : decode cX10_sets 1 = .ok (.getfield 7, 3) := by decide +kernel
theorem dX10_sets_4 : decode cX10_sets 4 = .ok (.bipush 7, 2) := by decide +kernel
theorem dX10_sets_6 : decode cX10_sets 6 = .ok (.iload_n 1, 1) := by decide +kernel
theorem dX10_sets_7 : decode cX10_sets 7 = .ok (.iadd, 1) := by decide +kernel
theorem dX10_sets_8 : decode cX10_sets 8 = .ok (.iaload, 1) := by decide +kernel
theorem dX10_sets_9 : decode cX10_sets 9 = .ok (.istore_n 3, 1) := by decide +kernel
theorem dX10_sets_10 : decode cX10_sets 10 = .ok (.aload_n 0, 1) := by decide +kernel
theorem dX10_sets_11 : decode cX10_sets 11 = .ok (.getfield 7, 3) := by decide +kernel
theorem dX10_sets_14 : decode cX10_sets 14 = .ok (.bipush 7, 2) := by decide +kernel
theorem dX10_sets_16 : decode cX10_sets 16 = .ok (.iload_n 1, 1) := by decide +kernel
theorem dX10_sets_17 : decode cX10_sets 17 = .ok (.iadd, 1) := by decide +kernel
theorem dX10_sets_18 : decode cX10_sets 18 = .ok (.iload_n 2, 1) := by decide +kernel
theorem dX10_sets_19 : decode cX10_sets 19 = .ok (.iastore, 1) := by decide +kernel
theorem dX10_sets_20 : decode cX10_sets 20 = .ok (.iload_n 3, 1) := by decide +kernel
theorem dX10_sets_21 : decode cX10_sets 21 = .ok (.ireturn, 1) := by decide +kernel
theorem dX10_set_0 : decode cX10_set 0 = .ok (.aload_n 0, 1) := by decide +kernel
theorem dX10_set_1 : decode cX10_set 1 = .ok (.iload_n 1, 1) := by decide +kernel
theorem dX10_set_2 : decode cX10_set 2 = .ok (.iload_n 2, 1) := by decide +kernel
theorem dX10_set_3 : decode cX10_set 3 = .ok (.invokestatic 123, 3) := by decide +kernel
theorem dX10_set_6 : decode cX10_set 6 = .ok (.putfield 47, 3) := by decide +kernel
theorem dX10_set_9 : decode cX10_set 9 = .ok (.aload_n 0, 1) := by decide +kernel
theorem dX10_set_10 : decode cX10_set 10 = .ok (.getfield 47, 3) := by decide +kernel
theorem dX10_set_13 : decode cX10_set 13 = .ok (.ifCond .eq 5, 3) := by decide +kernel
theorem dX10_set_16 : decode cX10_set 16 = .ok (.iconst 0, 1) := by decide +kernel
theorem dX10_set_17 : decode cX10_set 17 = .ok (.ireturn, 1) := by decide +kernel
theorem dX10_set_18 : decode cX10_set 18 = .ok (.aload_n 0, 1) := by decide +kernel
theorem dX10_set_19 : decode cX10_set 19 = .ok (.invokevirtual 69, 3) := by decide +kernel
theorem dX10_set_22 : decode cX10_set 22 = .ok (.aload_n 0, 1) := by decide +kernel
theorem dX10_set_23 : decode cX10_set 23 = .ok (.iload_n 1, 1) := by decide +kernel
theorem dX10_set_24 : decode cX10_set 24 = .ok (.iload_n 2, 1) := by decide +kernel
theorem dX10_set_25 : decode cX10_set 25 = .ok (.invokevirtual 126, 3) := by decide +kernel
theorem dX10_set_28 : decode cX10_set 28 = .ok (.ireturn, 1) := by decide +kernel
theorem dX10_notTitle_0 : decode cX10_notTitle 0 = .ok (.iload_n 1, 1) := by decide +kernel
theorem dX10_notTitle_1 : decode cX10_notTitle 1 = .ok (.iconst 0, 1) := by decide +kernel
theorem dX10_notTitle_2 : decode cX10_notTitle 2 = .ok (.aload_n 0, 1) := by decide +kernel
theorem dX10_notTitle_3 : decode cX10_notTitle 3 = .ok (.getfield 7, 3) := by decide +kernel
theorem dX10_notTitle_6 : decode cX10_notTitle 6 = .ok (.iconst 0, 1) := by decide +kernel
theorem dX10_notTitle_7 : decode cX10_notTitle 7 = .ok (.iaload, 1) := by decide +kernel
theorem dX10_notTitle_8 : decode cX10_notTitle 8 = .ok (.iconst 1, 1) := by decide +kernel
theorem dX10_notTitle_9 : decode cX10_notTitle 9 = .ok (.isub, 1) := by decide +kernel
theorem dX10_notTitle_10 : decode cX10_notTitle 10 = .ok (.invokestatic 58, 3) := by decide +kernel
theorem dX10_notTitle_13 : decode cX10_notTitle 13 = .ok (.ifCond .eq 33, 3) := by decide +kernel
theorem dX10_notTitle_16 : decode cX10_notTitle 16 = .ok (.iload_n 2, 1) := by decide +kernel
theorem dX10_notTitle_17 : decode cX10_notTitle 17 = .ok (.iconst 0, 1) := by decide +kernel
theorem dX10_notTitle_18 : decode cX10_notTitle 18 = .ok (.aload_n 0, 1) := by decide +kernel
theorem dX10_notTitle_19 : decode cX10_notTitle 19 = .ok (.getfield 7, 3) := by decide +kernel
theorem dX10_notTitle_22 : decode cX10_notTitle 22 = .ok (.iconst 1, 1) := by decide +kernel
theorem dX10_notTitle_23 : decode cX10_notTitle 23 = .ok (.iaload, 1) := by decide +kernel
theorem dX10_notTitle_24 : decode cX10_notTitle 24 = .ok (.iconst 1, 1) := by decide +kernel
theorem dX10_notTitle_25 : decode cX10_notTitle 25 = .ok (.isub, 1) := by decide +kernel
theorem dX10_notTitle_26 : decode cX10_notTitle 26 = .ok (.invokestatic 58, 3) := by decide +kernel
theorem dX10_notTitle_29 : decode cX10_notTitle 29 = .ok (.ifCond .eq 17, 3) := by decide +kernel
theorem dX10_notTitle_32 : decode cX10_notTitle 32 = .ok (.iload_n 3, 1) := by decide +kernel
theorem dX10_notTitle_33 : decode cX10_notTitle 33 = .ok (.iconst 1, 1) := by decide +kernel
theorem dX10_notTitle_34 : decode cX10_notTitle 34 = .ok (.bipush 40, 2) := by decide +kernel
theorem dX10_notTitle_36 : decode cX10_notTitle 36 = .ok (.invokestatic 58, 3) := by decide +kernel
theorem dX10_notTitle_39 : decode cX10_notTitle 39 = .ok (.ifCond .eq 7, 3) := by decide +kernel
theorem dX10_notTitle_42 : decode cX10_notTitle 42 = .ok (.iconst 0, 1) := by decide +kernel
theorem dX10_notTitle_43 : decode cX10_notTitle 43 = .ok (.goto 4, 3) := by decide +kernel
theorem dX10_notTitle_46 : decode cX10_notTitle 46 = .ok (.iconst 1, 1) := by decide +kernel
theorem dX10_notTitle_47 : decode cX10_notTitle 47 = .ok (.ireturn, 1) := by decide +kernel
theorem dX10_setsTitle_0 : decode cX10_setsTitle 0 = .ok (.aload_n 0, 1) := by decide +kernel
theorem dX10_setsTitle_1 : decode cX10_setsTitle 1 = .ok (.getfield 7, 3) := by decide +kernel
theorem dX10_setsTitle_4 : decode cX10_setsTitle 4 = .ok (.bipush 13, 2) := by decide +kernel
theorem dX10_setsTitle_6 : decode cX10_setsTitle 6 = .ok (.iaload, 1) := by decide +kernel
theorem dX10_setsTitle_7 : decode cX10_setsTitle 7 = .ok (.istore 4, 2) := by decide +kernel
theorem dX10_setsTitle_9 : decode cX10_setsTitle 9 = .ok (.aload_n 0, 1) := by decide +kernel
theorem dX10_setsTitle_10 : decode cX10_setsTitle 10 = .ok (.getfield 7, 3) := by decide +kernel
theorem dX10_setsTitle_13 : decode cX10_setsTitle 13 = .ok (.bipush 11, 2) := by decide +kernel
theorem dX10_setsTitle_15 : decode cX10_setsTitle 15 = .ok (.iload_n 1, 1) := by decide +kernel
theorem dX10_setsTitle_16 : decode cX10_setsTitle 16 = .ok (.iastore, 1) := by decide +kernel
theorem dX10_setsTitle_17 : decode cX10_setsTitle 17 = .ok (.aload_n 0, 1) := by decide +kernel
theorem dX10_setsTitle_18 : decode cX10_setsTitle 18 = .ok (.getfield 7, 3) := by decide +kernel
theorem dX10_setsTitle_21 : decode cX10_setsTitle 21 = .ok (.bipush 12, 2) := by decide +kernel
theorem dX10_setsTitle_23 : decode cX10_setsTitle 23 = .ok (.iload_n 2, 1) := by decide +kernel
theorem dX10_setsTitle_24 : decode cX10_setsTitle 24 = .ok (.iastore, 1) := by decide +kernel
theorem dX10_setsTitle_25 : decode cX10_setsTitle 25 = .ok (.aload_n 0, 1) := by decide +kernel
theorem dX10_setsTitle_26 : decode cX10_setsTitle 26 = .ok (.getfield 7, 3) := by decide +kernel
theorem dX10_setsTitle_29 : decode cX10_setsTitle 29 = .ok (.bipush 13, 2) := by decide +kernel
theorem dX10_setsTitle_31 : decode cX10_setsTitle 31 = .ok (.iload_n 3, 1) := by decide +kernel
theorem dX10_setsTitle_32 : decode cX10_setsTitle 32 = .ok (.iastore, 1) := by decide +kernel
theorem dX10_setsTitle_33 : decode cX10_setsTitle 33 = .ok (.iload 4, 2) := by decide +kernel
theorem dX10_setsTitle_35 : decode cX10_setsTitle 35 = .ok (.ireturn, 1) := by decide +kernel
theorem dX10_setTitle_0 : decode cX10_setTitle 0 = .ok (.aload_n 0, 1) := by decide +kernel
theorem dX10_setTitle_1 : decode cX10_setTitle 1 = .ok (.aload_n 0, 1) := by decide +kernel
theorem dX10_setTitle_2 : decode cX10_setTitle 2 = .ok (.iload_n 1, 1) := by decide +kernel
theorem dX10_setTitle_3 : decode cX10_setTitle 3 = .ok (.iload_n 2, 1) := by decide +kernel
theorem dX10_setTitle_4 : decode cX10_setTitle 4 = .ok (.iload_n 3, 1) := by decide +kernel
theorem dX10_setTitle_5 : decode cX10_setTitle 5 = .ok (.invokevirtual 129, 3) := by decide +kernel
theorem dX10_setTitle_8 : decode cX10_setTitle 8 = .ok (.putfield 47, 3) := by decide +kernel
theorem dX10_setTitle_11 : decode cX10_setTitle 11 = .ok (.aload_n 0, 1) := by decide +kernel
theorem dX10_setTitle_12 : decode cX10_setTitle 12 = .ok (.getfield 47, 3) := by decide +kernel
theorem dX10_setTitle_15 : decode cX10_setTitle 15 = .ok (.ifCond .eq 5, 3) := by decide +kernel
theorem dX10_setTitle_18 : decode cX10_setTitle 18 = .ok (.iconst 0, 1) := by decide +kernel
theorem dX10_setTitle_19 : decode cX10_setTitle 19 = .ok (.ireturn, 1) := by decide +kernel
theorem dX10_setTitle_20 : decode cX10_setTitle 20 = .ok (.aload_n 0, 1) := by decide +kernel
theorem dX10_setTitle_21 : decode cX10_setTitle 21 = .ok (.invokevirtual 69, 3) := by decide +kernel
theorem dX10_setTitle_24 : decode cX10_setTitle 24 = .ok (.aload_n 0, 1) := by decide +kernel
theorem dX10_setTitle_25 : decode cX10_setTitle 25 = .ok (.iload_n 1, 1) := by decide +kernel
theorem dX10_setTitle_26 : decode cX10_setTitle 26 = .ok (.iload_n 2, 1) := by decide +kernel
theorem dX10_setTitle_27 : decode cX10_setTitle 27 = .ok (.iload_n 3, 1) := by decide +kernel
theorem dX10_setTitle_28 : decode cX10_setTitle 28 = .ok (.invokevirtual 132, 3) := by decide +kernel
theorem dX10_setTitle_31 : decode cX10_setTitle 31 = .ok (.ireturn, 1) := by decide +kernel
theorem dX10_clearTitle_0 : decode cX10_clearTitle 0 = .ok (.aload_n 0, 1) := by decide +kernel
theorem dX10_clearTitle_1 : decode cX10_clearTitle 1 = .ok (.iconst 0, 1) := by decide +kernel
theorem dX10_clearTitle_2 : decode cX10_clearTitle 2 = .ok (.putfield 47, 3) := by decide +kernel
theorem dX10_clearTitle_5 : decode cX10_clearTitle 5 = .ok (.aload_n 0, 1) := by decide +kernel
theorem dX10_clearTitle_6 : decode cX10_clearTitle 6 = .ok (.invokevirtual 69, 3) := by decide +kernel
theorem dX10_clearTitle_9 : decode cX10_clearTitle 9 = .ok (.aload_n 0, 1) := by decide +kernel
theorem dX10_clearTitle_10 : decode cX10_clearTitle 10 = .ok (.iconst 0, 1) := by decide +kernel
theorem dX10_clearTitle_11 : decode cX10_clearTitle 11 = .ok (.iconst 0, 1) := by decide +kernel
theorem dX10_clearTitle_12 : decode cX10_clearTitle 12 = .ok (.iconst 0, 1) := by decide +kernel
theorem dX10_clearTitle_13 : decode cX10_clearTitle 13 = .ok (.invokevirtual 132, 3) := by decide +kernel
theorem dX10_clearTitle_16 : decode cX10_clearTitle 16 = .ok (.ireturn, 1) := by decide +kernel
theorem dX10_sceneNow_0 : decode cX10_sceneNow 0 = .ok (.iconst 0, 1) := by decide +kernel
theorem dX10_sceneNow_1 : decode cX10_sceneNow 1 = .ok (.istore_n 1, 1) := by decide +kernel
theorem dX10_sceneNow_2 : decode cX10_sceneNow 2 = .ok (.iconst 0, 1) := by decide +kernel
theorem dX10_sceneNow_3 : decode cX10_sceneNow 3 = .ok (.istore_n 2, 1) := by decide +kernel
theorem dX10_sceneNow_4 : decode cX10_sceneNow 4 = .ok (.iload_n 2, 1) := by decide +kernel
theorem dX10_sceneNow_5 : decode cX10_sceneNow 5 = .ok (.aload_n 0, 1) := by decide +kernel
theorem dX10_sceneNow_6 : decode cX10_sceneNow 6 = .ok (.getfield 7, 3) := by decide +kernel
theorem dX10_sceneNow_9 : decode cX10_sceneNow 9 = .ok (.iconst 3, 1) := by decide +kernel
theorem dX10_sceneNow_10 : decode cX10_sceneNow 10 = .ok (.iaload, 1) := by decide +kernel
theorem dX10_sceneNow_11 : decode cX10_sceneNow 11 = .ok (.if_icmp .ge 50, 3) := by decide +kernel
theorem dX10_sceneNow_14 : decode cX10_sceneNow 14 = .ok (.iload_n 1, 1) := by decide +kernel
theorem dX10_sceneNow_15 : decode cX10_sceneNow 15 = .ok (.aload_n 0, 1) := by decide +kernel
theorem dX10_sceneNow_16 : decode cX10_sceneNow 16 = .ok (.getfield 7, 3) := by decide +kernel
theorem dX10_sceneNow_19 : decode cX10_sceneNow 19 = .ok (.sipush 174, 3) := by decide +kernel
theorem dX10_sceneNow_22 : decode cX10_sceneNow 22 = .ok (.iconst 3, 1) := by decide +kernel
theorem dX10_sceneNow_23 : decode cX10_sceneNow 23 = .ok (.iload_n 2, 1) := by decide +kernel
theorem dX10_sceneNow_24 : decode cX10_sceneNow 24 = .ok (.imul, 1) := by decide +kernel
theorem dX10_sceneNow_25 : decode cX10_sceneNow 25 = .ok (.iadd, 1) := by decide +kernel
theorem dX10_sceneNow_26 : decode cX10_sceneNow 26 = .ok (.iconst 2, 1) := by decide +kernel
theorem dX10_sceneNow_27 : decode cX10_sceneNow 27 = .ok (.iadd, 1) := by decide +kernel
theorem dX10_sceneNow_28 : decode cX10_sceneNow 28 = .ok (.iaload, 1) := by decide +kernel
theorem dX10_sceneNow_29 : decode cX10_sceneNow 29 = .ok (.iadd, 1) := by decide +kernel
theorem dX10_sceneNow_30 : decode cX10_sceneNow 30 = .ok (.istore_n 1, 1) := by decide +kernel
theorem dX10_sceneNow_31 : decode cX10_sceneNow 31 = .ok (.aload_n 0, 1) := by decide +kernel
theorem dX10_sceneNow_32 : decode cX10_sceneNow 32 = .ok (.getfield 7, 3) := by decide +kernel
theorem dX10_sceneNow_35 : decode cX10_sceneNow 35 = .ok (.iconst 4, 1) := by decide +kernel
theorem dX10_sceneNow_36 : decode cX10_sceneNow 36 = .ok (.iaload, 1) := by decide +kernel
theorem dX10_sceneNow_37 : decode cX10_sceneNow 37 = .ok (.iload_n 1, 1) := by decide +kernel
theorem dX10_sceneNow_38 : decode cX10_sceneNow 38 = .ok (.if_icmp .lt 15, 3) := by decide +kernel
theorem dX10_sceneNow_41 : decode cX10_sceneNow 41 = .ok (.iload_n 2, 1) := by decide +kernel
theorem dX10_sceneNow_42 : decode cX10_sceneNow 42 = .ok (.aload_n 0, 1) := by decide +kernel
theorem dX10_sceneNow_43 : decode cX10_sceneNow 43 = .ok (.getfield 7, 3) := by decide +kernel
theorem dX10_sceneNow_46 : decode cX10_sceneNow 46 = .ok (.iconst 3, 1) := by decide +kernel
theorem dX10_sceneNow_47 : decode cX10_sceneNow 47 = .ok (.iaload, 1) := by decide +kernel
theorem dX10_sceneNow_48 : decode cX10_sceneNow 48 = .ok (.iconst 1, 1) := by decide +kernel
theorem dX10_sceneNow_49 : decode cX10_sceneNow 49 = .ok (.isub, 1) := by decide +kernel
theorem dX10_sceneNow_50 : decode cX10_sceneNow 50 = .ok (.if_icmp .ne 5, 3) := by decide +kernel
theorem dX10_sceneNow_53 : decode cX10_sceneNow 53 = .ok (.iload_n 2, 1) := by decide +kernel
theorem dX10_sceneNow_54 : decode cX10_sceneNow 54 = .ok (.ireturn, 1) := by decide +kernel
theorem dX10_sceneNow_55 : decode cX10_sceneNow 55 = .ok (.iinc 2 1, 3) := by decide +kernel
theorem dX10_sceneNow_58 : decode cX10_sceneNow 58 = .ok (.goto (-54), 3) := by decide +kernel
theorem dX10_sceneNow_61 : decode cX10_sceneNow 61 = .ok (.sipush (-1000), 3) := by decide +kernel
theorem dX10_sceneNow_64 : decode cX10_sceneNow 64 = .ok (.ireturn, 1) := by decide +kernel
theorem dX10_towards_0 : decode cX10_towards 0 = .ok (.iload_n 1, 1) := by decide +kernel
theorem dX10_towards_1 : decode cX10_towards 1 = .ok (.iload_n 0, 1) := by decide +kernel
theorem dX10_towards_2 : decode cX10_towards 2 = .ok (.iload_n 2, 1) := by decide +kernel
theorem dX10_towards_3 : decode cX10_towards 3 = .ok (.iadd, 1) := by decide +kernel
theorem dX10_towards_4 : decode cX10_towards 4 = .ok (.if_icmp .le 9, 3) := by decide +kernel
theorem dX10_towards_7 : decode cX10_towards 7 = .ok (.iload_n 0, 1) := by decide +kernel
theorem dX10_towards_8 : decode cX10_towards 8 = .ok (.iload_n 2, 1) := by decide +kernel
theorem dX10_towards_9 : decode cX10_towards 9 = .ok (.iadd, 1) := by decide +kernel
theorem dX10_towards_10 : decode cX10_towards 10 = .ok (.goto 17, 3) := by decide +kernel
theorem dX10_towards_13 : decode cX10_towards 13 = .ok (.iload_n 1, 1) := by decide +kernel
theorem dX10_towards_14 : decode cX10_towards 14 = .ok (.iload_n 0, 1) := by decide +kernel
theorem dX10_towards_15 : decode cX10_towards 15 = .ok (.iload_n 2, 1) := by decide +kernel
theorem dX10_towards_16 : decode cX10_towards 16 = .ok (.isub, 1) := by decide +kernel
theorem dX10_towards_17 : decode cX10_towards 17 = .ok (.if_icmp .ge 9, 3) := by decide +kernel
theorem dX10_towards_20 : decode cX10_towards 20 = .ok (.iload_n 0, 1) := by decide +kernel
theorem dX10_towards_21 : decode cX10_towards 21 = .ok (.iload_n 2, 1) := by decide +kernel
theorem dX10_towards_22 : decode cX10_towards 22 = .ok (.isub, 1) := by decide +kernel
theorem dX10_towards_23 : decode cX10_towards 23 = .ok (.goto 4, 3) := by decide +kernel
theorem dX10_towards_26 : decode cX10_towards 26 = .ok (.iload_n 1, 1) := by decide +kernel
theorem dX10_towards_27 : decode cX10_towards 27 = .ok (.ireturn, 1) := by decide +kernel
theorem dX10_tickOnce_0 : decode cX10_tickOnce 0 = .ok (.aload_n 0, 1) := by decide +kernel
theorem dX10_tickOnce_1 : decode cX10_tickOnce 1 = .ok (.getfield 7, 3) := by decide +kernel
theorem dX10_tickOnce_4 : decode cX10_tickOnce 4 = .ok (.iconst 4, 1) := by decide +kernel
theorem dX10_tickOnce_5 : decode cX10_tickOnce 5 = .ok (.dup2, 1) := by decide +kernel
theorem dX10_tickOnce_6 : decode cX10_tickOnce 6 = .ok (.iaload, 1) := by decide +kernel
theorem dX10_tickOnce_7 : decode cX10_tickOnce 7 = .ok (.iconst 1, 1) := by decide +kernel
theorem dX10_tickOnce_8 : decode cX10_tickOnce 8 = .ok (.iadd, 1) := by decide +kernel
theorem dX10_tickOnce_9 : decode cX10_tickOnce 9 = .ok (.iastore, 1) := by decide +kernel
theorem dX10_tickOnce_10 : decode cX10_tickOnce 10 = .ok (.aload_n 0, 1) := by decide +kernel
theorem dX10_tickOnce_11 : decode cX10_tickOnce 11 = .ok (.invokevirtual 135, 3) := by decide +kernel
theorem dX10_tickOnce_14 : decode cX10_tickOnce 14 = .ok (.istore_n 1, 1) := by decide +kernel
theorem dX10_tickOnce_15 : decode cX10_tickOnce 15 = .ok (.iload_n 1, 1) := by decide +kernel
theorem dX10_tickOnce_16 : decode cX10_tickOnce 16 = .ok (.sipush (-1000), 3) := by decide +kernel
theorem dX10_tickOnce_19 : decode cX10_tickOnce 19 = .ok (.if_icmp .eq 75, 3) := by decide +kernel
theorem dX10_tickOnce_22 : decode cX10_tickOnce 22 = .ok (.aload_n 0, 1) := by decide +kernel
theorem dX10_tickOnce_23 : decode cX10_tickOnce 23 = .ok (.getfield 7, 3) := by decide +kernel
theorem dX10_tickOnce_26 : decode cX10_tickOnce 26 = .ok (.iconst 5, 1) := by decide +kernel
theorem dX10_tickOnce_27 : decode cX10_tickOnce 27 = .ok (.aload_n 0, 1) := by decide +kernel
theorem dX10_tickOnce_28 : decode cX10_tickOnce 28 = .ok (.getfield 7, 3) := by decide +kernel
theorem dX10_tickOnce_31 : decode cX10_tickOnce 31 = .ok (.iconst 5, 1) := by decide +kernel
theorem dX10_tickOnce_32 : decode cX10_tickOnce 32 = .ok (.iaload, 1) := by decide +kernel
theorem dX10_tickOnce_33 : decode cX10_tickOnce 33 = .ok (.aload_n 0, 1) := by decide +kernel
theorem dX10_tickOnce_34 : decode cX10_tickOnce 34 = .ok (.getfield 7, 3) := by decide +kernel
theorem dX10_tickOnce_37 : decode cX10_tickOnce 37 = .ok (.sipush 174, 3) := by decide +kernel
theorem dX10_tickOnce_40 : decode cX10_tickOnce 40 = .ok (.iconst 3, 1) := by decide +kernel
theorem dX10_tickOnce_41 : decode cX10_tickOnce 41 = .ok (.iload_n 1, 1) := by decide +kernel
theorem dX10_tickOnce_42 : decode cX10_tickOnce 42 = .ok (.imul, 1) := by decide +kernel
theorem dX10_tickOnce_43 : decode cX10_tickOnce 43 = .ok (.iadd, 1) := by decide +kernel
theorem dX10_tickOnce_44 : decode cX10_tickOnce 44 = .ok (.iaload, 1) := by decide +kernel
theorem dX10_tickOnce_45 : decode cX10_tickOnce 45 = .ok (.aload_n 0, 1) := by decide +kernel
theorem dX10_tickOnce_46 : decode cX10_tickOnce 46 = .ok (.getfield 7, 3) := by decide +kernel
theorem dX10_tickOnce_49 : decode cX10_tickOnce 49 = .ok (.bipush 8, 2) := by decide +kernel
theorem dX10_tickOnce_51 : decode cX10_tickOnce 51 = .ok (.iaload, 1) := by decide +kernel
theorem dX10_tickOnce_52 : decode cX10_tickOnce 52 = .ok (.invokestatic 139, 3) := by decide +kernel
theorem dX10_tickOnce_55 : decode cX10_tickOnce 55 = .ok (.iastore, 1) := by decide +kernel
theorem dX10_tickOnce_56 : decode cX10_tickOnce 56 = .ok (.aload_n 0, 1) := by decide +kernel
theorem dX10_tickOnce_57 : decode cX10_tickOnce 57 = .ok (.getfield 7, 3) := by decide +kernel
theorem dX10_tickOnce_60 : decode cX10_tickOnce 60 = .ok (.bipush 6, 2) := by decide +kernel
theorem dX10_tickOnce_62 : decode cX10_tickOnce 62 = .ok (.aload_n 0, 1) := by decide +kernel
theorem dX10_tickOnce_63 : decode cX10_tickOnce 63 = .ok (.getfield 7, 3) := by decide +kernel
theorem dX10_tickOnce_66 : decode cX10_tickOnce 66 = .ok (.bipush 6, 2) := by decide +kernel
theorem dX10_tickOnce_68 : decode cX10_tickOnce 68 = .ok (.iaload, 1) := by decide +kernel
theorem dX10_tickOnce_69 : decode cX10_tickOnce 69 = .ok (.aload_n 0, 1) := by decide +kernel
theorem dX10_tickOnce_70 : decode cX10_tickOnce 70 = .ok (.getfield 7, 3) := by decide +kernel
theorem dX10_tickOnce_73 : decode cX10_tickOnce 73 = .ok (.sipush 174, 3) := by decide +kernel
theorem dX10_tickOnce_76 : decode cX10_tickOnce 76 = .ok (.iconst 3, 1) := by decide +kernel
theorem dX10_tickOnce_77 : decode cX10_tickOnce 77 = .ok (.iload_n 1, 1) := by decide +kernel
theorem dX10_tickOnce_78 : decode cX10_tickOnce 78 = .ok (.imul, 1) := by decide +kernel
theorem dX10_tickOnce_79 : decode cX10_tickOnce 79 = .ok (.iadd, 1) := by decide +kernel
theorem dX10_tickOnce_80 : decode cX10_tickOnce 80 = .ok (.iconst 1, 1) := by decide +kernel
theorem dX10_tickOnce_81 : decode cX10_tickOnce 81 = .ok (.iadd, 1) := by decide +kernel
theorem dX10_tickOnce_82 : decode cX10_tickOnce 82 = .ok (.iaload, 1) := by decide +kernel
theorem dX10_tickOnce_83 : decode cX10_tickOnce 83 = .ok (.aload_n 0, 1) := by decide +kernel
theorem dX10_tickOnce_84 : decode cX10_tickOnce 84 = .ok (.getfield 7, 3) := by decide +kernel
theorem dX10_tickOnce_87 : decode cX10_tickOnce 87 = .ok (.bipush 8, 2) := by decide +kernel
theorem dX10_tickOnce_89 : decode cX10_tickOnce 89 = .ok (.iaload, 1) := by decide +kernel
theorem dX10_tickOnce_90 : decode cX10_tickOnce 90 = .ok (.invokestatic 139, 3) := by decide +kernel
theorem dX10_tickOnce_93 : decode cX10_tickOnce 93 = .ok (.iastore, 1) := by decide +kernel
theorem dX10_tickOnce_94 : decode cX10_tickOnce 94 = .ok (.return_, 1) := by decide +kernel
theorem dX10_notTick_0 : decode cX10_notTick 0 = .ok (.iload_n 0, 1) := by decide +kernel
theorem dX10_notTick_1 : decode cX10_notTick 1 = .ok (.iconst 1, 1) := by decide +kernel
theorem dX10_notTick_2 : decode cX10_notTick 2 = .ok (.sipush 200, 3) := by decide +kernel
theorem dX10_notTick_5 : decode cX10_notTick 5 = .ok (.invokestatic 58, 3) := by decide +kernel
theorem dX10_notTick_8 : decode cX10_notTick 8 = .ok (.ifCond .eq 7, 3) := by decide +kernel
theorem dX10_notTick_11 : decode cX10_notTick 11 = .ok (.iconst 0, 1) := by decide +kernel
theorem dX10_notTick_12 : decode cX10_notTick 12 = .ok (.goto 4, 3) := by decide +kernel
theorem dX10_notTick_15 : decode cX10_notTick 15 = .ok (.iconst 1, 1) := by decide +kernel
theorem dX10_notTick_16 : decode cX10_notTick 16 = .ok (.ireturn, 1) := by decide +kernel
theorem dX10_ticksOn_0 : decode cX10_ticksOn 0 = .ok (.iconst 0, 1) := by decide +kernel
theorem dX10_ticksOn_1 : decode cX10_ticksOn 1 = .ok (.istore_n 2, 1) := by decide +kernel
theorem dX10_ticksOn_2 : decode cX10_ticksOn 2 = .ok (.iload_n 2, 1) := by decide +kernel
theorem dX10_ticksOn_3 : decode cX10_ticksOn 3 = .ok (.iload_n 1, 1) := by decide +kernel
theorem dX10_ticksOn_4 : decode cX10_ticksOn 4 = .ok (.if_icmp .ge 13, 3) := by decide +kernel
theorem dX10_ticksOn_7 : decode cX10_ticksOn 7 = .ok (.aload_n 0, 1) := by decide +kernel
theorem dX10_ticksOn_8 : decode cX10_ticksOn 8 = .ok (.invokevirtual 142, 3) := by decide +kernel
theorem dX10_ticksOn_11 : decode cX10_ticksOn 11 = .ok (.iinc 2 1, 3) := by decide +kernel
theorem dX10_ticksOn_14 : decode cX10_ticksOn 14 = .ok (.goto (-12), 3) := by decide +kernel
theorem dX10_ticksOn_17 : decode cX10_ticksOn 17 = .ok (.aload_n 0, 1) := by decide +kernel
theorem dX10_ticksOn_18 : decode cX10_ticksOn 18 = .ok (.getfield 7, 3) := by decide +kernel
theorem dX10_ticksOn_21 : decode cX10_ticksOn 21 = .ok (.iconst 4, 1) := by decide +kernel
theorem dX10_ticksOn_22 : decode cX10_ticksOn 22 = .ok (.iaload, 1) := by decide +kernel
theorem dX10_ticksOn_23 : decode cX10_ticksOn 23 = .ok (.ireturn, 1) := by decide +kernel
theorem dX10_tick_0 : decode cX10_tick 0 = .ok (.aload_n 0, 1) := by decide +kernel
theorem dX10_tick_1 : decode cX10_tick 1 = .ok (.iload_n 1, 1) := by decide +kernel
theorem dX10_tick_2 : decode cX10_tick 2 = .ok (.invokestatic 145, 3) := by decide +kernel
theorem dX10_tick_5 : decode cX10_tick 5 = .ok (.putfield 47, 3) := by decide +kernel
theorem dX10_tick_8 : decode cX10_tick 8 = .ok (.aload_n 0, 1) := by decide +kernel
theorem dX10_tick_9 : decode cX10_tick 9 = .ok (.getfield 47, 3) := by decide +kernel
theorem dX10_tick_12 : decode cX10_tick 12 = .ok (.ifCond .eq 5, 3) := by decide +kernel
theorem dX10_tick_15 : decode cX10_tick 15 = .ok (.iconst 0, 1) := by decide +kernel
theorem dX10_tick_16 : decode cX10_tick 16 = .ok (.ireturn, 1) := by decide +kernel
theorem dX10_tick_17 : decode cX10_tick 17 = .ok (.aload_n 0, 1) := by decide +kernel
theorem dX10_tick_18 : decode cX10_tick 18 = .ok (.invokevirtual 69, 3) := by decide +kernel
theorem dX10_tick_21 : decode cX10_tick 21 = .ok (.aload_n 0, 1) := by decide +kernel
theorem dX10_tick_22 : decode cX10_tick 22 = .ok (.iload_n 1, 1) := by decide +kernel
theorem dX10_tick_23 : decode cX10_tick 23 = .ok (.invokevirtual 148, 3) := by decide +kernel
theorem dX10_tick_26 : decode cX10_tick 26 = .ok (.ireturn, 1) := by decide +kernel
theorem dX10_raw_0 : decode cX10_raw 0 = .ok (.aload_n 0, 1) := by decide +kernel
theorem dX10_raw_1 : decode cX10_raw 1 = .ok (.getfield 7, 3) := by decide +kernel
theorem dX10_raw_4 : decode cX10_raw 4 = .ok (.bipush 7, 2) := by decide +kernel
theorem dX10_raw_6 : decode cX10_raw 6 = .ok (.iaload, 1) := by decide +kernel
theorem dX10_raw_7 : decode cX10_raw 7 = .ok (.aload_n 0, 1) := by decide +kernel
theorem dX10_raw_8 : decode cX10_raw 8 = .ok (.getfield 31, 3) := by decide +kernel
theorem dX10_raw_11 : decode cX10_raw 11 = .ok (.iload_n 1, 1) := by decide +kernel
theorem dX10_raw_12 : decode cX10_raw 12 = .ok (.iaload, 1) := by decide +kernel
theorem dX10_raw_13 : decode cX10_raw 13 = .ok (.imul, 1) := by decide +kernel
theorem dX10_raw_14 : decode cX10_raw 14 = .ok (.bipush 100, 2) := by decide +kernel
theorem dX10_raw_16 : decode cX10_raw 16 = .ok (.invokestatic 151, 3) := by decide +kernel
theorem dX10_raw_19 : decode cX10_raw 19 = .ok (.ireturn, 1) := by decide +kernel
theorem dX10_fits_0 : decode cX10_fits 0 = .ok (.iconst 1, 1) := by decide +kernel
theorem dX10_fits_1 : decode cX10_fits 1 = .ok (.istore 4, 2) := by decide +kernel
theorem dX10_fits_3 : decode cX10_fits 3 = .ok (.iconst 0, 1) := by decide +kernel
theorem dX10_fits_4 : decode cX10_fits 4 = .ok (.istore 5, 2) := by decide +kernel
theorem dX10_fits_6 : decode cX10_fits 6 = .ok (.iload 5, 2) := by decide +kernel
theorem dX10_fits_8 : decode cX10_fits 8 = .ok (.aload_n 0, 1) := by decide +kernel
theorem dX10_fits_9 : decode cX10_fits 9 = .ok (.getfield 7, 3) := by decide +kernel
theorem dX10_fits_12 : decode cX10_fits 12 = .ok (.iconst 2, 1) := by decide +kernel
theorem dX10_fits_13 : decode cX10_fits 13 = .ok (.iaload, 1) := by decide +kernel
theorem dX10_fits_14 : decode cX10_fits 14 = .ok (.if_icmp .ge 51, 3) := by decide +kernel
theorem dX10_fits_17 : decode cX10_fits 17 = .ok (.iload 4, 2) := by decide +kernel
theorem dX10_fits_19 : decode cX10_fits 19 = .ok (.ifCond .eq 37, 3) := by decide +kernel
theorem dX10_fits_22 : decode cX10_fits 22 = .ok (.aload_n 0, 1) := by decide +kernel
theorem dX10_fits_23 : decode cX10_fits 23 = .ok (.iload 5, 2) := by decide +kernel
theorem dX10_fits_25 : decode cX10_fits 25 = .ok (.invokevirtual 79, 3) := by decide +kernel
theorem dX10_fits_28 : decode cX10_fits 28 = .ok (.ifCond .eq 24, 3) := by decide +kernel
theorem dX10_fits_31 : decode cX10_fits 31 = .ok (.aload_n 0, 1) := by decide +kernel
theorem dX10_fits_32 : decode cX10_fits 32 = .ok (.iload 5, 2) := by decide +kernel
theorem dX10_fits_34 : decode cX10_fits 34 = .ok (.invokevirtual 154, 3) := by decide +kernel
theorem dX10_fits_37 : decode cX10_fits 37 = .ok (.iload_n 1, 1) := by decide +kernel
theorem dX10_fits_38 : decode cX10_fits 38 = .ok (.imul, 1) := by decide +kernel
theorem dX10_fits_39 : decode cX10_fits 39 = .ok (.bipush 100, 2) := by decide +kernel
theorem dX10_fits_41 : decode cX10_fits 41 = .ok (.invokestatic 151, 3) := by decide +kernel
theorem dX10_fits_44 : decode cX10_fits 44 = .ok (.iload_n 2, 1) := by decide +kernel
theorem dX10_fits_45 : decode cX10_fits 45 = .ok (.iload_n 3, 1) := by decide +kernel
theorem dX10_fits_46 : decode cX10_fits 46 = .ok (.invokestatic 58, 3) := by decide +kernel
theorem dX10_fits_49 : decode cX10_fits 49 = .ok (.ifCond .eq 7, 3) := by decide +kernel
theorem dX10_fits_52 : decode cX10_fits 52 = .ok (.iconst 1, 1) := by decide +kernel
theorem dX10_fits_53 : decode cX10_fits 53 = .ok (.goto 4, 3) := by decide +kernel
theorem dX10_fits_56 : decode cX10_fits 56 = .ok (.iconst 0, 1) := by decide +kernel
theorem dX10_fits_57 : decode cX10_fits 57 = .ok (.istore 4, 2) := by decide +kernel
theorem dX10_fits_59 : decode cX10_fits 59 = .ok (.iinc 5 1, 3) := by decide +kernel
theorem dX10_fits_62 : decode cX10_fits 62 = .ok (.goto (-56), 3) := by decide +kernel
theorem dX10_fits_65 : decode cX10_fits 65 = .ok (.iload 4, 2) := by decide +kernel
theorem dX10_fits_67 : decode cX10_fits 67 = .ok (.ireturn, 1) := by decide +kernel
theorem dX10_percentageBy_0 : decode cX10_percentageBy 0 = .ok (.bipush 100, 2) := by decide +kernel
theorem dX10_percentageBy_2 : decode cX10_percentageBy 2 = .ok (.istore_n 3, 1) := by decide +kernel
theorem dX10_percentageBy_3 : decode cX10_percentageBy 3 = .ok (.aload_n 0, 1) := by decide +kernel
theorem dX10_percentageBy_4 : decode cX10_percentageBy 4 = .ok (.iload_n 3, 1) := by decide +kernel
theorem dX10_percentageBy_5 : decode cX10_percentageBy 5 = .ok (.iload_n 1, 1) := by decide +kernel
theorem dX10_percentageBy_6 : decode cX10_percentageBy 6 = .ok (.iload_n 2, 1) := by decide +kernel
theorem dX10_percentageBy_7 : decode cX10_percentageBy 7 = .ok (.invokevirtual 157, 3) := by decide +kernel
theorem dX10_percentageBy_10 : decode cX10_percentageBy 10 = .ok (.ifCond .ne 9, 3) := by decide +kernel
theorem dX10_percentageBy_13 : decode cX10_percentageBy 13 = .ok (.iinc 3 (-1), 3) := by decide +kernel
theorem dX10_percentageBy_16 : decode cX10_percentageBy 16 = .ok (.goto (-13), 3) := by decide +kernel
theorem dX10_percentageBy_19 : decode cX10_percentageBy 19 = .ok (.iload_n 3, 1) := by decide +kernel
theorem dX10_percentageBy_20 : decode cX10_percentageBy 20 = .ok (.ireturn, 1) := by decide +kernel
theorem dX10_places_0 : decode cX10_places 0 = .ok (.iconst 0, 1) := by decide +kernel
theorem dX10_places_1 : decode cX10_places 1 = .ok (.istore_n 1, 1) := by decide +kernel
theorem dX10_places_2 : decode cX10_places 2 = .ok (.iload_n 1, 1) := by decide +kernel
theorem dX10_places_3 : decode cX10_places 3 = .ok (.aload_n 0, 1) := by decide +kernel
theorem dX10_places_4 : decode cX10_places 4 = .ok (.getfield 7, 3) := by decide +kernel
theorem dX10_places_7 : decode cX10_places 7 = .ok (.iconst 2, 1) := by decide +kernel
theorem dX10_places_8 : decode cX10_places 8 = .ok (.iaload, 1) := by decide +kernel
theorem dX10_places_9 : decode cX10_places 9 = .ok (.if_icmp .ge 45, 3) := by decide +kernel
theorem dX10_places_12 : decode cX10_places 12 = .ok (.aload_n 0, 1) := by decide +kernel
theorem dX10_places_13 : decode cX10_places 13 = .ok (.getfield 25, 3) := by decide +kernel
theorem dX10_places_16 : decode cX10_places 16 = .ok (.iload_n 1, 1) := by decide +kernel
theorem dX10_places_17 : decode cX10_places 17 = .ok (.aload_n 0, 1) := by decide +kernel
theorem dX10_places_18 : decode cX10_places 18 = .ok (.iload_n 1, 1) := by decide +kernel
theorem dX10_places_19 : decode cX10_places 19 = .ok (.iconst 1, 1) := by decide +kernel
theorem dX10_places_20 : decode cX10_places 20 = .ok (.invokevirtual 160, 3) := by decide +kernel
theorem dX10_places_23 : decode cX10_places 23 = .ok (.iastore, 1) := by decide +kernel
theorem dX10_places_24 : decode cX10_places 24 = .ok (.aload_n 0, 1) := by decide +kernel
theorem dX10_places_25 : decode cX10_places 25 = .ok (.getfield 28, 3) := by decide +kernel
theorem dX10_places_28 : decode cX10_places 28 = .ok (.iload_n 1, 1) := by decide +kernel
theorem dX10_places_29 : decode cX10_places 29 = .ok (.aload_n 0, 1) := by decide +kernel
theorem dX10_places_30 : decode cX10_places 30 = .ok (.iload_n 1, 1) := by decide +kernel
theorem dX10_places_31 : decode cX10_places 31 = .ok (.iconst 2, 1) := by decide +kernel
theorem dX10_places_32 : decode cX10_places 32 = .ok (.invokevirtual 160, 3) := by decide +kernel
theorem dX10_places_35 : decode cX10_places 35 = .ok (.iastore, 1) := by decide +kernel
theorem dX10_places_36 : decode cX10_places 36 = .ok (.aload_n 0, 1) := by decide +kernel
theorem dX10_places_37 : decode cX10_places 37 = .ok (.getfield 31, 3) := by decide +kernel
theorem dX10_places_40 : decode cX10_places 40 = .ok (.iload_n 1, 1) := by decide +kernel
theorem dX10_places_41 : decode cX10_places 41 = .ok (.aload_n 0, 1) := by decide +kernel
theorem dX10_places_42 : decode cX10_places 42 = .ok (.iload_n 1, 1) := by decide +kernel
theorem dX10_places_43 : decode cX10_places 43 = .ok (.iconst 3, 1) := by decide +kernel
theorem dX10_places_44 : decode cX10_places 44 = .ok (.invokevirtual 160, 3) := by decide +kernel
theorem dX10_places_47 : decode cX10_places 47 = .ok (.iastore, 1) := by decide +kernel
theorem dX10_places_48 : decode cX10_places 48 = .ok (.iinc 1 1, 3) := by decide +kernel
theorem dX10_places_51 : decode cX10_places 51 = .ok (.goto (-49), 3) := by decide +kernel
theorem dX10_places_54 : decode cX10_places 54 = .ok (.return_, 1) := by decide +kernel
theorem dX10_sort_0 : decode cX10_sort 0 = .ok (.aload_n 0, 1) := by decide +kernel
theorem dX10_sort_1 : decode cX10_sort 1 = .ok (.iconst 0, 1) := by decide +kernel
theorem dX10_sort_2 : decode cX10_sort 2 = .ok (.putfield 163, 3) := by decide +kernel
theorem dX10_sort_5 : decode cX10_sort 5 = .ok (.iconst 0, 1) := by decide +kernel
theorem dX10_sort_6 : decode cX10_sort 6 = .ok (.istore_n 1, 1) := by decide +kernel
theorem dX10_sort_7 : decode cX10_sort 7 = .ok (.iload_n 1, 1) := by decide +kernel
theorem dX10_sort_8 : decode cX10_sort 8 = .ok (.aload_n 0, 1) := by decide +kernel
theorem dX10_sort_9 : decode cX10_sort 9 = .ok (.getfield 7, 3) := by decide +kernel
theorem dX10_sort_12 : decode cX10_sort 12 = .ok (.iconst 2, 1) := by decide +kernel
theorem dX10_sort_13 : decode cX10_sort 13 = .ok (.iaload, 1) := by decide +kernel
theorem dX10_sort_14 : decode cX10_sort 14 = .ok (.if_icmp .ge 97, 3) := by decide +kernel
theorem dX10_sort_17 : decode cX10_sort 17 = .ok (.aload_n 0, 1) := by decide +kernel
theorem dX10_sort_18 : decode cX10_sort 18 = .ok (.getfield 163, 3) := by decide +kernel
theorem dX10_sort_21 : decode cX10_sort 21 = .ok (.istore_n 2, 1) := by decide +kernel
theorem dX10_sort_22 : decode cX10_sort 22 = .ok (.aload_n 0, 1) := by decide +kernel
theorem dX10_sort_23 : decode cX10_sort 23 = .ok (.iload_n 1, 1) := by decide +kernel
theorem dX10_sort_24 : decode cX10_sort 24 = .ok (.invokevirtual 79, 3) := by decide +kernel
theorem dX10_sort_27 : decode cX10_sort 27 = .ok (.ifCond .eq 49, 3) := by decide +kernel
theorem dX10_sort_30 : decode cX10_sort 30 = .ok (.iload_n 2, 1) := by decide +kernel
theorem dX10_sort_31 : decode cX10_sort 31 = .ok (.ifCond .le 45, 3) := by decide +kernel
theorem dX10_sort_34 : decode cX10_sort 34 = .ok (.aload_n 0, 1) := by decide +kernel
theorem dX10_sort_35 : decode cX10_sort 35 = .ok (.getfield 34, 3) := by decide +kernel
theorem dX10_sort_38 : decode cX10_sort 38 = .ok (.aload_n 0, 1) := by decide +kernel
theorem dX10_sort_39 : decode cX10_sort 39 = .ok (.getfield 37, 3) := by decide +kernel
theorem dX10_sort_42 : decode cX10_sort 42 = .ok (.iload_n 2, 1) := by decide +kernel
theorem dX10_sort_43 : decode cX10_sort 43 = .ok (.iconst 1, 1) := by decide +kernel
theorem dX10_sort_44 : decode cX10_sort 44 = .ok (.isub, 1) := by decide +kernel
theorem dX10_sort_45 : decode cX10_sort 45 = .ok (.iaload, 1) := by decide +kernel
theorem dX10_sort_46 : decode cX10_sort 46 = .ok (.iaload, 1) := by decide +kernel
theorem dX10_sort_47 : decode cX10_sort 47 = .ok (.aload_n 0, 1) := by decide +kernel
theorem dX10_sort_48 : decode cX10_sort 48 = .ok (.getfield 34, 3) := by decide +kernel
theorem dX10_sort_51 : decode cX10_sort 51 = .ok (.iload_n 1, 1) := by decide +kernel
theorem dX10_sort_52 : decode cX10_sort 52 = .ok (.iaload, 1) := by decide +kernel
theorem dX10_sort_53 : decode cX10_sort 53 = .ok (.if_icmp .le 23, 3) := by decide +kernel
theorem dX10_sort_56 : decode cX10_sort 56 = .ok (.aload_n 0, 1) := by decide +kernel
theorem dX10_sort_57 : decode cX10_sort 57 = .ok (.getfield 37, 3) := by decide +kernel
theorem dX10_sort_60 : decode cX10_sort 60 = .ok (.iload_n 2, 1) := by decide +kernel
theorem dX10_sort_61 : decode cX10_sort 61 = .ok (.aload_n 0, 1) := by decide +kernel
theorem dX10_sort_62 : decode cX10_sort 62 = .ok (.getfield 37, 3) := by decide +kernel
theorem dX10_sort_65 : decode cX10_sort 65 = .ok (.iload_n 2, 1) := by decide +kernel
theorem dX10_sort_66 : decode cX10_sort 66 = .ok (.iconst 1, 1) := by decide +kernel
theorem dX10_sort_67 : decode cX10_sort 67 = .ok (.isub, 1) := by decide +kernel
theorem dX10_sort_68 : decode cX10_sort 68 = .ok (.iaload, 1) := by decide +kernel
theorem dX10_sort_69 : decode cX10_sort 69 = .ok (.iastore, 1) := by decide +kernel
theorem dX10_sort_70 : decode cX10_sort 70 = .ok (.iinc 2 (-1), 3) := by decide +kernel
theorem dX10_sort_73 : decode cX10_sort 73 = .ok (.goto (-51), 3) := by decide +kernel
theorem dX10_sort_76 : decode cX10_sort 76 = .ok (.aload_n 0, 1) := by decide +kernel
theorem dX10_sort_77 : decode cX10_sort 77 = .ok (.getfield 37, 3) := by decide +kernel
theorem dX10_sort_80 : decode cX10_sort 80 = .ok (.iload_n 2, 1) := by decide +kernel
theorem dX10_sort_81 : decode cX10_sort 81 = .ok (.iload_n 1, 1) := by decide +kernel
theorem dX10_sort_82 : decode cX10_sort 82 = .ok (.iastore, 1) := by decide +kernel
theorem dX10_sort_83 : decode cX10_sort 83 = .ok (.aload_n 0, 1) := by decide +kernel
theorem dX10_sort_84 : decode cX10_sort 84 = .ok (.dup, 1) := by decide +kernel
theorem dX10_sort_85 : decode cX10_sort 85 = .ok (.getfield 163, 3) := by decide +kernel
theorem dX10_sort_88 : decode cX10_sort 88 = .ok (.aload_n 0, 1) := by decide +kernel
theorem dX10_sort_89 : decode cX10_sort 89 = .ok (.iload_n 1, 1) := by decide +kernel
theorem dX10_sort_90 : decode cX10_sort 90 = .ok (.invokevirtual 79, 3) := by decide +kernel
theorem dX10_sort_93 : decode cX10_sort 93 = .ok (.ifCond .eq 7, 3) := by decide +kernel
theorem dX10_sort_96 : decode cX10_sort 96 = .ok (.iconst 1, 1) := by decide +kernel
theorem dX10_sort_97 : decode cX10_sort 97 = .ok (.goto 4, 3) := by decide +kernel
theorem dX10_sort_100 : decode cX10_sort 100 = .ok (.iconst 0, 1) := by decide +kernel
theorem dX10_sort_101 : decode cX10_sort 101 = .ok (.iadd, 1) := by decide +kernel
theorem dX10_sort_102 : decode cX10_sort 102 = .ok (.putfield 163, 3) := by decide +kernel
theorem dX10_sort_105 : decode cX10_sort 105 = .ok (.iinc 1 1, 3) := by decide +kernel
theorem dX10_sort_108 : decode cX10_sort 108 = .ok (.goto (-101), 3) := by decide +kernel
theorem dX10_sort_111 : decode cX10_sort 111 = .ok (.return_, 1) := by decide +kernel
theorem dX10_column_0 : decode cX10_column 0 = .ok (.iload_n 2, 1) := by decide +kernel
theorem dX10_column_1 : decode cX10_column 1 = .ok (.ifCond .eq 15, 3) := by decide +kernel
theorem dX10_column_4 : decode cX10_column 4 = .ok (.iload_n 0, 1) := by decide +kernel
theorem dX10_column_5 : decode cX10_column 5 = .ok (.iload_n 1, 1) := by decide +kernel
theorem dX10_column_6 : decode cX10_column 6 = .ok (.iconst 1, 1) := by decide +kernel
theorem dX10_column_7 : decode cX10_column 7 = .ok (.iadd, 1) := by decide +kernel
theorem dX10_column_8 : decode cX10_column 8 = .ok (.iconst 2, 1) := by decide +kernel
theorem dX10_column_9 : decode cX10_column 9 = .ok (.invokestatic 151, 3) := by decide +kernel
theorem dX10_column_12 : decode cX10_column 12 = .ok (.iadd, 1) := by decide +kernel
theorem dX10_column_13 : decode cX10_column 13 = .ok (.goto 10, 3) := by decide +kernel
theorem dX10_column_16 : decode cX10_column 16 = .ok (.iload_n 0, 1) := by decide +kernel
theorem dX10_column_17 : decode cX10_column 17 = .ok (.iload_n 1, 1) := by decide +kernel
theorem dX10_column_18 : decode cX10_column 18 = .ok (.iconst 2, 1) := by decide +kernel
theorem dX10_column_19 : decode cX10_column 19 = .ok (.invokestatic 151, 3) := by decide +kernel
theorem dX10_column_22 : decode cX10_column 22 = .ok (.isub, 1) := by decide +kernel
theorem dX10_column_23 : decode cX10_column 23 = .ok (.ireturn, 1) := by decide +kernel
theorem dX10_columnOf_0 : decode cX10_columnOf 0 = .ok (.aload_n 0, 1) := by decide +kernel
theorem dX10_columnOf_1 : decode cX10_columnOf 1 = .ok (.getfield 25, 3) := by decide +kernel
theorem dX10_columnOf_4 : decode cX10_columnOf 4 = .ok (.iload_n 1, 1) := by decide +kernel
theorem dX10_columnOf_5 : decode cX10_columnOf 5 = .ok (.iaload, 1) := by decide +kernel
theorem dX10_columnOf_6 : decode cX10_columnOf 6 = .ok (.aload_n 0, 1) := by decide +kernel
theorem dX10_columnOf_7 : decode cX10_columnOf 7 = .ok (.getfield 34, 3) := by decide +kernel
theorem dX10_columnOf_10 : decode cX10_columnOf 10 = .ok (.iload_n 1, 1) := by decide +kernel
theorem dX10_columnOf_11 : decode cX10_columnOf 11 = .ok (.iaload, 1) := by decide +kernel
theorem dX10_columnOf_12 : decode cX10_columnOf 12 = .ok (.iload_n 2, 1) := by decide +kernel
theorem dX10_columnOf_13 : decode cX10_columnOf 13 = .ok (.invokestatic 166, 3) := by decide +kernel
theorem dX10_columnOf_16 : decode cX10_columnOf 16 = .ok (.ireturn, 1) := by decide +kernel
theorem dX10_isInRows_0 : decode cX10_isInRows 0 = .ok (.aload_n 0, 1) := by decide +kernel
theorem dX10_isInRows_1 : decode cX10_isInRows 1 = .ok (.getfield 28, 3) := by decide +kernel
theorem dX10_isInRows_4 : decode cX10_isInRows 4 = .ok (.iload_n 1, 1) := by decide +kernel
theorem dX10_isInRows_5 : decode cX10_isInRows 5 = .ok (.iaload, 1) := by decide +kernel
theorem dX10_isInRows_6 : decode cX10_isInRows 6 = .ok (.aload_n 0, 1) := by decide +kernel
theorem dX10_isInRows_7 : decode cX10_isInRows 7 = .ok (.getfield 7, 3) := by decide +kernel
theorem dX10_isInRows_10 : decode cX10_isInRows 10 = .ok (.iconst 1, 1) := by decide +kernel
theorem dX10_isInRows_11 : decode cX10_isInRows 11 = .ok (.iaload, 1) := by decide +kernel
theorem dX10_isInRows_12 : decode cX10_isInRows 12 = .ok (.if_icmp .ge 23, 3) := by decide +kernel
theorem dX10_isInRows_15 : decode cX10_isInRows 15 = .ok (.aload_n 0, 1) := by decide +kernel
theorem dX10_isInRows_16 : decode cX10_isInRows 16 = .ok (.getfield 28, 3) := by decide +kernel
theorem dX10_isInRows_19 : decode cX10_isInRows 19 = .ok (.iload_n 1, 1) := by decide +kernel
theorem dX10_isInRows_20 : decode cX10_isInRows 20 = .ok (.iaload, 1) := by decide +kernel
theorem dX10_isInRows_21 : decode cX10_isInRows 21 = .ok (.aload_n 0, 1) := by decide +kernel
theorem dX10_isInRows_22 : decode cX10_isInRows 22 = .ok (.iload_n 1, 1) := by decide +kernel
theorem dX10_isInRows_23 : decode cX10_isInRows 23 = .ok (.iconst 5, 1) := by decide +kernel
theorem dX10_isInRows_24 : decode cX10_isInRows 24 = .ok (.invokevirtual 62, 3) := by decide +kernel
theorem dX10_isInRows_27 : decode cX10_isInRows 27 = .ok (.iadd, 1) := by decide +kernel
theorem dX10_isInRows_28 : decode cX10_isInRows 28 = .ok (.ifCond .le 7, 3) := by decide +kernel
theorem dX10_isInRows_31 : decode cX10_isInRows 31 = .ok (.iconst 1, 1) := by decide +kernel
theorem dX10_isInRows_32 : decode cX10_isInRows 32 = .ok (.goto 4, 3) := by decide +kernel
theorem dX10_isInRows_35 : decode cX10_isInRows 35 = .ok (.iconst 0, 1) := by decide +kernel
theorem dX10_isInRows_36 : decode cX10_isInRows 36 = .ok (.ireturn, 1) := by decide +kernel
theorem dX10_isCutLeft_0 : decode cX10_isCutLeft 0 = .ok (.iload_n 2, 1) := by decide +kernel
theorem dX10_isCutLeft_1 : decode cX10_isCutLeft 1 = .ok (.ifCond .eq 7, 3) := by decide +kernel
theorem dX10_isCutLeft_4 : decode cX10_isCutLeft 4 = .ok (.iload_n 3, 1) := by decide +kernel
theorem dX10_isCutLeft_5 : decode cX10_isCutLeft 5 = .ok (.goto 4, 3) := by decide +kernel
theorem dX10_isCutLeft_8 : decode cX10_isCutLeft 8 = .ok (.iconst 0, 1) := by decide +kernel
theorem dX10_isCutLeft_9 : decode cX10_isCutLeft 9 = .ok (.istore 4, 2) := by decide +kernel
theorem dX10_isCutLeft_11 : decode cX10_isCutLeft 11 = .ok (.aload_n 0, 1) := by decide +kernel
theorem dX10_isCutLeft_12 : decode cX10_isCutLeft 12 = .ok (.iload_n 1, 1) := by decide +kernel
theorem dX10_isCutLeft_13 : decode cX10_isCutLeft 13 = .ok (.iload_n 2, 1) := by decide +kernel
theorem dX10_isCutLeft_14 : decode cX10_isCutLeft 14 = .ok (.invokevirtual 170, 3) := by decide +kernel
theorem dX10_isCutLeft_17 : decode cX10_isCutLeft 17 = .ok (.istore 5, 2) := by decide +kernel
theorem dX10_isCutLeft_19 : decode cX10_isCutLeft 19 = .ok (.aload_n 0, 1) := by decide +kernel
theorem dX10_isCutLeft_20 : decode cX10_isCutLeft 20 = .ok (.iload_n 1, 1) := by decide +kernel
theorem dX10_isCutLeft_21 : decode cX10_isCutLeft 21 = .ok (.invokevirtual 174, 3) := by decide +kernel
theorem dX10_isCutLeft_24 : decode cX10_isCutLeft 24 = .ok (.ifCond .eq 28, 3) := by decide +kernel
theorem dX10_isCutLeft_27 : decode cX10_isCutLeft 27 = .ok (.iload 5, 2) := by decide +kernel
theorem dX10_isCutLeft_29 : decode cX10_isCutLeft 29 = .ok (.iload 4, 2) := by decide +kernel
theorem dX10_isCutLeft_31 : decode cX10_isCutLeft 31 = .ok (.if_icmp .ge 21, 3) := by decide +kernel
theorem dX10_isCutLeft_34 : decode cX10_isCutLeft 34 = .ok (.iload 5, 2) := by decide +kernel
theorem dX10_isCutLeft_36 : decode cX10_isCutLeft 36 = .ok (.aload_n 0, 1) := by decide +kernel
theorem dX10_isCutLeft_37 : decode cX10_isCutLeft 37 = .ok (.iload_n 1, 1) := by decide +kernel
theorem dX10_isCutLeft_38 : decode cX10_isCutLeft 38 = .ok (.iconst 4, 1) := by decide +kernel
theorem dX10_isCutLeft_39 : decode cX10_isCutLeft 39 = .ok (.invokevirtual 62, 3) := by decide +kernel
theorem dX10_isCutLeft_42 : decode cX10_isCutLeft 42 = .ok (.iadd, 1) := by decide +kernel
theorem dX10_isCutLeft_43 : decode cX10_isCutLeft 43 = .ok (.iload 4, 2) := by decide +kernel
theorem dX10_isCutLeft_45 : decode cX10_isCutLeft 45 = .ok (.if_icmp .le 7, 3) := by decide +kernel
theorem dX10_isCutLeft_48 : decode cX10_isCutLeft 48 = .ok (.iconst 1, 1) := by decide +kernel
theorem dX10_isCutLeft_49 : decode cX10_isCutLeft 49 = .ok (.goto 4, 3) := by decide +kernel
theorem dX10_isCutLeft_52 : decode cX10_isCutLeft 52 = .ok (.iconst 0, 1) := by decide +kernel
theorem dX10_isCutLeft_53 : decode cX10_isCutLeft 53 = .ok (.ireturn, 1) := by decide +kernel
theorem dX10_isCutRight_0 : decode cX10_isCutRight 0 = .ok (.iload_n 2, 1) := by decide +kernel
theorem dX10_isCutRight_1 : decode cX10_isCutRight 1 = .ok (.ifCond .eq 12, 3) := by decide +kernel
theorem dX10_isCutRight_4 : decode cX10_isCutRight 4 = .ok (.aload_n 0, 1) := by decide +kernel
theorem dX10_isCutRight_5 : decode cX10_isCutRight 5 = .ok (.getfield 7, 3) := by decide +kernel
theorem dX10_isCutRight_8 : decode cX10_isCutRight 8 = .ok (.iconst 0, 1) := by decide +kernel
theorem dX10_isCutRight_9 : decode cX10_isCutRight 9 = .ok (.iaload, 1) := by decide +kernel
theorem dX10_isCutRight_10 : decode cX10_isCutRight 10 = .ok (.goto 11, 3) := by decide +kernel
theorem dX10_isCutRight_13 : decode cX10_isCutRight 13 = .ok (.aload_n 0, 1) := by decide +kernel
theorem dX10_isCutRight_14 : decode cX10_isCutRight 14 = .ok (.getfield 7, 3) := by decide +kernel
theorem dX10_isCutRight_17 : decode cX10_isCutRight 17 = .ok (.iconst 0, 1) := by decide +kernel
theorem dX10_isCutRight_18 : decode cX10_isCutRight 18 = .ok (.iaload, 1) := by decide +kernel
theorem dX10_isCutRight_19 : decode cX10_isCutRight 19 = .ok (.iload_n 3, 1) := by decide +kernel
theorem dX10_isCutRight_20 : decode cX10_isCutRight 20 = .ok (.isub, 1) := by decide +kernel
theorem dX10_isCutRight_21 : decode cX10_isCutRight 21 = .ok (.istore 4, 2) := by decide +kernel
theorem dX10_isCutRight_23 : decode cX10_isCutRight 23 = .ok (.aload_n 0, 1) := by decide +kernel
theorem dX10_isCutRight_24 : decode cX10_isCutRight 24 = .ok (.iload_n 1, 1) := by decide +kernel
theorem dX10_isCutRight_25 : decode cX10_isCutRight 25 = .ok (.iload_n 2, 1) := by decide +kernel
theorem dX10_isCutRight_26 : decode cX10_isCutRight 26 = .ok (.invokevirtual 170, 3) := by decide +kernel
theorem dX10_isCutRight_29 : decode cX10_isCutRight 29 = .ok (.istore 5, 2) := by decide +kernel
theorem dX10_isCutRight_31 : decode cX10_isCutRight 31 = .ok (.aload_n 0, 1) := by decide +kernel
theorem dX10_isCutRight_32 : decode cX10_isCutRight 32 = .ok (.iload_n 1, 1) := by decide +kernel
theorem dX10_isCutRight_33 : decode cX10_isCutRight 33 = .ok (.invokevirtual 174, 3) := by decide +kernel
theorem dX10_isCutRight_36 : decode cX10_isCutRight 36 = .ok (.ifCond .eq 28, 3) := by decide +kernel
theorem dX10_isCutRight_39 : decode cX10_isCutRight 39 = .ok (.iload 5, 2) := by decide +kernel
theorem dX10_isCutRight_41 : decode cX10_isCutRight 41 = .ok (.iload 4, 2) := by decide +kernel
theorem dX10_isCutRight_43 : decode cX10_isCutRight 43 = .ok (.if_icmp .ge 21, 3) := by decide +kernel
theorem dX10_isCutRight_46 : decode cX10_isCutRight 46 = .ok (.iload 5, 2) := by decide +kernel
theorem dX10_isCutRight_48 : decode cX10_isCutRight 48 = .ok (.aload_n 0, 1) := by decide +kernel
theorem dX10_isCutRight_49 : decode cX10_isCutRight 49 = .ok (.iload_n 1, 1) := by decide +kernel
theorem dX10_isCutRight_50 : decode cX10_isCutRight 50 = .ok (.iconst 4, 1) := by decide +kernel
theorem dX10_isCutRight_51 : decode cX10_isCutRight 51 = .ok (.invokevirtual 62, 3) := by decide +kernel
theorem dX10_isCutRight_54 : decode cX10_isCutRight 54 = .ok (.iadd, 1) := by decide +kernel
theorem dX10_isCutRight_55 : decode cX10_isCutRight 55 = .ok (.iload 4, 2) := by decide +kernel
theorem dX10_isCutRight_57 : decode cX10_isCutRight 57 = .ok (.if_icmp .le 7, 3) := by decide +kernel
theorem dX10_isCutRight_60 : decode cX10_isCutRight 60 = .ok (.iconst 1, 1) := by decide +kernel
theorem dX10_isCutRight_61 : decode cX10_isCutRight 61 = .ok (.goto 4, 3) := by decide +kernel
theorem dX10_isCutRight_64 : decode cX10_isCutRight 64 = .ok (.iconst 0, 1) := by decide +kernel
theorem dX10_isCutRight_65 : decode cX10_isCutRight 65 = .ok (.ireturn, 1) := by decide +kernel
theorem dX10_isCut_0 : decode cX10_isCut 0 = .ok (.iload_n 2, 1) := by decide +kernel
theorem dX10_isCut_1 : decode cX10_isCut 1 = .ok (.ifCond .eq 31, 3) := by decide +kernel
theorem dX10_isCut_4 : decode cX10_isCut 4 = .ok (.aload_n 0, 1) := by decide +kernel
theorem dX10_isCut_5 : decode cX10_isCut 5 = .ok (.iload_n 1, 1) := by decide +kernel
theorem dX10_isCut_6 : decode cX10_isCut 6 = .ok (.iconst 1, 1) := by decide +kernel
theorem dX10_isCut_7 : decode cX10_isCut 7 = .ok (.iload_n 3, 1) := by decide +kernel
theorem dX10_isCut_8 : decode cX10_isCut 8 = .ok (.invokevirtual 177, 3) := by decide +kernel
theorem dX10_isCut_11 : decode cX10_isCut 11 = .ok (.ifCond .ne 13, 3) := by decide +kernel
theorem dX10_isCut_14 : decode cX10_isCut 14 = .ok (.aload_n 0, 1) := by decide +kernel
theorem dX10_isCut_15 : decode cX10_isCut 15 = .ok (.iload_n 1, 1) := by decide +kernel
theorem dX10_isCut_16 : decode cX10_isCut 16 = .ok (.iconst 0, 1) := by decide +kernel
theorem dX10_isCut_17 : decode cX10_isCut 17 = .ok (.iload_n 3, 1) := by decide +kernel
theorem dX10_isCut_18 : decode cX10_isCut 18 = .ok (.invokevirtual 177, 3) := by decide +kernel
theorem dX10_isCut_21 : decode cX10_isCut 21 = .ok (.ifCond .eq 7, 3) := by decide +kernel
theorem dX10_isCut_24 : decode cX10_isCut 24 = .ok (.iconst 1, 1) := by decide +kernel
theorem dX10_isCut_25 : decode cX10_isCut 25 = .ok (.goto 32, 3) := by decide +kernel
theorem dX10_isCut_28 : decode cX10_isCut 28 = .ok (.iconst 0, 1) := by decide +kernel
theorem dX10_isCut_29 : decode cX10_isCut 29 = .ok (.goto 28, 3) := by decide +kernel
theorem dX10_isCut_32 : decode cX10_isCut 32 = .ok (.aload_n 0, 1) := by decide +kernel
theorem dX10_isCut_33 : decode cX10_isCut 33 = .ok (.iload_n 1, 1) := by decide +kernel
theorem dX10_isCut_34 : decode cX10_isCut 34 = .ok (.iconst 1, 1) := by decide +kernel
theorem dX10_isCut_35 : decode cX10_isCut 35 = .ok (.iload_n 3, 1) := by decide +kernel
theorem dX10_isCut_36 : decode cX10_isCut 36 = .ok (.invokevirtual 181, 3) := by decide +kernel
theorem dX10_isCut_39 : decode cX10_isCut 39 = .ok (.ifCond .ne 13, 3) := by decide +kernel
theorem dX10_isCut_42 : decode cX10_isCut 42 = .ok (.aload_n 0, 1) := by decide +kernel
theorem dX10_isCut_43 : decode cX10_isCut 43 = .ok (.iload_n 1, 1) := by decide +kernel
theorem dX10_isCut_44 : decode cX10_isCut 44 = .ok (.iconst 0, 1) := by decide +kernel
theorem dX10_isCut_45 : decode cX10_isCut 45 = .ok (.iload_n 3, 1) := by decide +kernel
theorem dX10_isCut_46 : decode cX10_isCut 46 = .ok (.invokevirtual 181, 3) := by decide +kernel
theorem dX10_isCut_49 : decode cX10_isCut 49 = .ok (.ifCond .eq 7, 3) := by decide +kernel
theorem dX10_isCut_52 : decode cX10_isCut 52 = .ok (.iconst 1, 1) := by decide +kernel
theorem dX10_isCut_53 : decode cX10_isCut 53 = .ok (.goto 4, 3) := by decide +kernel
theorem dX10_isCut_56 : decode cX10_isCut 56 = .ok (.iconst 0, 1) := by decide +kernel
theorem dX10_isCut_57 : decode cX10_isCut 57 = .ok (.ireturn, 1) := by decide +kernel
theorem dX10_mask_0 : decode cX10_mask 0 = .ok (.iconst 0, 1) := by decide +kernel
theorem dX10_mask_1 : decode cX10_mask 1 = .ok (.istore_n 2, 1) := by decide +kernel
theorem dX10_mask_2 : decode cX10_mask 2 = .ok (.iconst 1, 1) := by decide +kernel
theorem dX10_mask_3 : decode cX10_mask 3 = .ok (.istore_n 3, 1) := by decide +kernel
theorem dX10_mask_4 : decode cX10_mask 4 = .ok (.iload_n 3, 1) := by decide +kernel
theorem dX10_mask_5 : decode cX10_mask 5 = .ok (.ifCond .eq 82, 3) := by decide +kernel
theorem dX10_mask_8 : decode cX10_mask 8 = .ok (.iload_n 2, 1) := by decide +kernel
theorem dX10_mask_9 : decode cX10_mask 9 = .ok (.istore 4, 2) := by decide +kernel
theorem dX10_mask_11 : decode cX10_mask 11 = .ok (.iconst 0, 1) := by decide +kernel
theorem dX10_mask_12 : decode cX10_mask 12 = .ok (.istore 5, 2) := by decide +kernel
theorem dX10_mask_14 : decode cX10_mask 14 = .ok (.iload 5, 2) := by decide +kernel
theorem dX10_mask_16 : decode cX10_mask 16 = .ok (.aload_n 0, 1) := by decide +kernel
theorem dX10_mask_17 : decode cX10_mask 17 = .ok (.getfield 163, 3) := by decide +kernel
theorem dX10_mask_20 : decode cX10_mask 20 = .ok (.if_icmp .ge 49, 3) := by decide +kernel
theorem dX10_mask_23 : decode cX10_mask 23 = .ok (.aload_n 0, 1) := by decide +kernel
theorem dX10_mask_24 : decode cX10_mask 24 = .ok (.aload_n 0, 1) := by decide +kernel
theorem dX10_mask_25 : decode cX10_mask 25 = .ok (.getfield 37, 3) := by decide +kernel
theorem dX10_mask_28 : decode cX10_mask 28 = .ok (.iload 5, 2) := by decide +kernel
theorem dX10_mask_30 : decode cX10_mask 30 = .ok (.iaload, 1) := by decide +kernel
theorem dX10_mask_31 : decode cX10_mask 31 = .ok (.iload_n 1, 1) := by decide +kernel
theorem dX10_mask_32 : decode cX10_mask 32 = .ok (.iload_n 2, 1) := by decide +kernel
theorem dX10_mask_33 : decode cX10_mask 33 = .ok (.invokevirtual 184, 3) := by decide +kernel
theorem dX10_mask_36 : decode cX10_mask 36 = .ok (.ifCond .eq 23, 3) := by decide +kernel
theorem dX10_mask_39 : decode cX10_mask 39 = .ok (.iload 4, 2) := by decide +kernel
theorem dX10_mask_41 : decode cX10_mask 41 = .ok (.aload_n 0, 1) := by decide +kernel
theorem dX10_mask_42 : decode cX10_mask 42 = .ok (.getfield 34, 3) := by decide +kernel
theorem dX10_mask_45 : decode cX10_mask 45 = .ok (.aload_n 0, 1) := by decide +kernel
theorem dX10_mask_46 : decode cX10_mask 46 = .ok (.getfield 37, 3) := by decide +kernel
theorem dX10_mask_49 : decode cX10_mask 49 = .ok (.iload 5, 2) := by decide +kernel
theorem dX10_mask_51 : decode cX10_mask 51 = .ok (.iaload, 1) := by decide +kernel
theorem dX10_mask_52 : decode cX10_mask 52 = .ok (.iaload, 1) := by decide +kernel
theorem dX10_mask_53 : decode cX10_mask 53 = .ok (.invokestatic 187, 3) := by decide +kernel
theorem dX10_mask_56 : decode cX10_mask 56 = .ok (.goto 5, 3) := by decide +kernel
theorem dX10_mask_59 : decode cX10_mask 59 = .ok (.iload 4, 2) := by decide +kernel
theorem dX10_mask_61 : decode cX10_mask 61 = .ok (.istore 4, 2) := by decide +kernel
theorem dX10_mask_63 : decode cX10_mask 63 = .ok (.iinc 5 1, 3) := by decide +kernel
theorem dX10_mask_66 : decode cX10_mask 66 = .ok (.goto (-52), 3) := by decide +kernel
theorem dX10_mask_69 : decode cX10_mask 69 = .ok (.iload 4, 2) := by decide +kernel
theorem dX10_mask_71 : decode cX10_mask 71 = .ok (.iload_n 2, 1) := by decide +kernel
theorem dX10_mask_72 : decode cX10_mask 72 = .ok (.if_icmp .le 7, 3) := by decide +kernel
theorem dX10_mask_75 : decode cX10_mask 75 = .ok (.iconst 1, 1) := by decide +kernel
theorem dX10_mask_76 : decode cX10_mask 76 = .ok (.goto 4, 3) := by decide +kernel
theorem dX10_mask_79 : decode cX10_mask 79 = .ok (.iconst 0, 1) := by decide +kernel
theorem dX10_mask_80 : decode cX10_mask 80 = .ok (.istore_n 3, 1) := by decide +kernel
theorem dX10_mask_81 : decode cX10_mask 81 = .ok (.iload 4, 2) := by decide +kernel
theorem dX10_mask_83 : decode cX10_mask 83 = .ok (.istore_n 2, 1) := by decide +kernel
theorem dX10_mask_84 : decode cX10_mask 84 = .ok (.goto (-80), 3) := by decide +kernel
theorem dX10_mask_87 : decode cX10_mask 87 = .ok (.iload_n 2, 1) := by decide +kernel
theorem dX10_mask_88 : decode cX10_mask 88 = .ok (.ireturn, 1) := by decide +kernel
theorem dX10_isClear_0 : decode cX10_isClear 0 = .ok (.aload_n 0, 1) := by decide +kernel
theorem dX10_isClear_1 : decode cX10_isClear 1 = .ok (.getfield 7, 3) := by decide +kernel
theorem dX10_isClear_4 : decode cX10_isClear 4 = .ok (.bipush 11, 2) := by decide +kernel
theorem dX10_isClear_6 : decode cX10_isClear 6 = .ok (.iaload, 1) := by decide +kernel
theorem dX10_isClear_7 : decode cX10_isClear 7 = .ok (.iload_n 2, 1) := by decide +kernel
theorem dX10_isClear_8 : decode cX10_isClear 8 = .ok (.iload_n 3, 1) := by decide +kernel
theorem dX10_isClear_9 : decode cX10_isClear 9 = .ok (.invokestatic 166, 3) := by decide +kernel
theorem dX10_isClear_12 : decode cX10_isClear 12 = .ok (.istore 4, 2) := by decide +kernel
theorem dX10_isClear_14 : decode cX10_isClear 14 = .ok (.iload 4, 2) := by decide +kernel
theorem dX10_isClear_16 : decode cX10_isClear 16 = .ok (.aload_n 0, 1) := by decide +kernel
theorem dX10_isClear_17 : decode cX10_isClear 17 = .ok (.getfield 7, 3) := by decide +kernel
theorem dX10_isClear_20 : decode cX10_isClear 20 = .ok (.bipush 13, 2) := by decide +kernel
theorem dX10_isClear_22 : decode cX10_isClear 22 = .ok (.iaload, 1) := by decide +kernel
theorem dX10_isClear_23 : decode cX10_isClear 23 = .ok (.iadd, 1) := by decide +kernel
theorem dX10_isClear_24 : decode cX10_isClear 24 = .ok (.istore 5, 2) := by decide +kernel
theorem dX10_isClear_26 : decode cX10_isClear 26 = .ok (.iload 4, 2) := by decide +kernel
theorem dX10_isClear_28 : decode cX10_isClear 28 = .ok (.iload_n 3, 1) := by decide +kernel
theorem dX10_isClear_29 : decode cX10_isClear 29 = .ok (.ifCond .eq 10, 3) := by decide +kernel
theorem dX10_isClear_32 : decode cX10_isClear 32 = .ok (.aload_n 0, 1) := by decide +kernel
theorem dX10_isClear_33 : decode cX10_isClear 33 = .ok (.getfield 190, 3) := by decide +kernel
theorem dX10_isClear_36 : decode cX10_isClear 36 = .ok (.goto 4, 3) := by decide +kernel
theorem dX10_isClear_39 : decode cX10_isClear 39 = .ok (.iconst 0, 1) := by decide +kernel
theorem dX10_isClear_40 : decode cX10_isClear 40 = .ok (.if_icmp .lt 36, 3) := by decide +kernel
theorem dX10_isClear_43 : decode cX10_isClear 43 = .ok (.iload 5, 2) := by decide +kernel
theorem dX10_isClear_45 : decode cX10_isClear 45 = .ok (.iload_n 3, 1) := by decide +kernel
theorem dX10_isClear_46 : decode cX10_isClear 46 = .ok (.ifCond .eq 12, 3) := by decide +kernel
theorem dX10_isClear_49 : decode cX10_isClear 49 = .ok (.aload_n 0, 1) := by decide +kernel
theorem dX10_isClear_50 : decode cX10_isClear 50 = .ok (.getfield 7, 3) := by decide +kernel
theorem dX10_isClear_53 : decode cX10_isClear 53 = .ok (.iconst 0, 1) := by decide +kernel
theorem dX10_isClear_54 : decode cX10_isClear 54 = .ok (.iaload, 1) := by decide +kernel
theorem dX10_isClear_55 : decode cX10_isClear 55 = .ok (.goto 14, 3) := by decide +kernel
theorem dX10_isClear_58 : decode cX10_isClear 58 = .ok (.aload_n 0, 1) := by decide +kernel
theorem dX10_isClear_59 : decode cX10_isClear 59 = .ok (.getfield 7, 3) := by decide +kernel
theorem dX10_isClear_62 : decode cX10_isClear 62 = .ok (.iconst 0, 1) := by decide +kernel
theorem dX10_isClear_63 : decode cX10_isClear 63 = .ok (.iaload, 1) := by decide +kernel
theorem dX10_isClear_64 : decode cX10_isClear 64 = .ok (.aload_n 0, 1) := by decide +kernel
theorem dX10_isClear_65 : decode cX10_isClear 65 = .ok (.getfield 193, 3) := by decide +kernel
theorem dX10_isClear_68 : decode cX10_isClear 68 = .ok (.isub, 1) := by decide +kernel
theorem dX10_isClear_69 : decode cX10_isClear 69 = .ok (.if_icmp .gt 7, 3) := by decide +kernel
theorem dX10_isClear_72 : decode cX10_isClear 72 = .ok (.iconst 1, 1) := by decide +kernel
theorem dX10_isClear_73 : decode cX10_isClear 73 = .ok (.goto 4, 3) := by decide +kernel
theorem dX10_isClear_76 : decode cX10_isClear 76 = .ok (.iconst 0, 1) := by decide +kernel
theorem dX10_isClear_77 : decode cX10_isClear 77 = .ok (.istore 6, 2) := by decide +kernel
theorem dX10_isClear_79 : decode cX10_isClear 79 = .ok (.iconst 0, 1) := by decide +kernel
theorem dX10_isClear_80 : decode cX10_isClear 80 = .ok (.istore 7, 2) := by decide +kernel
theorem dX10_isClear_82 : decode cX10_isClear 82 = .ok (.iload 7, 2) := by decide +kernel
theorem dX10_isClear_84 : decode cX10_isClear 84 = .ok (.aload_n 0, 1) := by decide +kernel
theorem dX10_isClear_85 : decode cX10_isClear 85 = .ok (.getfield 163, 3) := by decide +kernel
theorem dX10_isClear_88 : decode cX10_isClear 88 = .ok (.if_icmp .ge 109, 3) := by decide +kernel
theorem dX10_isClear_91 : decode cX10_isClear 91 = .ok (.aload_n 0, 1) := by decide +kernel
theorem dX10_isClear_92 : decode cX10_isClear 92 = .ok (.getfield 37, 3) := by decide +kernel
theorem dX10_isClear_95 : decode cX10_isClear 95 = .ok (.iload 7, 2) := by decide +kernel
theorem dX10_isClear_97 : decode cX10_isClear 97 = .ok (.iaload, 1) := by decide +kernel
theorem dX10_isClear_98 : decode cX10_isClear 98 = .ok (.istore 8, 2) := by decide +kernel
theorem dX10_isClear_100 : decode cX10_isClear 100 = .ok (.aload_n 0, 1) := by decide +kernel
theorem dX10_isClear_101 : decode cX10_isClear 101 = .ok (.iload 8, 2) := by decide +kernel
theorem dX10_isClear_103 : decode cX10_isClear 103 = .ok (.iload_n 3, 1) := by decide +kernel
theorem dX10_isClear_104 : decode cX10_isClear 104 = .ok (.invokevirtual 170, 3) := by decide +kernel
theorem dX10_isClear_107 : decode cX10_isClear 107 = .ok (.istore 9, 2) := by decide +kernel
theorem dX10_isClear_109 : decode cX10_isClear 109 = .ok (.iload_n 1, 1) := by decide +kernel
theorem dX10_isClear_110 : decode cX10_isClear 110 = .ok (.aload_n 0, 1) := by decide +kernel
theorem dX10_isClear_111 : decode cX10_isClear 111 = .ok (.getfield 28, 3) := by decide +kernel
theorem dX10_isClear_114 : decode cX10_isClear 114 = .ok (.iload 8, 2) := by decide +kernel
theorem dX10_isClear_116 : decode cX10_isClear 116 = .ok (.iaload, 1) := by decide +kernel
theorem dX10_isClear_117 : decode cX10_isClear 117 = .ok (.isub, 1) := by decide +kernel
theorem dX10_isClear_118 : decode cX10_isClear 118 = .ok (.iconst 0, 1) := by decide +kernel
theorem dX10_isClear_119 : decode cX10_isClear 119 = .ok (.aload_n 0, 1) := by decide +kernel
theorem dX10_isClear_120 : decode cX10_isClear 120 = .ok (.iload 8, 2) := by decide +kernel
theorem dX10_isClear_122 : decode cX10_isClear 122 = .ok (.iconst 5, 1) := by decide +kernel
theorem dX10_isClear_123 : decode cX10_isClear 123 = .ok (.invokevirtual 62, 3) := by decide +kernel
theorem dX10_isClear_126 : decode cX10_isClear 126 = .ok (.iconst 1, 1) := by decide +kernel
theorem dX10_isClear_127 : decode cX10_isClear 127 = .ok (.isub, 1) := by decide +kernel
theorem dX10_isClear_128 : decode cX10_isClear 128 = .ok (.invokestatic 58, 3) := by decide +kernel
theorem dX10_isClear_131 : decode cX10_isClear 131 = .ok (.ifCond .eq 29, 3) := by decide +kernel
theorem dX10_isClear_134 : decode cX10_isClear 134 = .ok (.iload 9, 2) := by decide +kernel
theorem dX10_isClear_136 : decode cX10_isClear 136 = .ok (.iload 5, 2) := by decide +kernel
theorem dX10_isClear_138 : decode cX10_isClear 138 = .ok (.if_icmp .ge 22, 3) := by decide +kernel
theorem dX10_isClear_141 : decode cX10_isClear 141 = .ok (.iload 9, 2) := by decide +kernel
theorem dX10_isClear_143 : decode cX10_isClear 143 = .ok (.aload_n 0, 1) := by decide +kernel
theorem dX10_isClear_144 : decode cX10_isClear 144 = .ok (.iload 8, 2) := by decide +kernel
theorem dX10_isClear_146 : decode cX10_isClear 146 = .ok (.iconst 4, 1) := by decide +kernel
theorem dX10_isClear_147 : decode cX10_isClear 147 = .ok (.invokevirtual 62, 3) := by decide +kernel
theorem dX10_isClear_150 : decode cX10_isClear 150 = .ok (.iadd, 1) := by decide +kernel
theorem dX10_isClear_151 : decode cX10_isClear 151 = .ok (.iload 4, 2) := by decide +kernel
theorem dX10_isClear_153 : decode cX10_isClear 153 = .ok (.if_icmp .le 7, 3) := by decide +kernel
theorem dX10_isClear_156 : decode cX10_isClear 156 = .ok (.iconst 1, 1) := by decide +kernel
theorem dX10_isClear_157 : decode cX10_isClear 157 = .ok (.goto 4, 3) := by decide +kernel
theorem dX10_isClear_160 : decode cX10_isClear 160 = .ok (.iconst 0, 1) := by decide +kernel
theorem dX10_isClear_161 : decode cX10_isClear 161 = .ok (.istore 10, 2) := by decide +kernel
theorem dX10_isClear_163 : decode cX10_isClear 163 = .ok (.iload 6, 2) := by decide +kernel
theorem dX10_isClear_165 : decode cX10_isClear 165 = .ok (.ifCond .eq 23, 3) := by decide +kernel
theorem dX10_isClear_168 : decode cX10_isClear 168 = .ok (.iload 10, 2) := by decide +kernel
theorem dX10_isClear_170 : decode cX10_isClear 170 = .ok (.ifCond .eq 14, 3) := by decide +kernel
theorem dX10_isClear_173 : decode cX10_isClear 173 = .ok (.aload_n 0, 1) := by decide +kernel
theorem dX10_isClear_174 : decode cX10_isClear 174 = .ok (.getfield 34, 3) := by decide +kernel
theorem dX10_isClear_177 : decode cX10_isClear 177 = .ok (.iload 8, 2) := by decide +kernel
theorem dX10_isClear_179 : decode cX10_isClear 179 = .ok (.iaload, 1) := by decide +kernel
theorem dX10_isClear_180 : decode cX10_isClear 180 = .ok (.iload_n 2, 1) := by decide +kernel
theorem dX10_isClear_181 : decode cX10_isClear 181 = .ok (.if_icmp .ge 7, 3) := by decide +kernel
theorem dX10_isClear_184 : decode cX10_isClear 184 = .ok (.iconst 1, 1) := by decide +kernel
theorem dX10_isClear_185 : decode cX10_isClear 185 = .ok (.goto 4, 3) := by decide +kernel
theorem dX10_isClear_188 : decode cX10_isClear 188 = .ok (.iconst 0, 1) := by decide +kernel
theorem dX10_isClear_189 : decode cX10_isClear 189 = .ok (.istore 6, 2) := by decide +kernel
theorem dX10_isClear_191 : decode cX10_isClear 191 = .ok (.iinc 7 1, 3) := by decide +kernel
theorem dX10_isClear_194 : decode cX10_isClear 194 = .ok (.goto (-112), 3) := by decide +kernel
theorem dX10_isClear_197 : decode cX10_isClear 197 = .ok (.iload 6, 2) := by decide +kernel
theorem dX10_isClear_199 : decode cX10_isClear 199 = .ok (.ireturn, 1) := by decide +kernel
theorem dX10_findTitle_0 : decode cX10_findTitle 0 = .ok (.aload_n 0, 1) := by decide +kernel
theorem dX10_findTitle_1 : decode cX10_findTitle 1 = .ok (.iconst 0, 1) := by decide +kernel
theorem dX10_findTitle_2 : decode cX10_findTitle 2 = .ok (.putfield 196, 3) := by decide +kernel
theorem dX10_findTitle_5 : decode cX10_findTitle 5 = .ok (.aload_n 0, 1) := by decide +kernel
theorem dX10_findTitle_6 : decode cX10_findTitle 6 = .ok (.getfield 7, 3) := by decide +kernel
theorem dX10_findTitle_9 : decode cX10_findTitle 9 = .ok (.bipush 12, 2) := by decide +kernel
theorem dX10_findTitle_11 : decode cX10_findTitle 11 = .ok (.iaload, 1) := by decide +kernel
theorem dX10_findTitle_12 : decode cX10_findTitle 12 = .ok (.istore_n 1, 1) := by decide +kernel
theorem dX10_findTitle_13 : decode cX10_findTitle 13 = .ok (.iload_n 1, 1) := by decide +kernel
theorem dX10_findTitle_14 : decode cX10_findTitle 14 = .ok (.ifCond .lt 91, 3) := by decide +kernel
theorem dX10_findTitle_17 : decode cX10_findTitle 17 = .ok (.aload_n 0, 1) := by decide +kernel
theorem dX10_findTitle_18 : decode cX10_findTitle 18 = .ok (.getfield 7, 3) := by decide +kernel
theorem dX10_findTitle_21 : decode cX10_findTitle 21 = .ok (.bipush 13, 2) := by decide +kernel
theorem dX10_findTitle_23 : decode cX10_findTitle 23 = .ok (.iaload, 1) := by decide +kernel
theorem dX10_findTitle_24 : decode cX10_findTitle 24 = .ok (.ifCond .le 81, 3) := by decide +kernel
theorem dX10_findTitle_27 : decode cX10_findTitle 27 = .ok (.aload_n 0, 1) := by decide +kernel
theorem dX10_findTitle_28 : decode cX10_findTitle 28 = .ok (.getfield 196, 3) := by decide +kernel
theorem dX10_findTitle_31 : decode cX10_findTitle 31 = .ok (.ifCond .ne 74, 3) := by decide +kernel
theorem dX10_findTitle_34 : decode cX10_findTitle 34 = .ok (.iconst 0, 1) := by decide +kernel
theorem dX10_findTitle_35 : decode cX10_findTitle 35 = .ok (.istore_n 2, 1) := by decide +kernel
theorem dX10_findTitle_36 : decode cX10_findTitle 36 = .ok (.iload_n 2, 1) := by decide +kernel
theorem dX10_findTitle_37 : decode cX10_findTitle 37 = .ok (.aload_n 0, 1) := by decide +kernel
theorem dX10_findTitle_38 : decode cX10_findTitle 38 = .ok (.getfield 7, 3) := by decide +kernel
theorem dX10_findTitle_41 : decode cX10_findTitle 41 = .ok (.bipush 6, 2) := by decide +kernel
theorem dX10_findTitle_43 : decode cX10_findTitle 43 = .ok (.iaload, 1) := by decide +kernel
theorem dX10_findTitle_44 : decode cX10_findTitle 44 = .ok (.if_icmp .gt 55, 3) := by decide +kernel
theorem dX10_findTitle_47 : decode cX10_findTitle 47 = .ok (.aload_n 0, 1) := by decide +kernel
theorem dX10_findTitle_48 : decode cX10_findTitle 48 = .ok (.getfield 196, 3) := by decide +kernel
theorem dX10_findTitle_51 : decode cX10_findTitle 51 = .ok (.ifCond .ne 48, 3) := by decide +kernel
theorem dX10_findTitle_54 : decode cX10_findTitle 54 = .ok (.aload_n 0, 1) := by decide +kernel
theorem dX10_findTitle_55 : decode cX10_findTitle 55 = .ok (.aload_n 0, 1) := by decide +kernel
theorem dX10_findTitle_56 : decode cX10_findTitle 56 = .ok (.iload_n 1, 1) := by decide +kernel
theorem dX10_findTitle_57 : decode cX10_findTitle 57 = .ok (.iload_n 2, 1) := by decide +kernel
theorem dX10_findTitle_58 : decode cX10_findTitle 58 = .ok (.iconst 1, 1) := by decide +kernel
theorem dX10_findTitle_59 : decode cX10_findTitle 59 = .ok (.invokevirtual 200, 3) := by decide +kernel
theorem dX10_findTitle_62 : decode cX10_findTitle 62 = .ok (.ifCond .eq 17, 3) := by decide +kernel
theorem dX10_findTitle_65 : decode cX10_findTitle 65 = .ok (.aload_n 0, 1) := by decide +kernel
theorem dX10_findTitle_66 : decode cX10_findTitle 66 = .ok (.iload_n 1, 1) := by decide +kernel
theorem dX10_findTitle_67 : decode cX10_findTitle 67 = .ok (.iload_n 2, 1) := by decide +kernel
theorem dX10_findTitle_68 : decode cX10_findTitle 68 = .ok (.iconst 0, 1) := by decide +kernel
theorem dX10_findTitle_69 : decode cX10_findTitle 69 = .ok (.invokevirtual 200, 3) := by decide +kernel
theorem dX10_findTitle_72 : decode cX10_findTitle 72 = .ok (.ifCond .eq 7, 3) := by decide +kernel
theorem dX10_findTitle_75 : decode cX10_findTitle 75 = .ok (.iconst 1, 1) := by decide +kernel
theorem dX10_findTitle_76 : decode cX10_findTitle 76 = .ok (.goto 4, 3) := by decide +kernel
theorem dX10_findTitle_79 : decode cX10_findTitle 79 = .ok (.iconst 0, 1) := by decide +kernel
theorem dX10_findTitle_80 : decode cX10_findTitle 80 = .ok (.putfield 196, 3) := by decide +kernel
theorem dX10_findTitle_83 : decode cX10_findTitle 83 = .ok (.aload_n 0, 1) := by decide +kernel
theorem dX10_findTitle_84 : decode cX10_findTitle 84 = .ok (.iload_n 1, 1) := by decide +kernel
theorem dX10_findTitle_85 : decode cX10_findTitle 85 = .ok (.putfield 204, 3) := by decide +kernel
theorem dX10_findTitle_88 : decode cX10_findTitle 88 = .ok (.aload_n 0, 1) := by decide +kernel
theorem dX10_findTitle_89 : decode cX10_findTitle 89 = .ok (.iload_n 2, 1) := by decide +kernel
theorem dX10_findTitle_90 : decode cX10_findTitle 90 = .ok (.putfield 207, 3) := by decide +kernel
theorem dX10_findTitle_93 : decode cX10_findTitle 93 = .ok (.iinc 2 1, 3) := by decide +kernel
theorem dX10_findTitle_96 : decode cX10_findTitle 96 = .ok (.goto (-60), 3) := by decide +kernel
theorem dX10_findTitle_99 : decode cX10_findTitle 99 = .ok (.iinc 1 (-1), 3) := by decide +kernel
theorem dX10_findTitle_102 : decode cX10_findTitle 102 = .ok (.goto (-89), 3) := by decide +kernel
theorem dX10_findTitle_105 : decode cX10_findTitle 105 = .ok (.return_, 1) := by decide +kernel
theorem dX10_survey_0 : decode cX10_survey 0 = .ok (.aload_n 0, 1) := by decide +kernel
theorem dX10_survey_1 : decode cX10_survey 1 = .ok (.invokevirtual 210, 3) := by decide +kernel
theorem dX10_survey_4 : decode cX10_survey 4 = .ok (.aload_n 0, 1) := by decide +kernel
theorem dX10_survey_5 : decode cX10_survey 5 = .ok (.aload_n 0, 1) := by decide +kernel
theorem dX10_survey_6 : decode cX10_survey 6 = .ok (.aload_n 0, 1) := by decide +kernel
theorem dX10_survey_7 : decode cX10_survey 7 = .ok (.getfield 7, 3) := by decide +kernel
theorem dX10_survey_10 : decode cX10_survey 10 = .ok (.iconst 5, 1) := by decide +kernel
theorem dX10_survey_11 : decode cX10_survey 11 = .ok (.iaload, 1) := by decide +kernel
theorem dX10_survey_12 : decode cX10_survey 12 = .ok (.aload_n 0, 1) := by decide +kernel
theorem dX10_survey_13 : decode cX10_survey 13 = .ok (.getfield 7, 3) := by decide +kernel
theorem dX10_survey_16 : decode cX10_survey 16 = .ok (.bipush 6, 2) := by decide +kernel
theorem dX10_survey_18 : decode cX10_survey 18 = .ok (.iaload, 1) := by decide +kernel
theorem dX10_survey_19 : decode cX10_survey 19 = .ok (.invokevirtual 213, 3) := by decide +kernel
theorem dX10_survey_22 : decode cX10_survey 22 = .ok (.putfield 216, 3) := by decide +kernel
theorem dX10_survey_25 : decode cX10_survey 25 = .ok (.iconst 0, 1) := by decide +kernel
theorem dX10_survey_26 : decode cX10_survey 26 = .ok (.istore_n 1, 1) := by decide +kernel
theorem dX10_survey_27 : decode cX10_survey 27 = .ok (.iload_n 1, 1) := by decide +kernel
theorem dX10_survey_28 : decode cX10_survey 28 = .ok (.aload_n 0, 1) := by decide +kernel
theorem dX10_survey_29 : decode cX10_survey 29 = .ok (.getfield 7, 3) := by decide +kernel
theorem dX10_survey_32 : decode cX10_survey 32 = .ok (.iconst 2, 1) := by decide +kernel
theorem dX10_survey_33 : decode cX10_survey 33 = .ok (.iaload, 1) := by decide +kernel
theorem dX10_survey_34 : decode cX10_survey 34 = .ok (.if_icmp .ge 30, 3) := by decide +kernel
theorem dX10_survey_37 : decode cX10_survey 37 = .ok (.aload_n 0, 1) := by decide +kernel
theorem dX10_survey_38 : decode cX10_survey 38 = .ok (.getfield 34, 3) := by decide +kernel
theorem dX10_survey_41 : decode cX10_survey 41 = .ok (.iload_n 1, 1) := by decide +kernel
theorem dX10_survey_42 : decode cX10_survey 42 = .ok (.aload_n 0, 1) := by decide +kernel
theorem dX10_survey_43 : decode cX10_survey 43 = .ok (.iload_n 1, 1) := by decide +kernel
theorem dX10_survey_44 : decode cX10_survey 44 = .ok (.invokevirtual 154, 3) := by decide +kernel
theorem dX10_survey_47 : decode cX10_survey 47 = .ok (.aload_n 0, 1) := by decide +kernel
theorem dX10_survey_48 : decode cX10_survey 48 = .ok (.getfield 216, 3) := by decide +kernel
theorem dX10_survey_51 : decode cX10_survey 51 = .ok (.imul, 1) := by decide +kernel
theorem dX10_survey_52 : decode cX10_survey 52 = .ok (.bipush 100, 2) := by decide +kernel
theorem dX10_survey_54 : decode cX10_survey 54 = .ok (.invokestatic 151, 3) := by decide +kernel
theorem dX10_survey_57 : decode cX10_survey 57 = .ok (.iastore, 1) := by decide +kernel
theorem dX10_survey_58 : decode cX10_survey 58 = .ok (.iinc 1 1, 3) := by decide +kernel
theorem dX10_survey_61 : decode cX10_survey 61 = .ok (.goto (-34), 3) := by decide +kernel
theorem dX10_survey_64 : decode cX10_survey 64 = .ok (.aload_n 0, 1) := by decide +kernel
theorem dX10_survey_65 : decode cX10_survey 65 = .ok (.invokevirtual 219, 3) := by decide +kernel
theorem dX10_survey_68 : decode cX10_survey 68 = .ok (.aload_n 0, 1) := by decide +kernel
theorem dX10_survey_69 : decode cX10_survey 69 = .ok (.aload_n 0, 1) := by decide +kernel
theorem dX10_survey_70 : decode cX10_survey 70 = .ok (.iconst 1, 1) := by decide +kernel
theorem dX10_survey_71 : decode cX10_survey 71 = .ok (.invokevirtual 222, 3) := by decide +kernel
theorem dX10_survey_74 : decode cX10_survey 74 = .ok (.putfield 190, 3) := by decide +kernel
theorem dX10_survey_77 : decode cX10_survey 77 = .ok (.aload_n 0, 1) := by decide +kernel
theorem dX10_survey_78 : decode cX10_survey 78 = .ok (.aload_n 0, 1) := by decide +kernel
theorem dX10_survey_79 : decode cX10_survey 79 = .ok (.iconst 0, 1) := by decide +kernel
theorem dX10_survey_80 : decode cX10_survey 80 = .ok (.invokevirtual 222, 3) := by decide +kernel
theorem dX10_survey_83 : decode cX10_survey 83 = .ok (.putfield 193, 3) := by decide +kernel
theorem dX10_survey_86 : decode cX10_survey 86 = .ok (.aload_n 0, 1) := by decide +kernel
theorem dX10_survey_87 : decode cX10_survey 87 = .ok (.invokevirtual 226, 3) := by decide +kernel
theorem dX10_survey_90 : decode cX10_survey 90 = .ok (.return_, 1) := by decide +kernel
theorem dX10_inside_0 : decode cX10_inside 0 = .ok (.iconst 0, 1) := by decide +kernel
theorem dX10_inside_1 : decode cX10_inside 1 = .ok (.istore_n 2, 1) := by decide +kernel
theorem dX10_inside_2 : decode cX10_inside 2 = .ok (.iconst 0, 1) := by decide +kernel
theorem dX10_inside_3 : decode cX10_inside 3 = .ok (.istore_n 3, 1) := by decide +kernel
theorem dX10_inside_4 : decode cX10_inside 4 = .ok (.iload_n 3, 1) := by decide +kernel
theorem dX10_inside_5 : decode cX10_inside 5 = .ok (.aload_n 0, 1) := by decide +kernel
theorem dX10_inside_6 : decode cX10_inside 6 = .ok (.getfield 7, 3) := by decide +kernel
theorem dX10_inside_9 : decode cX10_inside 9 = .ok (.iconst 2, 1) := by decide +kernel
theorem dX10_inside_10 : decode cX10_inside 10 = .ok (.iaload, 1) := by decide +kernel
theorem dX10_inside_11 : decode cX10_inside 11 = .ok (.if_icmp .ge 27, 3) := by decide +kernel
theorem dX10_inside_14 : decode cX10_inside 14 = .ok (.iload_n 2, 1) := by decide +kernel
theorem dX10_inside_15 : decode cX10_inside 15 = .ok (.aload_n 0, 1) := by decide +kernel
theorem dX10_inside_16 : decode cX10_inside 16 = .ok (.iload_n 3, 1) := by decide +kernel
theorem dX10_inside_17 : decode cX10_inside 17 = .ok (.iconst 0, 1) := by decide +kernel
theorem dX10_inside_18 : decode cX10_inside 18 = .ok (.invokevirtual 62, 3) := by decide +kernel
theorem dX10_inside_21 : decode cX10_inside 21 = .ok (.iload_n 1, 1) := by decide +kernel
theorem dX10_inside_22 : decode cX10_inside 22 = .ok (.if_icmp .ne 7, 3) := by decide +kernel
theorem dX10_inside_25 : decode cX10_inside 25 = .ok (.iconst 1, 1) := by decide +kernel
theorem dX10_inside_26 : decode cX10_inside 26 = .ok (.goto 4, 3) := by decide +kernel
theorem dX10_inside_29 : decode cX10_inside 29 = .ok (.iconst 0, 1) := by decide +kernel
theorem dX10_inside_30 : decode cX10_inside 30 = .ok (.iadd, 1) := by decide +kernel
theorem dX10_inside_31 : decode cX10_inside 31 = .ok (.istore_n 2, 1) := by decide +kernel
theorem dX10_inside_32 : decode cX10_inside 32 = .ok (.iinc 3 1, 3) := by decide +kernel
theorem dX10_inside_35 : decode cX10_inside 35 = .ok (.goto (-31), 3) := by decide +kernel
theorem dX10_inside_38 : decode cX10_inside 38 = .ok (.iload_n 2, 1) := by decide +kernel
theorem dX10_inside_39 : decode cX10_inside 39 = .ok (.ireturn, 1) := by decide +kernel
theorem dX10_boxOf_0 : decode cX10_boxOf 0 = .ok (.iload_n 2, 1) := by decide +kernel
theorem dX10_boxOf_1 : decode cX10_boxOf 1 = .ok (.tableswitch 57 9 13 #[35, 35, 35, 44, 50], 35) := by decide +kernel
theorem dX10_boxOf_36 : decode cX10_boxOf 36 = .ok (.aload_n 0, 1) := by decide +kernel
theorem dX10_boxOf_37 : decode cX10_boxOf 37 = .ok (.iload_n 1, 1) := by decide +kernel
theorem dX10_boxOf_38 : decode cX10_boxOf 38 = .ok (.iload_n 2, 1) := by decide +kernel
theorem dX10_boxOf_39 : decode cX10_boxOf 39 = .ok (.iconst 5, 1) := by decide +kernel
theorem dX10_boxOf_40 : decode cX10_boxOf 40 = .ok (.isub, 1) := by decide +kernel
theorem dX10_boxOf_41 : decode cX10_boxOf 41 = .ok (.invokevirtual 62, 3) := by decide +kernel
theorem dX10_boxOf_44 : decode cX10_boxOf 44 = .ok (.ireturn, 1) := by decide +kernel
theorem dX10_boxOf_45 : decode cX10_boxOf 45 = .ok (.aload_n 0, 1) := by decide +kernel
theorem dX10_boxOf_46 : decode cX10_boxOf 46 = .ok (.iload_n 1, 1) := by decide +kernel
theorem dX10_boxOf_47 : decode cX10_boxOf 47 = .ok (.invokevirtual 154, 3) := by decide +kernel
theorem dX10_boxOf_50 : decode cX10_boxOf 50 = .ok (.ireturn, 1) := by decide +kernel
theorem dX10_boxOf_51 : decode cX10_boxOf 51 = .ok (.aload_n 0, 1) := by decide +kernel
theorem dX10_boxOf_52 : decode cX10_boxOf 52 = .ok (.getfield 34, 3) := by decide +kernel
theorem dX10_boxOf_55 : decode cX10_boxOf 55 = .ok (.iload_n 1, 1) := by decide +kernel
theorem dX10_boxOf_56 : decode cX10_boxOf 56 = .ok (.iaload, 1) := by decide +kernel
theorem dX10_boxOf_57 : decode cX10_boxOf 57 = .ok (.ireturn, 1) := by decide +kernel
theorem dX10_boxOf_58 : decode cX10_boxOf 58 = .ok (.aload_n 0, 1) := by decide +kernel
theorem dX10_boxOf_59 : decode cX10_boxOf 59 = .ok (.iload_n 1, 1) := by decide +kernel
theorem dX10_boxOf_60 : decode cX10_boxOf 60 = .ok (.iload_n 2, 1) := by decide +kernel
theorem dX10_boxOf_61 : decode cX10_boxOf 61 = .ok (.bipush 14, 2) := by decide +kernel
theorem dX10_boxOf_63 : decode cX10_boxOf 63 = .ok (.if_icmp .ne 7, 3) := by decide +kernel
theorem dX10_boxOf_66 : decode cX10_boxOf 66 = .ok (.iconst 1, 1) := by decide +kernel
theorem dX10_boxOf_67 : decode cX10_boxOf 67 = .ok (.goto 4, 3) := by decide +kernel
theorem dX10_boxOf_70 : decode cX10_boxOf 70 = .ok (.iconst 0, 1) := by decide +kernel
theorem dX10_boxOf_71 : decode cX10_boxOf 71 = .ok (.invokevirtual 170, 3) := by decide +kernel
theorem dX10_boxOf_74 : decode cX10_boxOf 74 = .ok (.ireturn, 1) := by decide +kernel
theorem dX10_nodeOf_0 : decode cX10_nodeOf 0 = .ok (.iload_n 2, 1) := by decide +kernel
theorem dX10_nodeOf_1 : decode cX10_nodeOf 1 = .ok (.tableswitch 91 0 8 #[51, 51, 51, 51, 58, 65, 72, 79, 85], 51) := by decide +kernel
theorem dX10_nodeOf_52 : decode cX10_nodeOf 52 = .ok (.aload_n 0, 1) := by decide +kernel
theorem dX10_nodeOf_53 : decode cX10_nodeOf 53 = .ok (.iload_n 1, 1) := by decide +kernel
theorem dX10_nodeOf_54 : decode cX10_nodeOf 54 = .ok (.iload_n 2, 1) := by decide +kernel
theorem dX10_nodeOf_55 : decode cX10_nodeOf 55 = .ok (.invokevirtual 62, 3) := by decide +kernel
theorem dX10_nodeOf_58 : decode cX10_nodeOf 58 = .ok (.ireturn, 1) := by decide +kernel
theorem dX10_nodeOf_59 : decode cX10_nodeOf 59 = .ok (.aload_n 0, 1) := by decide +kernel
theorem dX10_nodeOf_60 : decode cX10_nodeOf 60 = .ok (.getfield 25, 3) := by decide +kernel
theorem dX10_nodeOf_63 : decode cX10_nodeOf 63 = .ok (.iload_n 1, 1) := by decide +kernel
theorem dX10_nodeOf_64 : decode cX10_nodeOf 64 = .ok (.iaload, 1) := by decide +kernel
theorem dX10_nodeOf_65 : decode cX10_nodeOf 65 = .ok (.ireturn, 1) := by decide +kernel
theorem dX10_nodeOf_66 : decode cX10_nodeOf 66 = .ok (.aload_n 0, 1) := by decide +kernel
theorem dX10_nodeOf_67 : decode cX10_nodeOf 67 = .ok (.getfield 28, 3) := by decide +kernel
theorem dX10_nodeOf_70 : decode cX10_nodeOf 70 = .ok (.iload_n 1, 1) := by decide +kernel
theorem dX10_nodeOf_71 : decode cX10_nodeOf 71 = .ok (.iaload, 1) := by decide +kernel
theorem dX10_nodeOf_72 : decode cX10_nodeOf 72 = .ok (.ireturn, 1) := by decide +kernel
theorem dX10_nodeOf_73 : decode cX10_nodeOf 73 = .ok (.aload_n 0, 1) := by decide +kernel
theorem dX10_nodeOf_74 : decode cX10_nodeOf 74 = .ok (.getfield 31, 3) := by decide +kernel
theorem dX10_nodeOf_77 : decode cX10_nodeOf 77 = .ok (.iload_n 1, 1) := by decide +kernel
theorem dX10_nodeOf_78 : decode cX10_nodeOf 78 = .ok (.iaload, 1) := by decide +kernel
theorem dX10_nodeOf_79 : decode cX10_nodeOf 79 = .ok (.ireturn, 1) := by decide +kernel
theorem dX10_nodeOf_80 : decode cX10_nodeOf 80 = .ok (.aload_n 0, 1) := by decide +kernel
theorem dX10_nodeOf_81 : decode cX10_nodeOf 81 = .ok (.iload_n 1, 1) := by decide +kernel
theorem dX10_nodeOf_82 : decode cX10_nodeOf 82 = .ok (.invokevirtual 85, 3) := by decide +kernel
theorem dX10_nodeOf_85 : decode cX10_nodeOf 85 = .ok (.ireturn, 1) := by decide +kernel
theorem dX10_nodeOf_86 : decode cX10_nodeOf 86 = .ok (.aload_n 0, 1) := by decide +kernel
theorem dX10_nodeOf_87 : decode cX10_nodeOf 87 = .ok (.iload_n 1, 1) := by decide +kernel
theorem dX10_nodeOf_88 : decode cX10_nodeOf 88 = .ok (.invokevirtual 229, 3) := by decide +kernel
theorem dX10_nodeOf_91 : decode cX10_nodeOf 91 = .ok (.ireturn, 1) := by decide +kernel
theorem dX10_nodeOf_92 : decode cX10_nodeOf 92 = .ok (.aload_n 0, 1) := by decide +kernel
theorem dX10_nodeOf_93 : decode cX10_nodeOf 93 = .ok (.iload_n 1, 1) := by decide +kernel
theorem dX10_nodeOf_94 : decode cX10_nodeOf 94 = .ok (.invokevirtual 79, 3) := by decide +kernel
theorem dX10_nodeOf_97 : decode cX10_nodeOf 97 = .ok (.ifCond .eq 12, 3) := by decide +kernel
theorem dX10_nodeOf_100 : decode cX10_nodeOf 100 = .ok (.aload_n 0, 1) := by decide +kernel
theorem dX10_nodeOf_101 : decode cX10_nodeOf 101 = .ok (.iload_n 1, 1) := by decide +kernel
theorem dX10_nodeOf_102 : decode cX10_nodeOf 102 = .ok (.iload_n 2, 1) := by decide +kernel
theorem dX10_nodeOf_103 : decode cX10_nodeOf 103 = .ok (.invokevirtual 232, 3) := by decide +kernel
theorem dX10_nodeOf_106 : decode cX10_nodeOf 106 = .ok (.goto 6, 3) := by decide +kernel
theorem dX10_nodeOf_109 : decode cX10_nodeOf 109 = .ok (.sipush (-1000), 3) := by decide +kernel
theorem dX10_nodeOf_112 : decode cX10_nodeOf 112 = .ok (.ireturn, 1) := by decide +kernel
theorem dX10_node_0 : decode cX10_node 0 = .ok (.aload_n 0, 1) := by decide +kernel
theorem dX10_node_1 : decode cX10_node 1 = .ok (.aload_n 0, 1) := by decide +kernel
theorem dX10_node_2 : decode cX10_node 2 = .ok (.iload_n 1, 1) := by decide +kernel
theorem dX10_node_3 : decode cX10_node 3 = .ok (.invokevirtual 75, 3) := by decide +kernel
theorem dX10_node_6 : decode cX10_node 6 = .ok (.ifCond .ne 7, 3) := by decide +kernel
theorem dX10_node_9 : decode cX10_node 9 = .ok (.iconst 1, 1) := by decide +kernel
theorem dX10_node_10 : decode cX10_node 10 = .ok (.goto 18, 3) := by decide +kernel
theorem dX10_node_13 : decode cX10_node 13 = .ok (.iload_n 2, 1) := by decide +kernel
theorem dX10_node_14 : decode cX10_node 14 = .ok (.iconst 0, 1) := by decide +kernel
theorem dX10_node_15 : decode cX10_node 15 = .ok (.bipush 15, 2) := by decide +kernel
theorem dX10_node_17 : decode cX10_node 17 = .ok (.invokestatic 58, 3) := by decide +kernel
theorem dX10_node_20 : decode cX10_node 20 = .ok (.ifCond .eq 7, 3) := by decide +kernel
theorem dX10_node_23 : decode cX10_node 23 = .ok (.iconst 0, 1) := by decide +kernel
theorem dX10_node_24 : decode cX10_node 24 = .ok (.goto 4, 3) := by decide +kernel
theorem dX10_node_27 : decode cX10_node 27 = .ok (.iconst 2, 1) := by decide +kernel
theorem dX10_node_28 : decode cX10_node 28 = .ok (.putfield 47, 3) := by decide +kernel
theorem dX10_node_31 : decode cX10_node 31 = .ok (.aload_n 0, 1) := by decide +kernel
theorem dX10_node_32 : decode cX10_node 32 = .ok (.getfield 47, 3) := by decide +kernel
theorem dX10_node_35 : decode cX10_node 35 = .ok (.ifCond .eq 5, 3) := by decide +kernel
theorem dX10_node_38 : decode cX10_node 38 = .ok (.iconst 0, 1) := by decide +kernel
theorem dX10_node_39 : decode cX10_node 39 = .ok (.ireturn, 1) := by decide +kernel
theorem dX10_node_40 : decode cX10_node 40 = .ok (.aload_n 0, 1) := by decide +kernel
theorem dX10_node_41 : decode cX10_node 41 = .ok (.invokevirtual 235, 3) := by decide +kernel
theorem dX10_node_44 : decode cX10_node 44 = .ok (.aload_n 0, 1) := by decide +kernel
theorem dX10_node_45 : decode cX10_node 45 = .ok (.iload_n 1, 1) := by decide +kernel
theorem dX10_node_46 : decode cX10_node 46 = .ok (.iload_n 2, 1) := by decide +kernel
theorem dX10_node_47 : decode cX10_node 47 = .ok (.invokevirtual 238, 3) := by decide +kernel
theorem dX10_node_50 : decode cX10_node 50 = .ok (.ireturn, 1) := by decide +kernel
theorem dX10_painted_0 : decode cX10_painted 0 = .ok (.aload_n 0, 1) := by decide +kernel
theorem dX10_painted_1 : decode cX10_painted 1 = .ok (.iload_n 1, 1) := by decide +kernel
theorem dX10_painted_2 : decode cX10_painted 2 = .ok (.ifCond .ge 7, 3) := by decide +kernel
theorem dX10_painted_5 : decode cX10_painted 5 = .ok (.iconst 1, 1) := by decide +kernel
theorem dX10_painted_6 : decode cX10_painted 6 = .ok (.goto 4, 3) := by decide +kernel
theorem dX10_painted_9 : decode cX10_painted 9 = .ok (.iconst 0, 1) := by decide +kernel
theorem dX10_painted_10 : decode cX10_painted 10 = .ok (.putfield 47, 3) := by decide +kernel
theorem dX10_painted_13 : decode cX10_painted 13 = .ok (.aload_n 0, 1) := by decide +kernel
theorem dX10_painted_14 : decode cX10_painted 14 = .ok (.getfield 47, 3) := by decide +kernel
theorem dX10_painted_17 : decode cX10_painted 17 = .ok (.ifCond .eq 5, 3) := by decide +kernel
theorem dX10_painted_20 : decode cX10_painted 20 = .ok (.iconst 0, 1) := by decide +kernel
theorem dX10_painted_21 : decode cX10_painted 21 = .ok (.ireturn, 1) := by decide +kernel
theorem dX10_painted_22 : decode cX10_painted 22 = .ok (.aload_n 0, 1) := by decide +kernel
theorem dX10_painted_23 : decode cX10_painted 23 = .ok (.invokevirtual 235, 3) := by decide +kernel
theorem dX10_painted_26 : decode cX10_painted 26 = .ok (.iload_n 1, 1) := by decide +kernel
theorem dX10_painted_27 : decode cX10_painted 27 = .ok (.aload_n 0, 1) := by decide +kernel
theorem dX10_painted_28 : decode cX10_painted 28 = .ok (.getfield 163, 3) := by decide +kernel
theorem dX10_painted_31 : decode cX10_painted 31 = .ok (.if_icmp .ge 12, 3) := by decide +kernel
