theorem dX1_init_0 : decode cX1_init 0 = .ok (.aload_n 0, 1) := by decide +kernel
theorem dX1_init_1 : decode cX1_init 1 = .ok (.invokespecial 3, 3) := by decide +kernel
theorem dX1_init_4 : decode cX1_init 4 = .ok (.aload_n 0, 1) := by decide +kernel
theorem dX1_init_5 : decode cX1_init 5 = .ok (.iconst 4, 1) := by decide +kernel
theorem dX1_init_6 : decode cX1_init 6 = .ok (.anewarray 9, 3) := by decide +kernel
theorem dX1_init_9 : decode cX1_init 9 = .ok (.putfield 11, 3) := by decide +kernel
theorem dX1_init_12 : decode cX1_init 12 = .ok (.return_, 1) := by decide +kernel
theorem dX1_save_0 : decode cX1_save 0 = .ok (.aload_n 0, 1) := by decide +kernel
theorem dX1_save_1 : decode cX1_save 1 = .ok (.getfield 17, 3) := by decide +kernel
theorem dX1_save_4 : decode cX1_save 4 = .ok (.iconst 4, 1) := by decide +kernel
theorem dX1_save_5 : decode cX1_save 5 = .ok (.if_icmp .lt 7, 3) := by decide +kernel
theorem dX1_save_8 : decode cX1_save 8 = .ok (.aload_n 0, 1) := by decide +kernel
theorem dX1_save_9 : decode cX1_save 9 = .ok (.invokevirtual 21, 3) := by decide +kernel
theorem dX1_save_12 : decode cX1_save 12 = .ok (.aload_n 0, 1) := by decide +kernel
theorem dX1_save_13 : decode cX1_save 13 = .ok (.getfield 17, 3) := by decide +kernel
theorem dX1_save_16 : decode cX1_save 16 = .ok (.ifCond .lt 11, 3) := by decide +kernel
theorem dX1_save_19 : decode cX1_save 19 = .ok (.aload_n 0, 1) := by decide +kernel
theorem dX1_save_20 : decode cX1_save 20 = .ok (.getfield 17, 3) := by decide +kernel
theorem dX1_save_23 : decode cX1_save 23 = .ok (.iconst 4, 1) := by decide +kernel
theorem dX1_save_24 : decode cX1_save 24 = .ok (.if_icmp .lt 4, 3) := by decide +kernel
theorem dX1_save_27 : decode cX1_save 27 = .ok (.return_, 1) := by decide +kernel
theorem dX1_save_28 : decode cX1_save 28 = .ok (.aload_n 0, 1) := by decide +kernel
theorem dX1_save_29 : decode cX1_save 29 = .ok (.getfield 11, 3) := by decide +kernel
theorem dX1_save_32 : decode cX1_save 32 = .ok (.aload_n 0, 1) := by decide +kernel
theorem dX1_save_33 : decode cX1_save 33 = .ok (.getfield 17, 3) := by decide +kernel
theorem dX1_save_36 : decode cX1_save 36 = .ok (.aaload, 1) := by decide +kernel
theorem dX1_save_37 : decode cX1_save 37 = .ok (.astore_n 2, 1) := by decide +kernel
theorem dX1_save_38 : decode cX1_save 38 = .ok (.aload_n 2, 1) := by decide +kernel
theorem dX1_save_39 : decode cX1_save 39 = .ok (.ifnonnull 21, 3) := by decide +kernel
theorem dX1_save_42 : decode cX1_save 42 = .ok (.new 9, 3) := by decide +kernel
theorem dX1_save_45 : decode cX1_save 45 = .ok (.dup, 1) := by decide +kernel
theorem dX1_save_46 : decode cX1_save 46 = .ok (.invokespecial 24, 3) := by decide +kernel
theorem dX1_save_49 : decode cX1_save 49 = .ok (.astore_n 2, 1) := by decide +kernel
theorem dX1_save_50 : decode cX1_save 50 = .ok (.aload_n 0, 1) := by decide +kernel
theorem dX1_save_51 : decode cX1_save 51 = .ok (.getfield 11, 3) := by decide +kernel
theorem dX1_save_54 : decode cX1_save 54 = .ok (.aload_n 0, 1) := by decide +kernel
theorem dX1_save_55 : decode cX1_save 55 = .ok (.getfield 17, 3) := by decide +kernel
theorem dX1_save_58 : decode cX1_save 58 = .ok (.aload_n 2, 1) := by decide +kernel
theorem dX1_save_59 : decode cX1_save 59 = .ok (.aastore, 1) := by decide +kernel
theorem dX1_save_60 : decode cX1_save 60 = .ok (.aload_n 2, 1) := by decide +kernel
theorem dX1_save_61 : decode cX1_save 61 = .ok (.aload_n 1, 1) := by decide +kernel
theorem dX1_save_62 : decode cX1_save 62 = .ok (.invokevirtual 25, 3) := by decide +kernel
theorem dX1_save_65 : decode cX1_save 65 = .ok (.aload_n 0, 1) := by decide +kernel
theorem dX1_save_66 : decode cX1_save 66 = .ok (.dup, 1) := by decide +kernel
theorem dX1_save_67 : decode cX1_save 67 = .ok (.getfield 17, 3) := by decide +kernel
theorem dX1_save_70 : decode cX1_save 70 = .ok (.iconst 1, 1) := by decide +kernel
theorem dX1_save_71 : decode cX1_save 71 = .ok (.iadd, 1) := by decide +kernel
theorem dX1_save_72 : decode cX1_save 72 = .ok (.putfield 17, 3) := by decide +kernel
theorem dX1_save_75 : decode cX1_save 75 = .ok (.return_, 1) := by decide +kernel
theorem dX1_dropOldest_0 : decode cX1_dropOldest 0 = .ok (.aload_n 0, 1) := by decide +kernel
theorem dX1_dropOldest_1 : decode cX1_dropOldest 1 = .ok (.getfield 11, 3) := by decide +kernel
theorem dX1_dropOldest_4 : decode cX1_dropOldest 4 = .ok (.iconst 0, 1) := by decide +kernel
theorem dX1_dropOldest_5 : decode cX1_dropOldest 5 = .ok (.aaload, 1) := by decide +kernel
theorem dX1_dropOldest_6 : decode cX1_dropOldest 6 = .ok (.astore_n 1, 1) := by decide +kernel
theorem dX1_dropOldest_7 : decode cX1_dropOldest 7 = .ok (.iconst 1, 1) := by decide +kernel
theorem dX1_dropOldest_8 : decode cX1_dropOldest 8 = .ok (.istore_n 2, 1) := by decide +kernel
theorem dX1_dropOldest_9 : decode cX1_dropOldest 9 = .ok (.iload_n 2, 1) := by decide +kernel
theorem dX1_dropOldest_10 : decode cX1_dropOldest 10 = .ok (.iconst 4, 1) := by decide +kernel
theorem dX1_dropOldest_11 : decode cX1_dropOldest 11 = .ok (.if_icmp .ge 23, 3) := by decide +kernel
theorem dX1_dropOldest_14 : decode cX1_dropOldest 14 = .ok (.aload_n 0, 1) := by decide +kernel
theorem dX1_dropOldest_15 : decode cX1_dropOldest 15 = .ok (.getfield 11, 3) := by decide +kernel
theorem dX1_dropOldest_18 : decode cX1_dropOldest 18 = .ok (.iload_n 2, 1) := by decide +kernel
theorem dX1_dropOldest_19 : decode cX1_dropOldest 19 = .ok (.iconst 1, 1) := by decide +kernel
theorem dX1_dropOldest_20 : decode cX1_dropOldest 20 = .ok (.isub, 1) := by decide +kernel
theorem dX1_dropOldest_21 : decode cX1_dropOldest 21 = .ok (.aload_n 0, 1) := by decide +kernel
theorem dX1_dropOldest_22 : decode cX1_dropOldest 22 = .ok (.getfield 11, 3) := by decide +kernel
theorem dX1_dropOldest_25 : decode cX1_dropOldest 25 = .ok (.iload_n 2, 1) := by decide +kernel
theorem dX1_dropOldest_26 : decode cX1_dropOldest 26 = .ok (.aaload, 1) := by decide +kernel
theorem dX1_dropOldest_27 : decode cX1_dropOldest 27 = .ok (.aastore, 1) := by decide +kernel
theorem dX1_dropOldest_28 : decode cX1_dropOldest 28 = .ok (.iinc 2 1, 3) := by decide +kernel
theorem dX1_dropOldest_31 : decode cX1_dropOldest 31 = .ok (.goto (-22), 3) := by decide +kernel
theorem dX1_dropOldest_34 : decode cX1_dropOldest 34 = .ok (.aload_n 0, 1) := by decide +kernel
theorem dX1_dropOldest_35 : decode cX1_dropOldest 35 = .ok (.getfield 11, 3) := by decide +kernel
theorem dX1_dropOldest_38 : decode cX1_dropOldest 38 = .ok (.iconst 3, 1) := by decide +kernel
theorem dX1_dropOldest_39 : decode cX1_dropOldest 39 = .ok (.aload_n 1, 1) := by decide +kernel
theorem dX1_dropOldest_40 : decode cX1_dropOldest 40 = .ok (.aastore, 1) := by decide +kernel
theorem dX1_dropOldest_41 : decode cX1_dropOldest 41 = .ok (.aload_n 0, 1) := by decide +kernel
theorem dX1_dropOldest_42 : decode cX1_dropOldest 42 = .ok (.iconst 3, 1) := by decide +kernel
theorem dX1_dropOldest_43 : decode cX1_dropOldest 43 = .ok (.putfield 17, 3) := by decide +kernel
theorem dX1_dropOldest_46 : decode cX1_dropOldest 46 = .ok (.return_, 1) := by decide +kernel
theorem dX1_restore_0 : decode cX1_restore 0 = .ok (.aload_n 0, 1) := by decide +kernel
theorem dX1_restore_1 : decode cX1_restore 1 = .ok (.getfield 17, 3) := by decide +kernel
theorem dX1_restore_4 : decode cX1_restore 4 = .ok (.iconst 1, 1) := by decide +kernel
theorem dX1_restore_5 : decode cX1_restore 5 = .ok (.if_icmp .lt 11, 3) := by decide +kernel
theorem dX1_restore_8 : decode cX1_restore 8 = .ok (.aload_n 0, 1) := by decide +kernel
theorem dX1_restore_9 : decode cX1_restore 9 = .ok (.getfield 17, 3) := by decide +kernel
theorem dX1_restore_12 : decode cX1_restore 12 = .ok (.iconst 4, 1) := by decide +kernel
theorem dX1_restore_13 : decode cX1_restore 13 = .ok (.if_icmp .le 4, 3) := by decide +kernel
theorem dX1_restore_16 : decode cX1_restore 16 = .ok (.return_, 1) := by decide +kernel
theorem dX1_restore_17 : decode cX1_restore 17 = .ok (.aload_n 0, 1) := by decide +kernel
theorem dX1_restore_18 : decode cX1_restore 18 = .ok (.dup, 1) := by decide +kernel
theorem dX1_restore_19 : decode cX1_restore 19 = .ok (.getfield 17, 3) := by decide +kernel
theorem dX1_restore_22 : decode cX1_restore 22 = .ok (.iconst 1, 1) := by decide +kernel
theorem dX1_restore_23 : decode cX1_restore 23 = .ok (.isub, 1) := by decide +kernel
theorem dX1_restore_24 : decode cX1_restore 24 = .ok (.putfield 17, 3) := by decide +kernel
theorem dX1_restore_27 : decode cX1_restore 27 = .ok (.aload_n 0, 1) := by decide +kernel
theorem dX1_restore_28 : decode cX1_restore 28 = .ok (.getfield 11, 3) := by decide +kernel
theorem dX1_restore_31 : decode cX1_restore 31 = .ok (.aload_n 0, 1) := by decide +kernel
theorem dX1_restore_32 : decode cX1_restore 32 = .ok (.getfield 17, 3) := by decide +kernel
theorem dX1_restore_35 : decode cX1_restore 35 = .ok (.aaload, 1) := by decide +kernel
theorem dX1_restore_36 : decode cX1_restore 36 = .ok (.astore_n 2, 1) := by decide +kernel
theorem dX1_restore_37 : decode cX1_restore 37 = .ok (.aload_n 2, 1) := by decide +kernel
theorem dX1_restore_38 : decode cX1_restore 38 = .ok (.ifnull 8, 3) := by decide +kernel
theorem dX1_restore_41 : decode cX1_restore 41 = .ok (.aload_n 1, 1) := by decide +kernel
theorem dX1_restore_42 : decode cX1_restore 42 = .ok (.aload_n 2, 1) := by decide +kernel
theorem dX1_restore_43 : decode cX1_restore 43 = .ok (.invokevirtual 25, 3) := by decide +kernel
theorem dX1_restore_46 : decode cX1_restore 46 = .ok (.return_, 1) := by decide +kernel
theorem dX2_init_0 : decode cX2_init 0 = .ok (.aload_n 0, 1) := by decide +kernel
theorem dX2_init_1 : decode cX2_init 1 = .ok (.invokespecial 3, 3) := by decide +kernel
theorem dX2_init_4 : decode cX2_init 4 = .ok (.aload_n 0, 1) := by decide +kernel
theorem dX2_init_5 : decode cX2_init 5 = .ok (.new 9, 3) := by decide +kernel
theorem dX2_init_8 : decode cX2_init 8 = .ok (.dup, 1) := by decide +kernel
theorem dX2_init_9 : decode cX2_init 9 = .ok (.invokespecial 11, 3) := by decide +kernel
theorem dX2_init_12 : decode cX2_init 12 = .ok (.putfield 12, 3) := by decide +kernel
theorem dX2_init_15 : decode cX2_init 15 = .ok (.aload_n 0, 1) := by decide +kernel
theorem dX2_init_16 : decode cX2_init 16 = .ok (.aload_n 0, 1) := by decide +kernel
theorem dX2_init_17 : decode cX2_init 17 = .ok (.getfield 12, 3) := by decide +kernel
theorem dX2_init_20 : decode cX2_init 20 = .ok (.getfield 18, 3) := by decide +kernel
theorem dX2_init_23 : decode cX2_init 23 = .ok (.putfield 22, 3) := by decide +kernel
theorem dX2_init_26 : decode cX2_init 26 = .ok (.aload_n 0, 1) := by decide +kernel
theorem dX2_init_27 : decode cX2_init 27 = .ok (.bipush 20, 2) := by decide +kernel
theorem dX2_init_29 : decode cX2_init 29 = .ok (.newarray .int, 2) := by decide +kernel
theorem dX2_init_31 : decode cX2_init 31 = .ok (.putfield 23, 3) := by decide +kernel
theorem dX2_init_34 : decode cX2_init 34 = .ok (.aload_n 0, 1) := by decide +kernel
theorem dX2_init_35 : decode cX2_init 35 = .ok (.bipush 20, 2) := by decide +kernel
theorem dX2_init_37 : decode cX2_init 37 = .ok (.newarray .int, 2) := by decide +kernel
theorem dX2_init_39 : decode cX2_init 39 = .ok (.putfield 27, 3) := by decide +kernel
theorem dX2_init_42 : decode cX2_init 42 = .ok (.aload_n 0, 1) := by decide +kernel
theorem dX2_init_43 : decode cX2_init 43 = .ok (.bipush 20, 2) := by decide +kernel
theorem dX2_init_45 : decode cX2_init 45 = .ok (.newarray .int, 2) := by decide +kernel
theorem dX2_init_47 : decode cX2_init 47 = .ok (.putfield 30, 3) := by decide +kernel
theorem dX2_init_50 : decode cX2_init 50 = .ok (.aload_n 0, 1) := by decide +kernel
theorem dX2_init_51 : decode cX2_init 51 = .ok (.bipush 20, 2) := by decide +kernel
theorem dX2_init_53 : decode cX2_init 53 = .ok (.newarray .int, 2) := by decide +kernel
theorem dX2_init_55 : decode cX2_init 55 = .ok (.putfield 33, 3) := by decide +kernel
theorem dX2_init_58 : decode cX2_init 58 = .ok (.aload_n 0, 1) := by decide +kernel
theorem dX2_init_59 : decode cX2_init 59 = .ok (.bipush 20, 2) := by decide +kernel
theorem dX2_init_61 : decode cX2_init 61 = .ok (.newarray .int, 2) := by decide +kernel
theorem dX2_init_63 : decode cX2_init 63 = .ok (.putfield 36, 3) := by decide +kernel
theorem dX2_init_66 : decode cX2_init 66 = .ok (.aload_n 0, 1) := by decide +kernel
theorem dX2_init_67 : decode cX2_init 67 = .ok (.bipush 20, 2) := by decide +kernel
theorem dX2_init_69 : decode cX2_init 69 = .ok (.newarray .int, 2) := by decide +kernel
theorem dX2_init_71 : decode cX2_init 71 = .ok (.putfield 39, 3) := by decide +kernel
theorem dX2_init_74 : decode cX2_init 74 = .ok (.aload_n 0, 1) := by decide +kernel
theorem dX2_init_75 : decode cX2_init 75 = .ok (.bipush 20, 2) := by decide +kernel
theorem dX2_init_77 : decode cX2_init 77 = .ok (.newarray .int, 2) := by decide +kernel
theorem dX2_init_79 : decode cX2_init 79 = .ok (.putfield 42, 3) := by decide +kernel
theorem dX2_init_82 : decode cX2_init 82 = .ok (.return_, 1) := by decide +kernel
theorem dX2_measure_0 : decode cX2_measure 0 = .ok (.aload_n 0, 1) := by decide +kernel
theorem dX2_measure_1 : decode cX2_measure 1 = .ok (.invokevirtual 45, 3) := by decide +kernel
theorem dX2_measure_4 : decode cX2_measure 4 = .ok (.aload_n 0, 1) := by decide +kernel
theorem dX2_measure_5 : decode cX2_measure 5 = .ok (.aload_n 0, 1) := by decide +kernel
theorem dX2_measure_6 : decode cX2_measure 6 = .ok (.aload_n 0, 1) := by decide +kernel
theorem dX2_measure_7 : decode cX2_measure 7 = .ok (.getfield 12, 3) := by decide +kernel
theorem dX2_measure_10 : decode cX2_measure 10 = .ok (.getfield 48, 3) := by decide +kernel
theorem dX2_measure_13 : decode cX2_measure 13 = .ok (.getfield 52, 3) := by decide +kernel
theorem dX2_measure_16 : decode cX2_measure 16 = .ok (.aload_n 0, 1) := by decide +kernel
theorem dX2_measure_17 : decode cX2_measure 17 = .ok (.getfield 12, 3) := by decide +kernel
theorem dX2_measure_20 : decode cX2_measure 20 = .ok (.getfield 48, 3) := by decide +kernel
theorem dX2_measure_23 : decode cX2_measure 23 = .ok (.getfield 58, 3) := by decide +kernel
theorem dX2_measure_26 : decode cX2_measure 26 = .ok (.invokevirtual 61, 3) := by decide +kernel
theorem dX2_measure_29 : decode cX2_measure 29 = .ok (.putfield 65, 3) := by decide +kernel
theorem dX2_measure_32 : decode cX2_measure 32 = .ok (.aload_n 0, 1) := by decide +kernel
theorem dX2_measure_33 : decode cX2_measure 33 = .ok (.iconst 0, 1) := by decide +kernel
theorem dX2_measure_34 : decode cX2_measure 34 = .ok (.putfield 68, 3) := by decide +kernel
theorem dX2_measure_37 : decode cX2_measure 37 = .ok (.iconst 0, 1) := by decide +kernel
theorem dX2_measure_38 : decode cX2_measure 38 = .ok (.istore_n 1, 1) := by decide +kernel
theorem dX2_measure_39 : decode cX2_measure 39 = .ok (.iload_n 1, 1) := by decide +kernel
theorem dX2_measure_40 : decode cX2_measure 40 = .ok (.aload_n 0, 1) := by decide +kernel
theorem dX2_measure_41 : decode cX2_measure 41 = .ok (.getfield 22, 3) := by decide +kernel
theorem dX2_measure_44 : decode cX2_measure 44 = .ok (.getfield 71, 3) := by decide +kernel
theorem dX2_measure_47 : decode cX2_measure 47 = .ok (.if_icmp .ge 109, 3) := by decide +kernel
theorem dX2_measure_50 : decode cX2_measure 50 = .ok (.iload_n 1, 1) := by decide +kernel
theorem dX2_measure_51 : decode cX2_measure 51 = .ok (.bipush 20, 2) := by decide +kernel
theorem dX2_measure_53 : decode cX2_measure 53 = .ok (.if_icmp .ge 103, 3) := by decide +kernel
theorem dX2_measure_56 : decode cX2_measure 56 = .ok (.aload_n 0, 1) := by decide +kernel
theorem dX2_measure_57 : decode cX2_measure 57 = .ok (.getfield 22, 3) := by decide +kernel
theorem dX2_measure_60 : decode cX2_measure 60 = .ok (.iload_n 1, 1) := by decide +kernel
theorem dX2_measure_61 : decode cX2_measure 61 = .ok (.invokevirtual 76, 3) := by decide +kernel
theorem dX2_measure_64 : decode cX2_measure 64 = .ok (.ifCond .eq 86, 3) := by decide +kernel
theorem dX2_measure_67 : decode cX2_measure 67 = .ok (.aload_n 0, 1) := by decide +kernel
theorem dX2_measure_68 : decode cX2_measure 68 = .ok (.getfield 33, 3) := by decide +kernel
theorem dX2_measure_71 : decode cX2_measure 71 = .ok (.iload_n 1, 1) := by decide +kernel
theorem dX2_measure_72 : decode cX2_measure 72 = .ok (.aload_n 0, 1) := by decide +kernel
theorem dX2_measure_73 : decode cX2_measure 73 = .ok (.getfield 12, 3) := by decide +kernel
theorem dX2_measure_76 : decode cX2_measure 76 = .ok (.getfield 80, 3) := by decide +kernel
theorem dX2_measure_79 : decode cX2_measure 79 = .ok (.iconst 0, 1) := by decide +kernel
theorem dX2_measure_80 : decode cX2_measure 80 = .ok (.iaload, 1) := by decide +kernel
theorem dX2_measure_81 : decode cX2_measure 81 = .ok (.aload_n 0, 1) := by decide +kernel
theorem dX2_measure_82 : decode cX2_measure 82 = .ok (.getfield 30, 3) := by decide +kernel
theorem dX2_measure_85 : decode cX2_measure 85 = .ok (.iload_n 1, 1) := by decide +kernel
theorem dX2_measure_86 : decode cX2_measure 86 = .ok (.iaload, 1) := by decide +kernel
theorem dX2_measure_87 : decode cX2_measure 87 = .ok (.invokestatic 83, 3) := by decide +kernel
theorem dX2_measure_90 : decode cX2_measure 90 = .ok (.aload_n 0, 1) := by decide +kernel
theorem dX2_measure_91 : decode cX2_measure 91 = .ok (.getfield 65, 3) := by decide +kernel
theorem dX2_measure_94 : decode cX2_measure 94 = .ok (.imul, 1) := by decide +kernel
theorem dX2_measure_95 : decode cX2_measure 95 = .ok (.bipush 100, 2) := by decide +kernel
theorem dX2_measure_97 : decode cX2_measure 97 = .ok (.invokestatic 86, 3) := by decide +kernel
theorem dX2_measure_100 : decode cX2_measure 100 = .ok (.iastore, 1) := by decide +kernel
theorem dX2_measure_101 : decode cX2_measure 101 = .ok (.aload_n 0, 1) := by decide +kernel
theorem dX2_measure_102 : decode cX2_measure 102 = .ok (.getfield 36, 3) := by decide +kernel
theorem dX2_measure_105 : decode cX2_measure 105 = .ok (.iload_n 1, 1) := by decide +kernel
theorem dX2_measure_106 : decode cX2_measure 106 = .ok (.iconst 1, 1) := by decide +kernel
theorem dX2_measure_107 : decode cX2_measure 107 = .ok (.aload_n 0, 1) := by decide +kernel
theorem dX2_measure_108 : decode cX2_measure 108 = .ok (.getfield 23, 3) := by decide +kernel
theorem dX2_measure_111 : decode cX2_measure 111 = .ok (.iload_n 1, 1) := by decide +kernel
theorem dX2_measure_112 : decode cX2_measure 112 = .ok (.iaload, 1) := by decide +kernel
theorem dX2_measure_113 : decode cX2_measure 113 = .ok (.aload_n 0, 1) := by decide +kernel
theorem dX2_measure_114 : decode cX2_measure 114 = .ok (.getfield 33, 3) := by decide +kernel
theorem dX2_measure_117 : decode cX2_measure 117 = .ok (.iload_n 1, 1) := by decide +kernel
theorem dX2_measure_118 : decode cX2_measure 118 = .ok (.iaload, 1) := by decide +kernel
theorem dX2_measure_119 : decode cX2_measure 119 = .ok (.invokestatic 91, 3) := by decide +kernel
theorem dX2_measure_122 : decode cX2_measure 122 = .ok (.iastore, 1) := by decide +kernel
theorem dX2_measure_123 : decode cX2_measure 123 = .ok (.aload_n 0, 1) := by decide +kernel
theorem dX2_measure_124 : decode cX2_measure 124 = .ok (.getfield 39, 3) := by decide +kernel
theorem dX2_measure_127 : decode cX2_measure 127 = .ok (.iload_n 1, 1) := by decide +kernel
theorem dX2_measure_128 : decode cX2_measure 128 = .ok (.iconst 0, 1) := by decide +kernel
theorem dX2_measure_129 : decode cX2_measure 129 = .ok (.aload_n 0, 1) := by decide +kernel
theorem dX2_measure_130 : decode cX2_measure 130 = .ok (.getfield 23, 3) := by decide +kernel
theorem dX2_measure_133 : decode cX2_measure 133 = .ok (.iload_n 1, 1) := by decide +kernel
theorem dX2_measure_134 : decode cX2_measure 134 = .ok (.iaload, 1) := by decide +kernel
theorem dX2_measure_135 : decode cX2_measure 135 = .ok (.aload_n 0, 1) := by decide +kernel
theorem dX2_measure_136 : decode cX2_measure 136 = .ok (.getfield 33, 3) := by decide +kernel
theorem dX2_measure_139 : decode cX2_measure 139 = .ok (.iload_n 1, 1) := by decide +kernel
theorem dX2_measure_140 : decode cX2_measure 140 = .ok (.iaload, 1) := by decide +kernel
theorem dX2_measure_141 : decode cX2_measure 141 = .ok (.invokestatic 91, 3) := by decide +kernel
theorem dX2_measure_144 : decode cX2_measure 144 = .ok (.iastore, 1) := by decide +kernel
theorem dX2_measure_145 : decode cX2_measure 145 = .ok (.aload_n 0, 1) := by decide +kernel
theorem dX2_measure_146 : decode cX2_measure 146 = .ok (.iload_n 1, 1) := by decide +kernel
theorem dX2_measure_147 : decode cX2_measure 147 = .ok (.invokevirtual 95, 3) := by decide +kernel
theorem dX2_measure_150 : decode cX2_measure 150 = .ok (.iinc 1 1, 3) := by decide +kernel
theorem dX2_measure_153 : decode cX2_measure 153 = .ok (.goto (-114), 3) := by decide +kernel
theorem dX2_measure_156 : decode cX2_measure 156 = .ok (.return_, 1) := by decide +kernel
theorem dX2_placeNodes_0 : decode cX2_placeNodes 0 = .ok (.iconst 0, 1) := by decide +kernel
theorem dX2_placeNodes_1 : decode cX2_placeNodes 1 = .ok (.istore_n 1, 1) := by decide +kernel
theorem dX2_placeNodes_2 : decode cX2_placeNodes 2 = .ok (.iload_n 1, 1) := by decide +kernel
theorem dX2_placeNodes_3 : decode cX2_placeNodes 3 = .ok (.aload_n 0, 1) := by decide +kernel
theorem dX2_placeNodes_4 : decode cX2_placeNodes 4 = .ok (.getfield 22, 3) := by decide +kernel
theorem dX2_placeNodes_7 : decode cX2_placeNodes 7 = .ok (.getfield 71, 3) := by decide +kernel
theorem dX2_placeNodes_10 : decode cX2_placeNodes 10 = .ok (.if_icmp .ge 130, 3) := by decide +kernel
theorem dX2_placeNodes_13 : decode cX2_placeNodes 13 = .ok (.iload_n 1, 1) := by decide +kernel
theorem dX2_placeNodes_14 : decode cX2_placeNodes 14 = .ok (.bipush 20, 2) := by decide +kernel
theorem dX2_placeNodes_16 : decode cX2_placeNodes 16 = .ok (.if_icmp .ge 124, 3) := by decide +kernel
theorem dX2_placeNodes_19 : decode cX2_placeNodes 19 = .ok (.aload_n 0, 1) := by decide +kernel
theorem dX2_placeNodes_20 : decode cX2_placeNodes 20 = .ok (.getfield 22, 3) := by decide +kernel
theorem dX2_placeNodes_23 : decode cX2_placeNodes 23 = .ok (.getfield 99, 3) := by decide +kernel
theorem dX2_placeNodes_26 : decode cX2_placeNodes 26 = .ok (.iload_n 1, 1) := by decide +kernel
theorem dX2_placeNodes_27 : decode cX2_placeNodes 27 = .ok (.iaload, 1) := by decide +kernel
theorem dX2_placeNodes_28 : decode cX2_placeNodes 28 = .ok (.istore_n 2, 1) := by decide +kernel
theorem dX2_placeNodes_29 : decode cX2_placeNodes 29 = .ok (.iload_n 2, 1) := by decide +kernel
theorem dX2_placeNodes_30 : decode cX2_placeNodes 30 = .ok (.ifCond .lt 12, 3) := by decide +kernel
theorem dX2_placeNodes_33 : decode cX2_placeNodes 33 = .ok (.iload_n 2, 1) := by decide +kernel
theorem dX2_placeNodes_34 : decode cX2_placeNodes 34 = .ok (.iload_n 1, 1) := by decide +kernel
theorem dX2_placeNodes_35 : decode cX2_placeNodes 35 = .ok (.if_icmp .ge 7, 3) := by decide +kernel
theorem dX2_placeNodes_38 : decode cX2_placeNodes 38 = .ok (.iconst 1, 1) := by decide +kernel
theorem dX2_placeNodes_39 : decode cX2_placeNodes 39 = .ok (.goto 4, 3) := by decide +kernel
theorem dX2_placeNodes_42 : decode cX2_placeNodes 42 = .ok (.iconst 0, 1) := by decide +kernel
theorem dX2_placeNodes_43 : decode cX2_placeNodes 43 = .ok (.istore_n 3, 1) := by decide +kernel
theorem dX2_placeNodes_44 : decode cX2_placeNodes 44 = .ok (.aload_n 0, 1) := by decide +kernel
theorem dX2_placeNodes_45 : decode cX2_placeNodes 45 = .ok (.getfield 23, 3) := by decide +kernel
theorem dX2_placeNodes_48 : decode cX2_placeNodes 48 = .ok (.iload_n 1, 1) := by decide +kernel
theorem dX2_placeNodes_49 : decode cX2_placeNodes 49 = .ok (.aload_n 0, 1) := by decide +kernel
theorem dX2_placeNodes_50 : decode cX2_placeNodes 50 = .ok (.getfield 22, 3) := by decide +kernel
theorem dX2_placeNodes_53 : decode cX2_placeNodes 53 = .ok (.getfield 102, 3) := by decide +kernel
theorem dX2_placeNodes_56 : decode cX2_placeNodes 56 = .ok (.iload_n 1, 1) := by decide +kernel
theorem dX2_placeNodes_57 : decode cX2_placeNodes 57 = .ok (.iaload, 1) := by decide +kernel
theorem dX2_placeNodes_58 : decode cX2_placeNodes 58 = .ok (.iload_n 3, 1) := by decide +kernel
theorem dX2_placeNodes_59 : decode cX2_placeNodes 59 = .ok (.ifCond .eq 12, 3) := by decide +kernel
theorem dX2_placeNodes_62 : decode cX2_placeNodes 62 = .ok (.aload_n 0, 1) := by decide +kernel
theorem dX2_placeNodes_63 : decode cX2_placeNodes 63 = .ok (.getfield 23, 3) := by decide +kernel
theorem dX2_placeNodes_66 : decode cX2_placeNodes 66 = .ok (.iload_n 2, 1) := by decide +kernel
theorem dX2_placeNodes_67 : decode cX2_placeNodes 67 = .ok (.iaload, 1) := by decide +kernel
theorem dX2_placeNodes_68 : decode cX2_placeNodes 68 = .ok (.goto 4, 3) := by decide +kernel
theorem dX2_placeNodes_71 : decode cX2_placeNodes 71 = .ok (.iconst 0, 1) := by decide +kernel
theorem dX2_placeNodes_72 : decode cX2_placeNodes 72 = .ok (.iadd, 1) := by decide +kernel
theorem dX2_placeNodes_73 : decode cX2_placeNodes 73 = .ok (.iastore, 1) := by decide +kernel
theorem dX2_placeNodes_74 : decode cX2_placeNodes 74 = .ok (.aload_n 0, 1) := by decide +kernel
theorem dX2_placeNodes_75 : decode cX2_placeNodes 75 = .ok (.getfield 27, 3) := by decide +kernel
theorem dX2_placeNodes_78 : decode cX2_placeNodes 78 = .ok (.iload_n 1, 1) := by decide +kernel
theorem dX2_placeNodes_79 : decode cX2_placeNodes 79 = .ok (.aload_n 0, 1) := by decide +kernel
theorem dX2_placeNodes_80 : decode cX2_placeNodes 80 = .ok (.getfield 22, 3) := by decide +kernel
theorem dX2_placeNodes_83 : decode cX2_placeNodes 83 = .ok (.getfield 105, 3) := by decide +kernel
theorem dX2_placeNodes_86 : decode cX2_placeNodes 86 = .ok (.iload_n 1, 1) := by decide +kernel
theorem dX2_placeNodes_87 : decode cX2_placeNodes 87 = .ok (.iaload, 1) := by decide +kernel
theorem dX2_placeNodes_88 : decode cX2_placeNodes 88 = .ok (.iload_n 3, 1) := by decide +kernel
theorem dX2_placeNodes_89 : decode cX2_placeNodes 89 = .ok (.ifCond .eq 12, 3) := by decide +kernel
theorem dX2_placeNodes_92 : decode cX2_placeNodes 92 = .ok (.aload_n 0, 1) := by decide +kernel
theorem dX2_placeNodes_93 : decode cX2_placeNodes 93 = .ok (.getfield 27, 3) := by decide +kernel
theorem dX2_placeNodes_96 : decode cX2_placeNodes 96 = .ok (.iload_n 2, 1) := by decide +kernel
theorem dX2_placeNodes_97 : decode cX2_placeNodes 97 = .ok (.iaload, 1) := by decide +kernel
theorem dX2_placeNodes_98 : decode cX2_placeNodes 98 = .ok (.goto 4, 3) := by decide +kernel
theorem dX2_placeNodes_101 : decode cX2_placeNodes 101 = .ok (.iconst 0, 1) := by decide +kernel
theorem dX2_placeNodes_102 : decode cX2_placeNodes 102 = .ok (.iadd, 1) := by decide +kernel
theorem dX2_placeNodes_103 : decode cX2_placeNodes 103 = .ok (.iastore, 1) := by decide +kernel
theorem dX2_placeNodes_104 : decode cX2_placeNodes 104 = .ok (.aload_n 0, 1) := by decide +kernel
theorem dX2_placeNodes_105 : decode cX2_placeNodes 105 = .ok (.getfield 30, 3) := by decide +kernel
theorem dX2_placeNodes_108 : decode cX2_placeNodes 108 = .ok (.iload_n 1, 1) := by decide +kernel
theorem dX2_placeNodes_109 : decode cX2_placeNodes 109 = .ok (.aload_n 0, 1) := by decide +kernel
theorem dX2_placeNodes_110 : decode cX2_placeNodes 110 = .ok (.getfield 22, 3) := by decide +kernel
theorem dX2_placeNodes_113 : decode cX2_placeNodes 113 = .ok (.getfield 108, 3) := by decide +kernel
theorem dX2_placeNodes_116 : decode cX2_placeNodes 116 = .ok (.iload_n 1, 1) := by decide +kernel
theorem dX2_placeNodes_117 : decode cX2_placeNodes 117 = .ok (.iaload, 1) := by decide +kernel
theorem dX2_placeNodes_118 : decode cX2_placeNodes 118 = .ok (.iload_n 3, 1) := by decide +kernel
theorem dX2_placeNodes_119 : decode cX2_placeNodes 119 = .ok (.ifCond .eq 12, 3) := by decide +kernel
theorem dX2_placeNodes_122 : decode cX2_placeNodes 122 = .ok (.aload_n 0, 1) := by decide +kernel
theorem dX2_placeNodes_123 : decode cX2_placeNodes 123 = .ok (.getfield 30, 3) := by decide +kernel
theorem dX2_placeNodes_126 : decode cX2_placeNodes 126 = .ok (.iload_n 2, 1) := by decide +kernel
theorem dX2_placeNodes_127 : decode cX2_placeNodes 127 = .ok (.iaload, 1) := by decide +kernel
theorem dX2_placeNodes_128 : decode cX2_placeNodes 128 = .ok (.goto 4, 3) := by decide +kernel
theorem dX2_placeNodes_131 : decode cX2_placeNodes 131 = .ok (.iconst 0, 1) := by decide +kernel
theorem dX2_placeNodes_132 : decode cX2_placeNodes 132 = .ok (.iadd, 1) := by decide +kernel
theorem dX2_placeNodes_133 : decode cX2_placeNodes 133 = .ok (.iastore, 1) := by decide +kernel
theorem dX2_placeNodes_134 : decode cX2_placeNodes 134 = .ok (.iinc 1 1, 3) := by decide +kernel
theorem dX2_placeNodes_137 : decode cX2_placeNodes 137 = .ok (.goto (-135), 3) := by decide +kernel
theorem dX2_placeNodes_140 : decode cX2_placeNodes 140 = .ok (.return_, 1) := by decide +kernel
theorem dX2_putInOrder_0 : decode cX2_putInOrder 0 = .ok (.aload_n 0, 1) := by decide +kernel
theorem dX2_putInOrder_1 : decode cX2_putInOrder 1 = .ok (.getfield 68, 3) := by decide +kernel
theorem dX2_putInOrder_4 : decode cX2_putInOrder 4 = .ok (.ifCond .lt 12, 3) := by decide +kernel
theorem dX2_putInOrder_7 : decode cX2_putInOrder 7 = .ok (.aload_n 0, 1) := by decide +kernel
theorem dX2_putInOrder_8 : decode cX2_putInOrder 8 = .ok (.getfield 68, 3) := by decide +kernel
theorem dX2_putInOrder_11 : decode cX2_putInOrder 11 = .ok (.bipush 20, 2) := by decide +kernel
theorem dX2_putInOrder_13 : decode cX2_putInOrder 13 = .ok (.if_icmp .lt 4, 3) := by decide +kernel
theorem dX2_putInOrder_16 : decode cX2_putInOrder 16 = .ok (.return_, 1) := by decide +kernel
theorem dX2_putInOrder_17 : decode cX2_putInOrder 17 = .ok (.aload_n 0, 1) := by decide +kernel
theorem dX2_putInOrder_18 : decode cX2_putInOrder 18 = .ok (.getfield 68, 3) := by decide +kernel
theorem dX2_putInOrder_21 : decode cX2_putInOrder 21 = .ok (.istore_n 2, 1) := by decide +kernel
theorem dX2_putInOrder_22 : decode cX2_putInOrder 22 = .ok (.iload_n 2, 1) := by decide +kernel
theorem dX2_putInOrder_23 : decode cX2_putInOrder 23 = .ok (.ifCond .le 39, 3) := by decide +kernel
theorem dX2_putInOrder_26 : decode cX2_putInOrder 26 = .ok (.aload_n 0, 1) := by decide +kernel
theorem dX2_putInOrder_27 : decode cX2_putInOrder 27 = .ok (.aload_n 0, 1) := by decide +kernel
theorem dX2_putInOrder_28 : decode cX2_putInOrder 28 = .ok (.getfield 42, 3) := by decide +kernel
theorem dX2_putInOrder_31 : decode cX2_putInOrder 31 = .ok (.iload_n 2, 1) := by decide +kernel
theorem dX2_putInOrder_32 : decode cX2_putInOrder 32 = .ok (.iconst 1, 1) := by decide +kernel
theorem dX2_putInOrder_33 : decode cX2_putInOrder 33 = .ok (.isub, 1) := by decide +kernel
theorem dX2_putInOrder_34 : decode cX2_putInOrder 34 = .ok (.iaload, 1) := by decide +kernel
theorem dX2_putInOrder_35 : decode cX2_putInOrder 35 = .ok (.iload_n 1, 1) := by decide +kernel
theorem dX2_putInOrder_36 : decode cX2_putInOrder 36 = .ok (.invokevirtual 111, 3) := by decide +kernel
theorem dX2_putInOrder_39 : decode cX2_putInOrder 39 = .ok (.ifCond .eq 23, 3) := by decide +kernel
theorem dX2_putInOrder_42 : decode cX2_putInOrder 42 = .ok (.aload_n 0, 1) := by decide +kernel
theorem dX2_putInOrder_43 : decode cX2_putInOrder 43 = .ok (.getfield 42, 3) := by decide +kernel
theorem dX2_putInOrder_46 : decode cX2_putInOrder 46 = .ok (.iload_n 2, 1) := by decide +kernel
theorem dX2_putInOrder_47 : decode cX2_putInOrder 47 = .ok (.aload_n 0, 1) := by decide +kernel
theorem dX2_putInOrder_48 : decode cX2_putInOrder 48 = .ok (.getfield 42, 3) := by decide +kernel
theorem dX2_putInOrder_51 : decode cX2_putInOrder 51 = .ok (.iload_n 2, 1) := by decide +kernel
theorem dX2_putInOrder_52 : decode cX2_putInOrder 52 = .ok (.iconst 1, 1) := by decide +kernel
theorem dX2_putInOrder_53 : decode cX2_putInOrder 53 = .ok (.isub, 1) := by decide +kernel
theorem dX2_putInOrder_54 : decode cX2_putInOrder 54 = .ok (.iaload, 1) := by decide +kernel
theorem dX2_putInOrder_55 : decode cX2_putInOrder 55 = .ok (.iastore, 1) := by decide +kernel
theorem dX2_putInOrder_56 : decode cX2_putInOrder 56 = .ok (.iinc 2 (-1), 3) := by decide +kernel
theorem dX2_putInOrder_59 : decode cX2_putInOrder 59 = .ok (.goto (-37), 3) := by decide +kernel
theorem dX2_putInOrder_62 : decode cX2_putInOrder 62 = .ok (.aload_n 0, 1) := by decide +kernel
theorem dX2_putInOrder_63 : decode cX2_putInOrder 63 = .ok (.getfield 42, 3) := by decide +kernel
theorem dX2_putInOrder_66 : decode cX2_putInOrder 66 = .ok (.iload_n 2, 1) := by decide +kernel
theorem dX2_putInOrder_67 : decode cX2_putInOrder 67 = .ok (.iload_n 1, 1) := by decide +kernel
theorem dX2_putInOrder_68 : decode cX2_putInOrder 68 = .ok (.iastore, 1) := by decide +kernel
theorem dX2_putInOrder_69 : decode cX2_putInOrder 69 = .ok (.aload_n 0, 1) := by decide +kernel
theorem dX2_putInOrder_70 : decode cX2_putInOrder 70 = .ok (.dup, 1) := by decide +kernel
theorem dX2_putInOrder_71 : decode cX2_putInOrder 71 = .ok (.getfield 68, 3) := by decide +kernel
theorem dX2_putInOrder_74 : decode cX2_putInOrder 74 = .ok (.iconst 1, 1) := by decide +kernel
theorem dX2_putInOrder_75 : decode cX2_putInOrder 75 = .ok (.iadd, 1) := by decide +kernel
theorem dX2_putInOrder_76 : decode cX2_putInOrder 76 = .ok (.putfield 68, 3) := by decide +kernel
theorem dX2_putInOrder_79 : decode cX2_putInOrder 79 = .ok (.return_, 1) := by decide +kernel
theorem dX2_isNearer_0 : decode cX2_isNearer 0 = .ok (.aload_n 0, 1) := by decide +kernel
theorem dX2_isNearer_1 : decode cX2_isNearer 1 = .ok (.getfield 22, 3) := by decide +kernel
theorem dX2_isNearer_4 : decode cX2_isNearer 4 = .ok (.iload_n 1, 1) := by decide +kernel
theorem dX2_isNearer_5 : decode cX2_isNearer 5 = .ok (.invokevirtual 115, 3) := by decide +kernel
theorem dX2_isNearer_8 : decode cX2_isNearer 8 = .ok (.ifCond .eq 33, 3) := by decide +kernel
theorem dX2_isNearer_11 : decode cX2_isNearer 11 = .ok (.aload_n 0, 1) := by decide +kernel
theorem dX2_isNearer_12 : decode cX2_isNearer 12 = .ok (.getfield 22, 3) := by decide +kernel
theorem dX2_isNearer_15 : decode cX2_isNearer 15 = .ok (.iload_n 2, 1) := by decide +kernel
theorem dX2_isNearer_16 : decode cX2_isNearer 16 = .ok (.invokevirtual 115, 3) := by decide +kernel
theorem dX2_isNearer_19 : decode cX2_isNearer 19 = .ok (.ifCond .eq 22, 3) := by decide +kernel
theorem dX2_isNearer_22 : decode cX2_isNearer 22 = .ok (.aload_n 0, 1) := by decide +kernel
theorem dX2_isNearer_23 : decode cX2_isNearer 23 = .ok (.getfield 33, 3) := by decide +kernel
theorem dX2_isNearer_26 : decode cX2_isNearer 26 = .ok (.iload_n 1, 1) := by decide +kernel
theorem dX2_isNearer_27 : decode cX2_isNearer 27 = .ok (.iaload, 1) := by decide +kernel
theorem dX2_isNearer_28 : decode cX2_isNearer 28 = .ok (.aload_n 0, 1) := by decide +kernel
theorem dX2_isNearer_29 : decode cX2_isNearer 29 = .ok (.getfield 33, 3) := by decide +kernel
theorem dX2_isNearer_32 : decode cX2_isNearer 32 = .ok (.iload_n 2, 1) := by decide +kernel
theorem dX2_isNearer_33 : decode cX2_isNearer 33 = .ok (.iaload, 1) := by decide +kernel
theorem dX2_isNearer_34 : decode cX2_isNearer 34 = .ok (.if_icmp .le 7, 3) := by decide +kernel
theorem dX2_isNearer_37 : decode cX2_isNearer 37 = .ok (.iconst 1, 1) := by decide +kernel
theorem dX2_isNearer_38 : decode cX2_isNearer 38 = .ok (.goto 4, 3) := by decide +kernel
theorem dX2_isNearer_41 : decode cX2_isNearer 41 = .ok (.iconst 0, 1) := by decide +kernel
theorem dX2_isNearer_42 : decode cX2_isNearer 42 = .ok (.ireturn, 1) := by decide +kernel
theorem dX2_rawShift_0 : decode cX2_rawShift 0 = .ok (.iload_n 0, 1) := by decide +kernel
theorem dX2_rawShift_1 : decode cX2_rawShift 1 = .ok (.iload_n 1, 1) := by decide +kernel
theorem dX2_rawShift_2 : decode cX2_rawShift 2 = .ok (.imul, 1) := by decide +kernel
theorem dX2_rawShift_3 : decode cX2_rawShift 3 = .ok (.bipush 100, 2) := by decide +kernel
theorem dX2_rawShift_5 : decode cX2_rawShift 5 = .ok (.invokestatic 86, 3) := by decide +kernel
theorem dX2_rawShift_8 : decode cX2_rawShift 8 = .ok (.ireturn, 1) := by decide +kernel
theorem dX2_fits_0 : decode cX2_fits 0 = .ok (.iconst 0, 1) := by decide +kernel
theorem dX2_fits_1 : decode cX2_fits 1 = .ok (.istore 5, 2) := by decide +kernel
theorem dX2_fits_3 : decode cX2_fits 3 = .ok (.iload 5, 2) := by decide +kernel
theorem dX2_fits_5 : decode cX2_fits 5 = .ok (.aload_n 0, 1) := by decide +kernel
theorem dX2_fits_6 : decode cX2_fits 6 = .ok (.getfield 22, 3) := by decide +kernel
theorem dX2_fits_9 : decode cX2_fits 9 = .ok (.getfield 71, 3) := by decide +kernel
theorem dX2_fits_12 : decode cX2_fits 12 = .ok (.if_icmp .ge 57, 3) := by decide +kernel
theorem dX2_fits_15 : decode cX2_fits 15 = .ok (.iload 5, 2) := by decide +kernel
theorem dX2_fits_17 : decode cX2_fits 17 = .ok (.bipush 20, 2) := by decide +kernel
theorem dX2_fits_19 : decode cX2_fits 19 = .ok (.if_icmp .ge 50, 3) := by decide +kernel
theorem dX2_fits_22 : decode cX2_fits 22 = .ok (.aload_n 0, 1) := by decide +kernel
theorem dX2_fits_23 : decode cX2_fits 23 = .ok (.getfield 22, 3) := by decide +kernel
theorem dX2_fits_26 : decode cX2_fits 26 = .ok (.iload 5, 2) := by decide +kernel
theorem dX2_fits_28 : decode cX2_fits 28 = .ok (.invokevirtual 76, 3) := by decide +kernel
theorem dX2_fits_31 : decode cX2_fits 31 = .ok (.ifCond .eq 32, 3) := by decide +kernel
theorem dX2_fits_34 : decode cX2_fits 34 = .ok (.iload_n 1, 1) := by decide +kernel
theorem dX2_fits_35 : decode cX2_fits 35 = .ok (.aload_n 0, 1) := by decide +kernel
theorem dX2_fits_36 : decode cX2_fits 36 = .ok (.getfield 30, 3) := by decide +kernel
theorem dX2_fits_39 : decode cX2_fits 39 = .ok (.iload 5, 2) := by decide +kernel
theorem dX2_fits_41 : decode cX2_fits 41 = .ok (.iaload, 1) := by decide +kernel
theorem dX2_fits_42 : decode cX2_fits 42 = .ok (.invokestatic 83, 3) := by decide +kernel
theorem dX2_fits_45 : decode cX2_fits 45 = .ok (.iload_n 2, 1) := by decide +kernel
theorem dX2_fits_46 : decode cX2_fits 46 = .ok (.imul, 1) := by decide +kernel
theorem dX2_fits_47 : decode cX2_fits 47 = .ok (.bipush 100, 2) := by decide +kernel
theorem dX2_fits_49 : decode cX2_fits 49 = .ok (.invokestatic 86, 3) := by decide +kernel
theorem dX2_fits_52 : decode cX2_fits 52 = .ok (.iload_n 3, 1) := by decide +kernel
theorem dX2_fits_53 : decode cX2_fits 53 = .ok (.iload 4, 2) := by decide +kernel
theorem dX2_fits_55 : decode cX2_fits 55 = .ok (.invokestatic 118, 3) := by decide +kernel
theorem dX2_fits_58 : decode cX2_fits 58 = .ok (.ifCond .ne 5, 3) := by decide +kernel
theorem dX2_fits_61 : decode cX2_fits 61 = .ok (.iconst 0, 1) := by decide +kernel
theorem dX2_fits_62 : decode cX2_fits 62 = .ok (.ireturn, 1) := by decide +kernel
theorem dX2_fits_63 : decode cX2_fits 63 = .ok (.iinc 5 1, 3) := by decide +kernel
theorem dX2_fits_66 : decode cX2_fits 66 = .ok (.goto (-63), 3) := by decide +kernel
theorem dX2_fits_69 : decode cX2_fits 69 = .ok (.iconst 1, 1) := by decide +kernel
theorem dX2_fits_70 : decode cX2_fits 70 = .ok (.ireturn, 1) := by decide +kernel
theorem dX2_percentageWithin_0 : decode cX2_percentageWithin 0 = .ok (.bipush 100, 2) := by decide +kernel
theorem dX2_percentageWithin_2 : decode cX2_percentageWithin 2 = .ok (.istore_n 3, 1) := by decide +kernel
theorem dX2_percentageWithin_3 : decode cX2_percentageWithin 3 = .ok (.iload_n 3, 1) := by decide +kernel
theorem dX2_percentageWithin_4 : decode cX2_percentageWithin 4 = .ok (.ifCond .le 30, 3) := by decide +kernel
theorem dX2_percentageWithin_7 : decode cX2_percentageWithin 7 = .ok (.aload_n 0, 1) := by decide +kernel
theorem dX2_percentageWithin_8 : decode cX2_percentageWithin 8 = .ok (.aload_n 0, 1) := by decide +kernel
theorem dX2_percentageWithin_9 : decode cX2_percentageWithin 9 = .ok (.getfield 12, 3) := by decide +kernel
theorem dX2_percentageWithin_12 : decode cX2_percentageWithin 12 = .ok (.getfield 80, 3) := by decide +kernel
theorem dX2_percentageWithin_15 : decode cX2_percentageWithin 15 = .ok (.iconst 0, 1) := by decide +kernel
theorem dX2_percentageWithin_16 : decode cX2_percentageWithin 16 = .ok (.iaload, 1) := by decide +kernel
theorem dX2_percentageWithin_17 : decode cX2_percentageWithin 17 = .ok (.iload_n 3, 1) := by decide +kernel
theorem dX2_percentageWithin_18 : decode cX2_percentageWithin 18 = .ok (.iload_n 1, 1) := by decide +kernel
theorem dX2_percentageWithin_19 : decode cX2_percentageWithin 19 = .ok (.iload_n 2, 1) := by decide +kernel
theorem dX2_percentageWithin_20 : decode cX2_percentageWithin 20 = .ok (.invokevirtual 122, 3) := by decide +kernel
theorem dX2_percentageWithin_23 : decode cX2_percentageWithin 23 = .ok (.ifCond .eq 5, 3) := by decide +kernel
theorem dX2_percentageWithin_26 : decode cX2_percentageWithin 26 = .ok (.iload_n 3, 1) := by decide +kernel
theorem dX2_percentageWithin_27 : decode cX2_percentageWithin 27 = .ok (.ireturn, 1) := by decide +kernel
theorem dX2_percentageWithin_28 : decode cX2_percentageWithin 28 = .ok (.iinc 3 (-1), 3) := by decide +kernel
theorem dX2_percentageWithin_31 : decode cX2_percentageWithin 31 = .ok (.goto (-28), 3) := by decide +kernel
theorem dX2_percentageWithin_34 : decode cX2_percentageWithin 34 = .ok (.iconst 0, 1) := by decide +kernel
theorem dX2_percentageWithin_35 : decode cX2_percentageWithin 35 = .ok (.ireturn, 1) := by decide +kernel
theorem dX2_boxAt_0 : decode cX2_boxAt 0 = .ok (.iload_n 1, 1) := by decide +kernel
theorem dX2_boxAt_1 : decode cX2_boxAt 1 = .ok (.ifCond .lt 26, 3) := by decide +kernel
theorem dX2_boxAt_4 : decode cX2_boxAt 4 = .ok (.iload_n 1, 1) := by decide +kernel
theorem dX2_boxAt_5 : decode cX2_boxAt 5 = .ok (.aload_n 0, 1) := by decide +kernel
theorem dX2_boxAt_6 : decode cX2_boxAt 6 = .ok (.getfield 68, 3) := by decide +kernel
theorem dX2_boxAt_9 : decode cX2_boxAt 9 = .ok (.if_icmp .ge 18, 3) := by decide +kernel
theorem dX2_boxAt_12 : decode cX2_boxAt 12 = .ok (.iload_n 1, 1) := by decide +kernel
theorem dX2_boxAt_13 : decode cX2_boxAt 13 = .ok (.bipush 20, 2) := by decide +kernel
theorem dX2_boxAt_15 : decode cX2_boxAt 15 = .ok (.if_icmp .ge 12, 3) := by decide +kernel
theorem dX2_boxAt_18 : decode cX2_boxAt 18 = .ok (.aload_n 0, 1) := by decide +kernel
theorem dX2_boxAt_19 : decode cX2_boxAt 19 = .ok (.getfield 42, 3) := by decide +kernel
theorem dX2_boxAt_22 : decode cX2_boxAt 22 = .ok (.iload_n 1, 1) := by decide +kernel
theorem dX2_boxAt_23 : decode cX2_boxAt 23 = .ok (.iaload, 1) := by decide +kernel
theorem dX2_boxAt_24 : decode cX2_boxAt 24 = .ok (.goto 6, 3) := by decide +kernel
theorem dX2_boxAt_27 : decode cX2_boxAt 27 = .ok (.sipush (-1000), 3) := by decide +kernel
theorem dX2_boxAt_30 : decode cX2_boxAt 30 = .ok (.ireturn, 1) := by decide +kernel
theorem dX2_column_0 : decode cX2_column 0 = .ok (.aload_n 0, 1) := by decide +kernel
theorem dX2_column_1 : decode cX2_column 1 = .ok (.getfield 22, 3) := by decide +kernel
theorem dX2_column_4 : decode cX2_column 4 = .ok (.iload_n 2, 1) := by decide +kernel
theorem dX2_column_5 : decode cX2_column 5 = .ok (.invokevirtual 115, 3) := by decide +kernel
theorem dX2_column_8 : decode cX2_column 8 = .ok (.ifCond .ne 7, 3) := by decide +kernel
theorem dX2_column_11 : decode cX2_column 11 = .ok (.sipush (-1000), 3) := by decide +kernel
theorem dX2_column_14 : decode cX2_column 14 = .ok (.ireturn, 1) := by decide +kernel
theorem dX2_column_15 : decode cX2_column 15 = .ok (.iload_n 1, 1) := by decide +kernel
theorem dX2_column_16 : decode cX2_column 16 = .ok (.ifCond .eq 12, 3) := by decide +kernel
theorem dX2_column_19 : decode cX2_column 19 = .ok (.aload_n 0, 1) := by decide +kernel
theorem dX2_column_20 : decode cX2_column 20 = .ok (.getfield 36, 3) := by decide +kernel
theorem dX2_column_23 : decode cX2_column 23 = .ok (.iload_n 2, 1) := by decide +kernel
theorem dX2_column_24 : decode cX2_column 24 = .ok (.iaload, 1) := by decide +kernel
theorem dX2_column_25 : decode cX2_column 25 = .ok (.goto 9, 3) := by decide +kernel
theorem dX2_column_28 : decode cX2_column 28 = .ok (.aload_n 0, 1) := by decide +kernel
theorem dX2_column_29 : decode cX2_column 29 = .ok (.getfield 39, 3) := by decide +kernel
theorem dX2_column_32 : decode cX2_column 32 = .ok (.iload_n 2, 1) := by decide +kernel
theorem dX2_column_33 : decode cX2_column 33 = .ok (.iaload, 1) := by decide +kernel
theorem dX2_column_34 : decode cX2_column 34 = .ok (.ireturn, 1) := by decide +kernel
theorem dX2_inRow_0 : decode cX2_inRow 0 = .ok (.aload_n 0, 1) := by decide +kernel
theorem dX2_inRow_1 : decode cX2_inRow 1 = .ok (.getfield 22, 3) := by decide +kernel
theorem dX2_inRow_4 : decode cX2_inRow 4 = .ok (.iload_n 1, 1) := by decide +kernel
theorem dX2_inRow_5 : decode cX2_inRow 5 = .ok (.invokevirtual 76, 3) := by decide +kernel
theorem dX2_inRow_8 : decode cX2_inRow 8 = .ok (.ifCond .eq 37, 3) := by decide +kernel
theorem dX2_inRow_11 : decode cX2_inRow 11 = .ok (.aload_n 0, 1) := by decide +kernel
theorem dX2_inRow_12 : decode cX2_inRow 12 = .ok (.getfield 27, 3) := by decide +kernel
theorem dX2_inRow_15 : decode cX2_inRow 15 = .ok (.iload_n 1, 1) := by decide +kernel
theorem dX2_inRow_16 : decode cX2_inRow 16 = .ok (.iaload, 1) := by decide +kernel
theorem dX2_inRow_17 : decode cX2_inRow 17 = .ok (.iload_n 2, 1) := by decide +kernel
theorem dX2_inRow_18 : decode cX2_inRow 18 = .ok (.if_icmp .gt 27, 3) := by decide +kernel
theorem dX2_inRow_21 : decode cX2_inRow 21 = .ok (.iload_n 2, 1) := by decide +kernel
theorem dX2_inRow_22 : decode cX2_inRow 22 = .ok (.aload_n 0, 1) := by decide +kernel
theorem dX2_inRow_23 : decode cX2_inRow 23 = .ok (.getfield 27, 3) := by decide +kernel
theorem dX2_inRow_26 : decode cX2_inRow 26 = .ok (.iload_n 1, 1) := by decide +kernel
theorem dX2_inRow_27 : decode cX2_inRow 27 = .ok (.iaload, 1) := by decide +kernel
theorem dX2_inRow_28 : decode cX2_inRow 28 = .ok (.aload_n 0, 1) := by decide +kernel
theorem dX2_inRow_29 : decode cX2_inRow 29 = .ok (.getfield 22, 3) := by decide +kernel
theorem dX2_inRow_32 : decode cX2_inRow 32 = .ok (.getfield 126, 3) := by decide +kernel
theorem dX2_inRow_35 : decode cX2_inRow 35 = .ok (.iload_n 1, 1) := by decide +kernel
theorem dX2_inRow_36 : decode cX2_inRow 36 = .ok (.iaload, 1) := by decide +kernel
theorem dX2_inRow_37 : decode cX2_inRow 37 = .ok (.iadd, 1) := by decide +kernel
theorem dX2_inRow_38 : decode cX2_inRow 38 = .ok (.if_icmp .ge 7, 3) := by decide +kernel
theorem dX2_inRow_41 : decode cX2_inRow 41 = .ok (.iconst 1, 1) := by decide +kernel
theorem dX2_inRow_42 : decode cX2_inRow 42 = .ok (.goto 4, 3) := by decide +kernel
theorem dX2_inRow_45 : decode cX2_inRow 45 = .ok (.iconst 0, 1) := by decide +kernel
theorem dX2_inRow_46 : decode cX2_inRow 46 = .ok (.ireturn, 1) := by decide +kernel
theorem dX2_inFrame_0 : decode cX2_inFrame 0 = .ok (.aload_n 0, 1) := by decide +kernel
theorem dX2_inFrame_1 : decode cX2_inFrame 1 = .ok (.getfield 22, 3) := by decide +kernel
theorem dX2_inFrame_4 : decode cX2_inFrame 4 = .ok (.iload_n 1, 1) := by decide +kernel
theorem dX2_inFrame_5 : decode cX2_inFrame 5 = .ok (.invokevirtual 76, 3) := by decide +kernel
theorem dX2_inFrame_8 : decode cX2_inFrame 8 = .ok (.ifCond .eq 42, 3) := by decide +kernel
theorem dX2_inFrame_11 : decode cX2_inFrame 11 = .ok (.aload_n 0, 1) := by decide +kernel
theorem dX2_inFrame_12 : decode cX2_inFrame 12 = .ok (.getfield 27, 3) := by decide +kernel
theorem dX2_inFrame_15 : decode cX2_inFrame 15 = .ok (.iload_n 1, 1) := by decide +kernel
theorem dX2_inFrame_16 : decode cX2_inFrame 16 = .ok (.iaload, 1) := by decide +kernel
theorem dX2_inFrame_17 : decode cX2_inFrame 17 = .ok (.aload_n 0, 1) := by decide +kernel
theorem dX2_inFrame_18 : decode cX2_inFrame 18 = .ok (.getfield 12, 3) := by decide +kernel
theorem dX2_inFrame_21 : decode cX2_inFrame 21 = .ok (.getfield 129, 3) := by decide +kernel
theorem dX2_inFrame_24 : decode cX2_inFrame 24 = .ok (.if_icmp .ge 26, 3) := by decide +kernel
theorem dX2_inFrame_27 : decode cX2_inFrame 27 = .ok (.aload_n 0, 1) := by decide +kernel
theorem dX2_inFrame_28 : decode cX2_inFrame 28 = .ok (.getfield 27, 3) := by decide +kernel
theorem dX2_inFrame_31 : decode cX2_inFrame 31 = .ok (.iload_n 1, 1) := by decide +kernel
theorem dX2_inFrame_32 : decode cX2_inFrame 32 = .ok (.iaload, 1) := by decide +kernel
theorem dX2_inFrame_33 : decode cX2_inFrame 33 = .ok (.aload_n 0, 1) := by decide +kernel
theorem dX2_inFrame_34 : decode cX2_inFrame 34 = .ok (.getfield 22, 3) := by decide +kernel
theorem dX2_inFrame_37 : decode cX2_inFrame 37 = .ok (.getfield 126, 3) := by decide +kernel
theorem dX2_inFrame_40 : decode cX2_inFrame 40 = .ok (.iload_n 1, 1) := by decide +kernel
theorem dX2_inFrame_41 : decode cX2_inFrame 41 = .ok (.iaload, 1) := by decide +kernel
theorem dX2_inFrame_42 : decode cX2_inFrame 42 = .ok (.iadd, 1) := by decide +kernel
theorem dX2_inFrame_43 : decode cX2_inFrame 43 = .ok (.ifCond .le 7, 3) := by decide +kernel
theorem dX2_inFrame_46 : decode cX2_inFrame 46 = .ok (.iconst 1, 1) := by decide +kernel
theorem dX2_inFrame_47 : decode cX2_inFrame 47 = .ok (.goto 4, 3) := by decide +kernel
theorem dX2_inFrame_50 : decode cX2_inFrame 50 = .ok (.iconst 0, 1) := by decide +kernel
theorem dX2_inFrame_51 : decode cX2_inFrame 51 = .ok (.ireturn, 1) := by decide +kernel
theorem dX2_frontBox_0 : decode cX2_frontBox 0 = .ok (.aload_n 0, 1) := by decide +kernel
theorem dX2_frontBox_1 : decode cX2_frontBox 1 = .ok (.getfield 68, 3) := by decide +kernel
theorem dX2_frontBox_4 : decode cX2_frontBox 4 = .ok (.iconst 1, 1) := by decide +kernel
theorem dX2_frontBox_5 : decode cX2_frontBox 5 = .ok (.isub, 1) := by decide +kernel
theorem dX2_frontBox_6 : decode cX2_frontBox 6 = .ok (.istore 4, 2) := by decide +kernel
theorem dX2_frontBox_8 : decode cX2_frontBox 8 = .ok (.iload 4, 2) := by decide +kernel
theorem dX2_frontBox_10 : decode cX2_frontBox 10 = .ok (.ifCond .lt 62, 3) := by decide +kernel
theorem dX2_frontBox_13 : decode cX2_frontBox 13 = .ok (.aload_n 0, 1) := by decide +kernel
theorem dX2_frontBox_14 : decode cX2_frontBox 14 = .ok (.iload 4, 2) := by decide +kernel
theorem dX2_frontBox_16 : decode cX2_frontBox 16 = .ok (.invokevirtual 131, 3) := by decide +kernel
theorem dX2_frontBox_19 : decode cX2_frontBox 19 = .ok (.istore 5, 2) := by decide +kernel
theorem dX2_frontBox_21 : decode cX2_frontBox 21 = .ok (.aload_n 0, 1) := by decide +kernel
theorem dX2_frontBox_22 : decode cX2_frontBox 22 = .ok (.iload 5, 2) := by decide +kernel
theorem dX2_frontBox_24 : decode cX2_frontBox 24 = .ok (.iload_n 3, 1) := by decide +kernel
theorem dX2_frontBox_25 : decode cX2_frontBox 25 = .ok (.invokevirtual 135, 3) := by decide +kernel
theorem dX2_frontBox_28 : decode cX2_frontBox 28 = .ok (.ifCond .eq 38, 3) := by decide +kernel
theorem dX2_frontBox_31 : decode cX2_frontBox 31 = .ok (.aload_n 0, 1) := by decide +kernel
theorem dX2_frontBox_32 : decode cX2_frontBox 32 = .ok (.iload_n 1, 1) := by decide +kernel
theorem dX2_frontBox_33 : decode cX2_frontBox 33 = .ok (.iload 5, 2) := by decide +kernel
theorem dX2_frontBox_35 : decode cX2_frontBox 35 = .ok (.invokevirtual 138, 3) := by decide +kernel
theorem dX2_frontBox_38 : decode cX2_frontBox 38 = .ok (.istore 6, 2) := by decide +kernel
theorem dX2_frontBox_40 : decode cX2_frontBox 40 = .ok (.iload 6, 2) := by decide +kernel
theorem dX2_frontBox_42 : decode cX2_frontBox 42 = .ok (.iload_n 2, 1) := by decide +kernel
theorem dX2_frontBox_43 : decode cX2_frontBox 43 = .ok (.if_icmp .gt 23, 3) := by decide +kernel
theorem dX2_frontBox_46 : decode cX2_frontBox 46 = .ok (.iload_n 2, 1) := by decide +kernel
theorem dX2_frontBox_47 : decode cX2_frontBox 47 = .ok (.iload 6, 2) := by decide +kernel
theorem dX2_frontBox_49 : decode cX2_frontBox 49 = .ok (.aload_n 0, 1) := by decide +kernel
theorem dX2_frontBox_50 : decode cX2_frontBox 50 = .ok (.getfield 22, 3) := by decide +kernel
theorem dX2_frontBox_53 : decode cX2_frontBox 53 = .ok (.getfield 142, 3) := by decide +kernel
theorem dX2_frontBox_56 : decode cX2_frontBox 56 = .ok (.iload 5, 2) := by decide +kernel
theorem dX2_frontBox_58 : decode cX2_frontBox 58 = .ok (.iaload, 1) := by decide +kernel
theorem dX2_frontBox_59 : decode cX2_frontBox 59 = .ok (.iadd, 1) := by decide +kernel
theorem dX2_frontBox_60 : decode cX2_frontBox 60 = .ok (.if_icmp .ge 6, 3) := by decide +kernel
theorem dX2_frontBox_63 : decode cX2_frontBox 63 = .ok (.iload 5, 2) := by decide +kernel
theorem dX2_frontBox_65 : decode cX2_frontBox 65 = .ok (.ireturn, 1) := by decide +kernel
theorem dX2_frontBox_66 : decode cX2_frontBox 66 = .ok (.iinc 4 (-1), 3) := by decide +kernel
theorem dX2_frontBox_69 : decode cX2_frontBox 69 = .ok (.goto (-61), 3) := by decide +kernel
theorem dX2_frontBox_72 : decode cX2_frontBox 72 = .ok (.sipush (-1000), 3) := by decide +kernel
theorem dX2_frontBox_75 : decode cX2_frontBox 75 = .ok (.ireturn, 1) := by decide +kernel
theorem dX2_valueOf_0 : decode cX2_valueOf 0 = .ok (.aload_n 0, 1) := by decide +kernel
theorem dX2_valueOf_1 : decode cX2_valueOf 1 = .ok (.getfield 22, 3) := by decide +kernel
theorem dX2_valueOf_4 : decode cX2_valueOf 4 = .ok (.iload_n 1, 1) := by decide +kernel
theorem dX2_valueOf_5 : decode cX2_valueOf 5 = .ok (.invokevirtual 115, 3) := by decide +kernel
theorem dX2_valueOf_8 : decode cX2_valueOf 8 = .ok (.ifCond .eq 20, 3) := by decide +kernel
theorem dX2_valueOf_11 : decode cX2_valueOf 11 = .ok (.iload_n 2, 1) := by decide +kernel
theorem dX2_valueOf_12 : decode cX2_valueOf 12 = .ok (.bipush 9, 2) := by decide +kernel
theorem dX2_valueOf_14 : decode cX2_valueOf 14 = .ok (.if_icmp .lt 18, 3) := by decide +kernel
theorem dX2_valueOf_17 : decode cX2_valueOf 17 = .ok (.aload_n 0, 1) := by decide +kernel
theorem dX2_valueOf_18 : decode cX2_valueOf 18 = .ok (.getfield 22, 3) := by decide +kernel
theorem dX2_valueOf_21 : decode cX2_valueOf 21 = .ok (.iload_n 1, 1) := by decide +kernel
theorem dX2_valueOf_22 : decode cX2_valueOf 22 = .ok (.invokevirtual 76, 3) := by decide +kernel
theorem dX2_valueOf_25 : decode cX2_valueOf 25 = .ok (.ifCond .ne 7, 3) := by decide +kernel
theorem dX2_valueOf_28 : decode cX2_valueOf 28 = .ok (.sipush (-1000), 3) := by decide +kernel
theorem dX2_valueOf_31 : decode cX2_valueOf 31 = .ok (.ireturn, 1) := by decide +kernel
theorem dX2_valueOf_32 : decode cX2_valueOf 32 = .ok (.iload_n 2, 1) := by decide +kernel
theorem dX2_valueOf_33 : decode cX2_valueOf 33 = .ok (.tableswitch 218 0 14 #[75, 85, 95, 105, 115, 122, 129, 136, 146, 155, 165, 175, 185, 204, 211], 75) := by decide +kernel
theorem dX2_valueOf_108 : decode cX2_valueOf 108 = .ok (.aload_n 0, 1) := by decide +kernel
theorem dX2_valueOf_109 : decode cX2_valueOf 109 = .ok (.getfield 22, 3) := by decide +kernel
theorem dX2_valueOf_112 : decode cX2_valueOf 112 = .ok (.getfield 99, 3) := by decide +kernel
theorem dX2_valueOf_115 : decode cX2_valueOf 115 = .ok (.iload_n 1, 1) := by decide +kernel
theorem dX2_valueOf_116 : decode cX2_valueOf 116 = .ok (.iaload, 1) := by decide +kernel
theorem dX2_valueOf_117 : decode cX2_valueOf 117 = .ok (.ireturn, 1) := by decide +kernel
theorem dX2_valueOf_118 : decode cX2_valueOf 118 = .ok (.aload_n 0, 1) := by decide +kernel
theorem dX2_valueOf_119 : decode cX2_valueOf 119 = .ok (.getfield 22, 3) := by decide +kernel
theorem dX2_valueOf_122 : decode cX2_valueOf 122 = .ok (.getfield 102, 3) := by decide +kernel
theorem dX2_valueOf_125 : decode cX2_valueOf 125 = .ok (.iload_n 1, 1) := by decide +kernel
theorem dX2_valueOf_126 : decode cX2_valueOf 126 = .ok (.iaload, 1) := by decide +kernel
theorem dX2_valueOf_127 : decode cX2_valueOf 127 = .ok (.ireturn, 1) := by decide +kernel
theorem dX2_valueOf_128 : decode cX2_valueOf 128 = .ok (.aload_n 0, 1) := by decide +kernel
theorem dX2_valueOf_129 : decode cX2_valueOf 129 = .ok (.getfield 22, 3) := by decide +kernel
theorem dX2_valueOf_132 : decode cX2_valueOf 132 = .ok (.getfield 105, 3) := by decide +kernel
theorem dX2_valueOf_135 : decode cX2_valueOf 135 = .ok (.iload_n 1, 1) := by decide +kernel
theorem dX2_valueOf_136 : decode cX2_valueOf 136 = .ok (.iaload, 1) := by decide +kernel
theorem dX2_valueOf_137 : decode cX2_valueOf 137 = .ok (.ireturn, 1) := by decide +kernel
theorem dX2_valueOf_138 : decode cX2_valueOf 138 = .ok (.aload_n 0, 1) := by decide +kernel
theorem dX2_valueOf_139 : decode cX2_valueOf 139 = .ok (.getfield 22, 3) := by decide +kernel
theorem dX2_valueOf_142 : decode cX2_valueOf 142 = .ok (.getfield 108, 3) := by decide +kernel
theorem dX2_valueOf_145 : decode cX2_valueOf 145 = .ok (.iload_n 1, 1) := by decide +kernel
theorem dX2_valueOf_146 : decode cX2_valueOf 146 = .ok (.iaload, 1) := by decide +kernel
theorem dX2_valueOf_147 : decode cX2_valueOf 147 = .ok (.ireturn, 1) := by decide +kernel
theorem dX2_valueOf_148 : decode cX2_valueOf 148 = .ok (.aload_n 0, 1) := by decide +kernel
theorem dX2_valueOf_149 : decode cX2_valueOf 149 = .ok (.getfield 23, 3) := by decide +kernel
theorem dX2_valueOf_152 : decode cX2_valueOf 152 = .ok (.iload_n 1, 1) := by decide +kernel
theorem dX2_valueOf_153 : decode cX2_valueOf 153 = .ok (.iaload, 1) := by decide +kernel
theorem dX2_valueOf_154 : decode cX2_valueOf 154 = .ok (.ireturn, 1) := by decide +kernel
theorem dX2_valueOf_155 : decode cX2_valueOf 155 = .ok (.aload_n 0, 1) := by decide +kernel
theorem dX2_valueOf_156 : decode cX2_valueOf 156 = .ok (.getfield 27, 3) := by decide +kernel
theorem dX2_valueOf_159 : decode cX2_valueOf 159 = .ok (.iload_n 1, 1) := by decide +kernel
theorem dX2_valueOf_160 : decode cX2_valueOf 160 = .ok (.iaload, 1) := by decide +kernel
theorem dX2_valueOf_161 : decode cX2_valueOf 161 = .ok (.ireturn, 1) := by decide +kernel
theorem dX2_valueOf_162 : decode cX2_valueOf 162 = .ok (.aload_n 0, 1) := by decide +kernel
theorem dX2_valueOf_163 : decode cX2_valueOf 163 = .ok (.getfield 30, 3) := by decide +kernel
theorem dX2_valueOf_166 : decode cX2_valueOf 166 = .ok (.iload_n 1, 1) := by decide +kernel
theorem dX2_valueOf_167 : decode cX2_valueOf 167 = .ok (.iaload, 1) := by decide +kernel
theorem dX2_valueOf_168 : decode cX2_valueOf 168 = .ok (.ireturn, 1) := by decide +kernel
theorem dX2_valueOf_169 : decode cX2_valueOf 169 = .ok (.aload_n 0, 1) := by decide +kernel
theorem dX2_valueOf_170 : decode cX2_valueOf 170 = .ok (.getfield 22, 3) := by decide +kernel
theorem dX2_valueOf_173 : decode cX2_valueOf 173 = .ok (.getfield 145, 3) := by decide +kernel
theorem dX2_valueOf_176 : decode cX2_valueOf 176 = .ok (.iload_n 1, 1) := by decide +kernel
theorem dX2_valueOf_177 : decode cX2_valueOf 177 = .ok (.iaload, 1) := by decide +kernel
theorem dX2_valueOf_178 : decode cX2_valueOf 178 = .ok (.ireturn, 1) := by decide +kernel
theorem dX2_valueOf_179 : decode cX2_valueOf 179 = .ok (.aload_n 0, 1) := by decide +kernel
theorem dX2_valueOf_180 : decode cX2_valueOf 180 = .ok (.getfield 22, 3) := by decide +kernel
theorem dX2_valueOf_183 : decode cX2_valueOf 183 = .ok (.iload_n 1, 1) := by decide +kernel
theorem dX2_valueOf_184 : decode cX2_valueOf 184 = .ok (.invokevirtual 148, 3) := by decide +kernel
theorem dX2_valueOf_187 : decode cX2_valueOf 187 = .ok (.ireturn, 1) := by decide +kernel
theorem dX2_valueOf_188 : decode cX2_valueOf 188 = .ok (.aload_n 0, 1) := by decide +kernel
theorem dX2_valueOf_189 : decode cX2_valueOf 189 = .ok (.getfield 22, 3) := by decide +kernel
theorem dX2_valueOf_192 : decode cX2_valueOf 192 = .ok (.getfield 142, 3) := by decide +kernel
theorem dX2_valueOf_195 : decode cX2_valueOf 195 = .ok (.iload_n 1, 1) := by decide +kernel
theorem dX2_valueOf_196 : decode cX2_valueOf 196 = .ok (.iaload, 1) := by decide +kernel
theorem dX2_valueOf_197 : decode cX2_valueOf 197 = .ok (.ireturn, 1) := by decide +kernel
theorem dX2_valueOf_198 : decode cX2_valueOf 198 = .ok (.aload_n 0, 1) := by decide +kernel
theorem dX2_valueOf_199 : decode cX2_valueOf 199 = .ok (.getfield 22, 3) := by decide +kernel
theorem dX2_valueOf_202 : decode cX2_valueOf 202 = .ok (.getfield 126, 3) := by decide +kernel
theorem dX2_valueOf_205 : decode cX2_valueOf 205 = .ok (.iload_n 1, 1) := by decide +kernel
theorem dX2_valueOf_206 : decode cX2_valueOf 206 = .ok (.iaload, 1) := by decide +kernel
theorem dX2_valueOf_207 : decode cX2_valueOf 207 = .ok (.ireturn, 1) := by decide +kernel
theorem dX2_valueOf_208 : decode cX2_valueOf 208 = .ok (.aload_n 0, 1) := by decide +kernel
theorem dX2_valueOf_209 : decode cX2_valueOf 209 = .ok (.getfield 22, 3) := by decide +kernel
theorem dX2_valueOf_212 : decode cX2_valueOf 212 = .ok (.getfield 151, 3) := by decide +kernel
theorem dX2_valueOf_215 : decode cX2_valueOf 215 = .ok (.iload_n 1, 1) := by decide +kernel
theorem dX2_valueOf_216 : decode cX2_valueOf 216 = .ok (.iaload, 1) := by decide +kernel
theorem dX2_valueOf_217 : decode cX2_valueOf 217 = .ok (.ireturn, 1) := by decide +kernel
theorem dX2_valueOf_218 : decode cX2_valueOf 218 = .ok (.aload_n 0, 1) := by decide +kernel
theorem dX2_valueOf_219 : decode cX2_valueOf 219 = .ok (.getfield 12, 3) := by decide +kernel
theorem dX2_valueOf_222 : decode cX2_valueOf 222 = .ok (.getfield 80, 3) := by decide +kernel
theorem dX2_valueOf_225 : decode cX2_valueOf 225 = .ok (.iconst 0, 1) := by decide +kernel
theorem dX2_valueOf_226 : decode cX2_valueOf 226 = .ok (.iaload, 1) := by decide +kernel
theorem dX2_valueOf_227 : decode cX2_valueOf 227 = .ok (.aload_n 0, 1) := by decide +kernel
theorem dX2_valueOf_228 : decode cX2_valueOf 228 = .ok (.getfield 30, 3) := by decide +kernel
theorem dX2_valueOf_231 : decode cX2_valueOf 231 = .ok (.iload_n 1, 1) := by decide +kernel
theorem dX2_valueOf_232 : decode cX2_valueOf 232 = .ok (.iaload, 1) := by decide +kernel
theorem dX2_valueOf_233 : decode cX2_valueOf 233 = .ok (.invokestatic 83, 3) := by decide +kernel
theorem dX2_valueOf_236 : decode cX2_valueOf 236 = .ok (.ireturn, 1) := by decide +kernel
theorem dX2_valueOf_237 : decode cX2_valueOf 237 = .ok (.aload_n 0, 1) := by decide +kernel
theorem dX2_valueOf_238 : decode cX2_valueOf 238 = .ok (.getfield 33, 3) := by decide +kernel
theorem dX2_valueOf_241 : decode cX2_valueOf 241 = .ok (.iload_n 1, 1) := by decide +kernel
theorem dX2_valueOf_242 : decode cX2_valueOf 242 = .ok (.iaload, 1) := by decide +kernel
theorem dX2_valueOf_243 : decode cX2_valueOf 243 = .ok (.ireturn, 1) := by decide +kernel
theorem dX2_valueOf_244 : decode cX2_valueOf 244 = .ok (.aload_n 0, 1) := by decide +kernel
theorem dX2_valueOf_245 : decode cX2_valueOf 245 = .ok (.getfield 36, 3) := by decide +kernel
theorem dX2_valueOf_248 : decode cX2_valueOf 248 = .ok (.iload_n 1, 1) := by decide +kernel
theorem dX2_valueOf_249 : decode cX2_valueOf 249 = .ok (.iaload, 1) := by decide +kernel
theorem dX2_valueOf_250 : decode cX2_valueOf 250 = .ok (.ireturn, 1) := by decide +kernel
theorem dX2_valueOf_251 : decode cX2_valueOf 251 = .ok (.aload_n 0, 1) := by decide +kernel
theorem dX2_valueOf_252 : decode cX2_valueOf 252 = .ok (.getfield 39, 3) := by decide +kernel
theorem dX2_valueOf_255 : decode cX2_valueOf 255 = .ok (.iload_n 1, 1) := by decide +kernel
theorem dX2_valueOf_256 : decode cX2_valueOf 256 = .ok (.iaload, 1) := by decide +kernel
theorem dX2_valueOf_257 : decode cX2_valueOf 257 = .ok (.ireturn, 1) := by decide +kernel
theorem dX3_init_0 : decode cX3_init 0 = .ok (.aload_n 0, 1) := by decide +kernel
theorem dX3_init_1 : decode cX3_init 1 = .ok (.invokespecial 3, 3) := by decide +kernel
theorem dX3_init_4 : decode cX3_init 4 = .ok (.aload_n 0, 1) := by decide +kernel
theorem dX3_init_5 : decode cX3_init 5 = .ok (.bipush (-5), 2) := by decide +kernel
theorem dX3_init_7 : decode cX3_init 7 = .ok (.putfield 9, 3) := by decide +kernel
theorem dX3_init_10 : decode cX3_init 10 = .ok (.aload_n 0, 1) := by decide +kernel
theorem dX3_init_11 : decode cX3_init 11 = .ok (.iconst 5, 1) := by decide +kernel
theorem dX3_init_12 : decode cX3_init 12 = .ok (.putfield 15, 3) := by decide +kernel
theorem dX3_init_15 : decode cX3_init 15 = .ok (.aload_n 0, 1) := by decide +kernel
theorem dX3_init_16 : decode cX3_init 16 = .ok (.bipush 8, 2) := by decide +kernel
theorem dX3_init_18 : decode cX3_init 18 = .ok (.newarray .int, 2) := by decide +kernel
theorem dX3_init_20 : decode cX3_init 20 = .ok (.putfield 18, 3) := by decide +kernel
theorem dX3_init_23 : decode cX3_init 23 = .ok (.aload_n 0, 1) := by decide +kernel
theorem dX3_init_24 : decode cX3_init 24 = .ok (.bipush 8, 2) := by decide +kernel
theorem dX3_init_26 : decode cX3_init 26 = .ok (.newarray .int, 2) := by decide +kernel
theorem dX3_init_28 : decode cX3_init 28 = .ok (.putfield 22, 3) := by decide +kernel
theorem dX3_init_31 : decode cX3_init 31 = .ok (.aload_n 0, 1) := by decide +kernel
theorem dX3_init_32 : decode cX3_init 32 = .ok (.bipush 8, 2) := by decide +kernel
theorem dX3_init_34 : decode cX3_init 34 = .ok (.newarray .int, 2) := by decide +kernel
theorem dX3_init_36 : decode cX3_init 36 = .ok (.putfield 25, 3) := by decide +kernel
theorem dX3_init_39 : decode cX3_init 39 = .ok (.return_, 1) := by decide +kernel
theorem dX3_has_0 : decode cX3_has 0 = .ok (.iload_n 1, 1) := by decide +kernel
theorem dX3_has_1 : decode cX3_has 1 = .ok (.ifCond .lt 21, 3) := by decide +kernel
theorem dX3_has_4 : decode cX3_has 4 = .ok (.iload_n 1, 1) := by decide +kernel
theorem dX3_has_5 : decode cX3_has 5 = .ok (.aload_n 0, 1) := by decide +kernel
theorem dX3_has_6 : decode cX3_has 6 = .ok (.getfield 28, 3) := by decide +kernel
theorem dX3_has_9 : decode cX3_has 9 = .ok (.if_icmp .ge 13, 3) := by decide +kernel
theorem dX3_has_12 : decode cX3_has 12 = .ok (.iload_n 1, 1) := by decide +kernel
theorem dX3_has_13 : decode cX3_has 13 = .ok (.bipush 8, 2) := by decide +kernel
theorem dX3_has_15 : decode cX3_has 15 = .ok (.if_icmp .ge 7, 3) := by decide +kernel
theorem dX3_has_18 : decode cX3_has 18 = .ok (.iconst 1, 1) := by decide +kernel
theorem dX3_has_19 : decode cX3_has 19 = .ok (.goto 4, 3) := by decide +kernel
theorem dX3_has_22 : decode cX3_has 22 = .ok (.iconst 0, 1) := by decide +kernel
theorem dX3_has_23 : decode cX3_has 23 = .ok (.ireturn, 1) := by decide +kernel
theorem dX3_faultOfScene_0 : decode cX3_faultOfScene 0 = .ok (.iload_n 1, 1) := by decide +kernel
theorem dX3_faultOfScene_1 : decode cX3_faultOfScene 1 = .ok (.iload_n 2, 1) := by decide +kernel
theorem dX3_faultOfScene_2 : decode cX3_faultOfScene 2 = .ok (.invokestatic 31, 3) := by decide +kernel
theorem dX3_faultOfScene_5 : decode cX3_faultOfScene 5 = .ok (.istore 4, 2) := by decide +kernel
theorem dX3_faultOfScene_7 : decode cX3_faultOfScene 7 = .ok (.iload 4, 2) := by decide +kernel
theorem dX3_faultOfScene_9 : decode cX3_faultOfScene 9 = .ok (.ifCond .ne 12, 3) := by decide +kernel
theorem dX3_faultOfScene_12 : decode cX3_faultOfScene 12 = .ok (.iload_n 3, 1) := by decide +kernel
theorem dX3_faultOfScene_13 : decode cX3_faultOfScene 13 = .ok (.iconst 1, 1) := by decide +kernel
theorem dX3_faultOfScene_14 : decode cX3_faultOfScene 14 = .ok (.bipush 50, 2) := by decide +kernel
theorem dX3_faultOfScene_16 : decode cX3_faultOfScene 16 = .ok (.invokestatic 35, 3) := by decide +kernel
theorem dX3_faultOfScene_19 : decode cX3_faultOfScene 19 = .ok (.istore 4, 2) := by decide +kernel
theorem dX3_faultOfScene_21 : decode cX3_faultOfScene 21 = .ok (.iload 4, 2) := by decide +kernel
theorem dX3_faultOfScene_23 : decode cX3_faultOfScene 23 = .ok (.ifCond .ne 16, 3) := by decide +kernel
theorem dX3_faultOfScene_26 : decode cX3_faultOfScene 26 = .ok (.aload_n 0, 1) := by decide +kernel
theorem dX3_faultOfScene_27 : decode cX3_faultOfScene 27 = .ok (.getfield 28, 3) := by decide +kernel
theorem dX3_faultOfScene_30 : decode cX3_faultOfScene 30 = .ok (.bipush 8, 2) := by decide +kernel
theorem dX3_faultOfScene_32 : decode cX3_faultOfScene 32 = .ok (.if_icmp .lt 7, 3) := by decide +kernel
theorem dX3_faultOfScene_35 : decode cX3_faultOfScene 35 = .ok (.iconst 3, 1) := by decide +kernel
theorem dX3_faultOfScene_36 : decode cX3_faultOfScene 36 = .ok (.goto 5, 3) := by decide +kernel
theorem dX3_faultOfScene_39 : decode cX3_faultOfScene 39 = .ok (.iload 4, 2) := by decide +kernel
theorem dX3_faultOfScene_41 : decode cX3_faultOfScene 41 = .ok (.ireturn, 1) := by decide +kernel
theorem dX3_append_0 : decode cX3_append 0 = .ok (.aload_n 0, 1) := by decide +kernel
theorem dX3_append_1 : decode cX3_append 1 = .ok (.getfield 28, 3) := by decide +kernel
theorem dX3_append_4 : decode cX3_append 4 = .ok (.istore 4, 2) := by decide +kernel
theorem dX3_append_6 : decode cX3_append 6 = .ok (.iload 4, 2) := by decide +kernel
theorem dX3_append_8 : decode cX3_append 8 = .ok (.ifCond .lt 10, 3) := by decide +kernel
theorem dX3_append_11 : decode cX3_append 11 = .ok (.iload 4, 2) := by decide +kernel
theorem dX3_append_13 : decode cX3_append 13 = .ok (.bipush 8, 2) := by decide +kernel
theorem dX3_append_15 : decode cX3_append 15 = .ok (.if_icmp .lt 7, 3) := by decide +kernel
theorem dX3_append_18 : decode cX3_append 18 = .ok (.sipush (-1000), 3) := by decide +kernel
theorem dX3_append_21 : decode cX3_append 21 = .ok (.ireturn, 1) := by decide +kernel
theorem dX3_append_22 : decode cX3_append 22 = .ok (.aload_n 0, 1) := by decide +kernel
theorem dX3_append_23 : decode cX3_append 23 = .ok (.getfield 18, 3) := by decide +kernel
theorem dX3_append_26 : decode cX3_append 26 = .ok (.iload 4, 2) := by decide +kernel
theorem dX3_append_28 : decode cX3_append 28 = .ok (.iload_n 1, 1) := by decide +kernel
theorem dX3_append_29 : decode cX3_append 29 = .ok (.iastore, 1) := by decide +kernel
theorem dX3_append_30 : decode cX3_append 30 = .ok (.aload_n 0, 1) := by decide +kernel
theorem dX3_append_31 : decode cX3_append 31 = .ok (.getfield 22, 3) := by decide +kernel
theorem dX3_append_34 : decode cX3_append 34 = .ok (.iload 4, 2) := by decide +kernel
theorem dX3_append_36 : decode cX3_append 36 = .ok (.iload_n 2, 1) := by decide +kernel
theorem dX3_append_37 : decode cX3_append 37 = .ok (.iastore, 1) := by decide +kernel
theorem dX3_append_38 : decode cX3_append 38 = .ok (.aload_n 0, 1) := by decide +kernel
theorem dX3_append_39 : decode cX3_append 39 = .ok (.getfield 25, 3) := by decide +kernel
theorem dX3_append_42 : decode cX3_append 42 = .ok (.iload 4, 2) := by decide +kernel
theorem dX3_append_44 : decode cX3_append 44 = .ok (.iload_n 3, 1) := by decide +kernel
theorem dX3_append_45 : decode cX3_append 45 = .ok (.iastore, 1) := by decide +kernel
theorem dX3_append_46 : decode cX3_append 46 = .ok (.aload_n 0, 1) := by decide +kernel
theorem dX3_append_47 : decode cX3_append 47 = .ok (.iload 4, 2) := by decide +kernel
theorem dX3_append_49 : decode cX3_append 49 = .ok (.iconst 1, 1) := by decide +kernel
theorem dX3_append_50 : decode cX3_append 50 = .ok (.iadd, 1) := by decide +kernel
theorem dX3_append_51 : decode cX3_append 51 = .ok (.putfield 28, 3) := by decide +kernel
theorem dX3_append_54 : decode cX3_append 54 = .ok (.iload 4, 2) := by decide +kernel
theorem dX3_append_56 : decode cX3_append 56 = .ok (.ireturn, 1) := by decide +kernel
theorem dX3_clear_0 : decode cX3_clear 0 = .ok (.aload_n 0, 1) := by decide +kernel
theorem dX3_clear_1 : decode cX3_clear 1 = .ok (.iconst 0, 1) := by decide +kernel
theorem dX3_clear_2 : decode cX3_clear 2 = .ok (.putfield 28, 3) := by decide +kernel
theorem dX3_clear_5 : decode cX3_clear 5 = .ok (.aload_n 0, 1) := by decide +kernel
theorem dX3_clear_6 : decode cX3_clear 6 = .ok (.iconst 0, 1) := by decide +kernel
theorem dX3_clear_7 : decode cX3_clear 7 = .ok (.putfield 39, 3) := by decide +kernel
theorem dX3_clear_10 : decode cX3_clear 10 = .ok (.aload_n 0, 1) := by decide +kernel
theorem dX3_clear_11 : decode cX3_clear 11 = .ok (.bipush (-5), 2) := by decide +kernel
theorem dX3_clear_13 : decode cX3_clear 13 = .ok (.putfield 9, 3) := by decide +kernel
theorem dX3_clear_16 : decode cX3_clear 16 = .ok (.aload_n 0, 1) := by decide +kernel
theorem dX3_clear_17 : decode cX3_clear 17 = .ok (.iconst 5, 1) := by decide +kernel
theorem dX3_clear_18 : decode cX3_clear 18 = .ok (.putfield 15, 3) := by decide +kernel
theorem dX3_clear_21 : decode cX3_clear 21 = .ok (.return_, 1) := by decide +kernel
theorem dX3_beginOf_0 : decode cX3_beginOf 0 = .ok (.iconst 0, 1) := by decide +kernel
theorem dX3_beginOf_1 : decode cX3_beginOf 1 = .ok (.istore_n 2, 1) := by decide +kernel
theorem dX3_beginOf_2 : decode cX3_beginOf 2 = .ok (.iconst 0, 1) := by decide +kernel
theorem dX3_beginOf_3 : decode cX3_beginOf 3 = .ok (.istore_n 3, 1) := by decide +kernel
theorem dX3_beginOf_4 : decode cX3_beginOf 4 = .ok (.iload_n 3, 1) := by decide +kernel
theorem dX3_beginOf_5 : decode cX3_beginOf 5 = .ok (.iload_n 1, 1) := by decide +kernel
theorem dX3_beginOf_6 : decode cX3_beginOf 6 = .ok (.if_icmp .ge 32, 3) := by decide +kernel
theorem dX3_beginOf_9 : decode cX3_beginOf 9 = .ok (.iload_n 3, 1) := by decide +kernel
theorem dX3_beginOf_10 : decode cX3_beginOf 10 = .ok (.aload_n 0, 1) := by decide +kernel
theorem dX3_beginOf_11 : decode cX3_beginOf 11 = .ok (.getfield 28, 3) := by decide +kernel
theorem dX3_beginOf_14 : decode cX3_beginOf 14 = .ok (.if_icmp .ge 24, 3) := by decide +kernel
theorem dX3_beginOf_17 : decode cX3_beginOf 17 = .ok (.iload_n 3, 1) := by decide +kernel
theorem dX3_beginOf_18 : decode cX3_beginOf 18 = .ok (.bipush 8, 2) := by decide +kernel
theorem dX3_beginOf_20 : decode cX3_beginOf 20 = .ok (.if_icmp .ge 18, 3) := by decide +kernel
theorem dX3_beginOf_23 : decode cX3_beginOf 23 = .ok (.iload_n 2, 1) := by decide +kernel
theorem dX3_beginOf_24 : decode cX3_beginOf 24 = .ok (.aload_n 0, 1) := by decide +kernel
theorem dX3_beginOf_25 : decode cX3_beginOf 25 = .ok (.getfield 25, 3) := by decide +kernel
theorem dX3_beginOf_28 : decode cX3_beginOf 28 = .ok (.iload_n 3, 1) := by decide +kernel
theorem dX3_beginOf_29 : decode cX3_beginOf 29 = .ok (.iaload, 1) := by decide +kernel
theorem dX3_beginOf_30 : decode cX3_beginOf 30 = .ok (.iadd, 1) := by decide +kernel
theorem dX3_beginOf_31 : decode cX3_beginOf 31 = .ok (.istore_n 2, 1) := by decide +kernel
theorem dX3_beginOf_32 : decode cX3_beginOf 32 = .ok (.iinc 3 1, 3) := by decide +kernel
theorem dX3_beginOf_35 : decode cX3_beginOf 35 = .ok (.goto (-31), 3) := by decide +kernel
theorem dX3_beginOf_38 : decode cX3_beginOf 38 = .ok (.iload_n 2, 1) := by decide +kernel
theorem dX3_beginOf_39 : decode cX3_beginOf 39 = .ok (.ireturn, 1) := by decide +kernel
theorem dX3_present_0 : decode cX3_present 0 = .ok (.aload_n 0, 1) := by decide +kernel
theorem dX3_present_1 : decode cX3_present 1 = .ok (.getfield 28, 3) := by decide +kernel
theorem dX3_present_4 : decode cX3_present 4 = .ok (.ifCond .ne 7, 3) := by decide +kernel
theorem dX3_present_7 : decode cX3_present 7 = .ok (.sipush (-1000), 3) := by decide +kernel
theorem dX3_present_10 : decode cX3_present 10 = .ok (.ireturn, 1) := by decide +kernel
theorem dX3_present_11 : decode cX3_present 11 = .ok (.iconst 0, 1) := by decide +kernel
theorem dX3_present_12 : decode cX3_present 12 = .ok (.istore_n 1, 1) := by decide +kernel
theorem dX3_present_13 : decode cX3_present 13 = .ok (.iconst 0, 1) := by decide +kernel
theorem dX3_present_14 : decode cX3_present 14 = .ok (.istore_n 2, 1) := by decide +kernel
theorem dX3_present_15 : decode cX3_present 15 = .ok (.iload_n 2, 1) := by decide +kernel
theorem dX3_present_16 : decode cX3_present 16 = .ok (.aload_n 0, 1) := by decide +kernel
theorem dX3_present_17 : decode cX3_present 17 = .ok (.getfield 28, 3) := by decide +kernel
theorem dX3_present_20 : decode cX3_present 20 = .ok (.iconst 1, 1) := by decide +kernel
theorem dX3_present_21 : decode cX3_present 21 = .ok (.isub, 1) := by decide +kernel
theorem dX3_present_22 : decode cX3_present 22 = .ok (.if_icmp .ge 34, 3) := by decide +kernel
theorem dX3_present_25 : decode cX3_present 25 = .ok (.iload_n 2, 1) := by decide +kernel
theorem dX3_present_26 : decode cX3_present 26 = .ok (.bipush 8, 2) := by decide +kernel
theorem dX3_present_28 : decode cX3_present 28 = .ok (.if_icmp .ge 28, 3) := by decide +kernel
theorem dX3_present_31 : decode cX3_present 31 = .ok (.iload_n 1, 1) := by decide +kernel
theorem dX3_present_32 : decode cX3_present 32 = .ok (.aload_n 0, 1) := by decide +kernel
theorem dX3_present_33 : decode cX3_present 33 = .ok (.getfield 25, 3) := by decide +kernel
theorem dX3_present_36 : decode cX3_present 36 = .ok (.iload_n 2, 1) := by decide +kernel
theorem dX3_present_37 : decode cX3_present 37 = .ok (.iaload, 1) := by decide +kernel
theorem dX3_present_38 : decode cX3_present 38 = .ok (.iadd, 1) := by decide +kernel
theorem dX3_present_39 : decode cX3_present 39 = .ok (.istore_n 1, 1) := by decide +kernel
theorem dX3_present_40 : decode cX3_present 40 = .ok (.aload_n 0, 1) := by decide +kernel
theorem dX3_present_41 : decode cX3_present 41 = .ok (.getfield 39, 3) := by decide +kernel
theorem dX3_present_44 : decode cX3_present 44 = .ok (.iload_n 1, 1) := by decide +kernel
theorem dX3_present_45 : decode cX3_present 45 = .ok (.if_icmp .ge 5, 3) := by decide +kernel
theorem dX3_present_48 : decode cX3_present 48 = .ok (.iload_n 2, 1) := by decide +kernel
theorem dX3_present_49 : decode cX3_present 49 = .ok (.ireturn, 1) := by decide +kernel
theorem dX3_present_50 : decode cX3_present 50 = .ok (.iinc 2 1, 3) := by decide +kernel
theorem dX3_present_53 : decode cX3_present 53 = .ok (.goto (-38), 3) := by decide +kernel
theorem dX3_present_56 : decode cX3_present 56 = .ok (.aload_n 0, 1) := by decide +kernel
theorem dX3_present_57 : decode cX3_present 57 = .ok (.getfield 28, 3) := by decide +kernel
theorem dX3_present_60 : decode cX3_present 60 = .ok (.iconst 1, 1) := by decide +kernel
theorem dX3_present_61 : decode cX3_present 61 = .ok (.isub, 1) := by decide +kernel
theorem dX3_present_62 : decode cX3_present 62 = .ok (.ireturn, 1) := by decide +kernel
theorem dX3_passTick_0 : decode cX3_passTick 0 = .ok (.aload_n 0, 1) := by decide +kernel
theorem dX3_passTick_1 : decode cX3_passTick 1 = .ok (.dup, 1) := by decide +kernel
theorem dX3_passTick_2 : decode cX3_passTick 2 = .ok (.getfield 39, 3) := by decide +kernel
theorem dX3_passTick_5 : decode cX3_passTick 5 = .ok (.iconst 1, 1) := by decide +kernel
theorem dX3_passTick_6 : decode cX3_passTick 6 = .ok (.iadd, 1) := by decide +kernel
theorem dX3_passTick_7 : decode cX3_passTick 7 = .ok (.putfield 39, 3) := by decide +kernel
theorem dX3_passTick_10 : decode cX3_passTick 10 = .ok (.aload_n 0, 1) := by decide +kernel
theorem dX3_passTick_11 : decode cX3_passTick 11 = .ok (.invokevirtual 42, 3) := by decide +kernel
theorem dX3_passTick_14 : decode cX3_passTick 14 = .ok (.istore_n 2, 1) := by decide +kernel
theorem dX3_passTick_15 : decode cX3_passTick 15 = .ok (.aload_n 0, 1) := by decide +kernel
theorem dX3_passTick_16 : decode cX3_passTick 16 = .ok (.iload_n 2, 1) := by decide +kernel
theorem dX3_passTick_17 : decode cX3_passTick 17 = .ok (.invokevirtual 46, 3) := by decide +kernel
theorem dX3_passTick_20 : decode cX3_passTick 20 = .ok (.ifCond .eq 39, 3) := by decide +kernel
theorem dX3_passTick_23 : decode cX3_passTick 23 = .ok (.aload_n 0, 1) := by decide +kernel
theorem dX3_passTick_24 : decode cX3_passTick 24 = .ok (.aload_n 0, 1) := by decide +kernel
theorem dX3_passTick_25 : decode cX3_passTick 25 = .ok (.getfield 9, 3) := by decide +kernel
theorem dX3_passTick_28 : decode cX3_passTick 28 = .ok (.aload_n 0, 1) := by decide +kernel
theorem dX3_passTick_29 : decode cX3_passTick 29 = .ok (.getfield 18, 3) := by decide +kernel
theorem dX3_passTick_32 : decode cX3_passTick 32 = .ok (.iload_n 2, 1) := by decide +kernel
theorem dX3_passTick_33 : decode cX3_passTick 33 = .ok (.iaload, 1) := by decide +kernel
theorem dX3_passTick_34 : decode cX3_passTick 34 = .ok (.iload_n 1, 1) := by decide +kernel
theorem dX3_passTick_35 : decode cX3_passTick 35 = .ok (.invokestatic 50, 3) := by decide +kernel
theorem dX3_passTick_38 : decode cX3_passTick 38 = .ok (.putfield 9, 3) := by decide +kernel
theorem dX3_passTick_41 : decode cX3_passTick 41 = .ok (.aload_n 0, 1) := by decide +kernel
theorem dX3_passTick_42 : decode cX3_passTick 42 = .ok (.aload_n 0, 1) := by decide +kernel
theorem dX3_passTick_43 : decode cX3_passTick 43 = .ok (.getfield 15, 3) := by decide +kernel
theorem dX3_passTick_46 : decode cX3_passTick 46 = .ok (.aload_n 0, 1) := by decide +kernel
theorem dX3_passTick_47 : decode cX3_passTick 47 = .ok (.getfield 22, 3) := by decide +kernel
theorem dX3_passTick_50 : decode cX3_passTick 50 = .ok (.iload_n 2, 1) := by decide +kernel
theorem dX3_passTick_51 : decode cX3_passTick 51 = .ok (.iaload, 1) := by decide +kernel
theorem dX3_passTick_52 : decode cX3_passTick 52 = .ok (.iload_n 1, 1) := by decide +kernel
theorem dX3_passTick_53 : decode cX3_passTick 53 = .ok (.invokestatic 50, 3) := by decide +kernel
theorem dX3_passTick_56 : decode cX3_passTick 56 = .ok (.putfield 15, 3) := by decide +kernel
theorem dX3_passTick_59 : decode cX3_passTick 59 = .ok (.return_, 1) := by decide +kernel
theorem dX3_towards_0 : decode cX3_towards 0 = .ok (.iload_n 0, 1) := by decide +kernel
theorem dX3_towards_1 : decode cX3_towards 1 = .ok (.iload_n 1, 1) := by decide +kernel
theorem dX3_towards_2 : decode cX3_towards 2 = .ok (.if_icmp .ge 13, 3) := by decide +kernel
theorem dX3_towards_5 : decode cX3_towards 5 = .ok (.iload_n 0, 1) := by decide +kernel
theorem dX3_towards_6 : decode cX3_towards 6 = .ok (.iload_n 2, 1) := by decide +kernel
theorem dX3_towards_7 : decode cX3_towards 7 = .ok (.iadd, 1) := by decide +kernel
theorem dX3_towards_8 : decode cX3_towards 8 = .ok (.iload_n 1, 1) := by decide +kernel
theorem dX3_towards_9 : decode cX3_towards 9 = .ok (.invokestatic 53, 3) := by decide +kernel
theorem dX3_towards_12 : decode cX3_towards 12 = .ok (.goto 10, 3) := by decide +kernel
theorem dX3_towards_15 : decode cX3_towards 15 = .ok (.iload_n 0, 1) := by decide +kernel
theorem dX3_towards_16 : decode cX3_towards 16 = .ok (.iload_n 2, 1) := by decide +kernel
theorem dX3_towards_17 : decode cX3_towards 17 = .ok (.isub, 1) := by decide +kernel
theorem dX3_towards_18 : decode cX3_towards 18 = .ok (.iload_n 1, 1) := by decide +kernel
theorem dX3_towards_19 : decode cX3_towards 19 = .ok (.invokestatic 58, 3) := by decide +kernel
theorem dX3_towards_22 : decode cX3_towards 22 = .ok (.ireturn, 1) := by decide +kernel
theorem dX3_valueOf_0 : decode cX3_valueOf 0 = .ok (.aload_n 0, 1) := by decide +kernel
theorem dX3_valueOf_1 : decode cX3_valueOf 1 = .ok (.iload_n 1, 1) := by decide +kernel
theorem dX3_valueOf_2 : decode cX3_valueOf 2 = .ok (.invokevirtual 46, 3) := by decide +kernel
theorem dX3_valueOf_5 : decode cX3_valueOf 5 = .ok (.ifCond .ne 7, 3) := by decide +kernel
theorem dX3_valueOf_8 : decode cX3_valueOf 8 = .ok (.sipush (-1000), 3) := by decide +kernel
theorem dX3_valueOf_11 : decode cX3_valueOf 11 = .ok (.ireturn, 1) := by decide +kernel
theorem dX3_valueOf_12 : decode cX3_valueOf 12 = .ok (.iload_n 2, 1) := by decide +kernel
theorem dX3_valueOf_13 : decode cX3_valueOf 13 = .ok (.tableswitch 48 0 2 #[27, 34, 41], 27) := by decide +kernel
theorem dX3_valueOf_40 : decode cX3_valueOf 40 = .ok (.aload_n 0, 1) := by decide +kernel
theorem dX3_valueOf_41 : decode cX3_valueOf 41 = .ok (.getfield 18, 3) := by decide +kernel
theorem dX3_valueOf_44 : decode cX3_valueOf 44 = .ok (.iload_n 1, 1) := by decide +kernel
theorem dX3_valueOf_45 : decode cX3_valueOf 45 = .ok (.iaload, 1) := by decide +kernel
theorem dX3_valueOf_46 : decode cX3_valueOf 46 = .ok (.ireturn, 1) := by decide +kernel
theorem dX3_valueOf_47 : decode cX3_valueOf 47 = .ok (.aload_n 0, 1) := by decide +kernel
theorem dX3_valueOf_48 : decode cX3_valueOf 48 = .ok (.getfield 22, 3) := by decide +kernel
theorem dX3_valueOf_51 : decode cX3_valueOf 51 = .ok (.iload_n 1, 1) := by decide +kernel
theorem dX3_valueOf_52 : decode cX3_valueOf 52 = .ok (.iaload, 1) := by decide +kernel
theorem dX3_valueOf_53 : decode cX3_valueOf 53 = .ok (.ireturn, 1) := by decide +kernel
theorem dX3_valueOf_54 : decode cX3_valueOf 54 = .ok (.aload_n 0, 1) := by decide +kernel
theorem dX3_valueOf_55 : decode cX3_valueOf 55 = .ok (.getfield 25, 3) := by decide +kernel
theorem dX3_valueOf_58 : decode cX3_valueOf 58 = .ok (.iload_n 1, 1) := by decide +kernel
theorem dX3_valueOf_59 : decode cX3_valueOf 59 = .ok (.iaload, 1) := by decide +kernel
theorem dX3_valueOf_60 : decode cX3_valueOf 60 = .ok (.ireturn, 1) := by decide +kernel
theorem dX3_valueOf_61 : decode cX3_valueOf 61 = .ok (.aload_n 0, 1) := by decide +kernel
theorem dX3_valueOf_62 : decode cX3_valueOf 62 = .ok (.iload_n 1, 1) := by decide +kernel
theorem dX3_valueOf_63 : decode cX3_valueOf 63 = .ok (.invokevirtual 61, 3) := by decide +kernel
theorem dX3_valueOf_66 : decode cX3_valueOf 66 = .ok (.ireturn, 1) := by decide +kernel
theorem dX3_copyFrom_0 : decode cX3_copyFrom 0 = .ok (.aload_n 0, 1) := by decide +kernel
theorem dX3_copyFrom_1 : decode cX3_copyFrom 1 = .ok (.aload_n 1, 1) := by decide +kernel
theorem dX3_copyFrom_2 : decode cX3_copyFrom 2 = .ok (.getfield 28, 3) := by decide +kernel
theorem dX3_copyFrom_5 : decode cX3_copyFrom 5 = .ok (.putfield 28, 3) := by decide +kernel
theorem dX3_copyFrom_8 : decode cX3_copyFrom 8 = .ok (.aload_n 0, 1) := by decide +kernel
theorem dX3_copyFrom_9 : decode cX3_copyFrom 9 = .ok (.aload_n 1, 1) := by decide +kernel
theorem dX3_copyFrom_10 : decode cX3_copyFrom 10 = .ok (.getfield 39, 3) := by decide +kernel
theorem dX3_copyFrom_13 : decode cX3_copyFrom 13 = .ok (.putfield 39, 3) := by decide +kernel
theorem dX3_copyFrom_16 : decode cX3_copyFrom 16 = .ok (.aload_n 0, 1) := by decide +kernel
theorem dX3_copyFrom_17 : decode cX3_copyFrom 17 = .ok (.aload_n 1, 1) := by decide +kernel
theorem dX3_copyFrom_18 : decode cX3_copyFrom 18 = .ok (.getfield 9, 3) := by decide +kernel
theorem dX3_copyFrom_21 : decode cX3_copyFrom 21 = .ok (.putfield 9, 3) := by decide +kernel
theorem dX3_copyFrom_24 : decode cX3_copyFrom 24 = .ok (.aload_n 0, 1) := by decide +kernel
theorem dX3_copyFrom_25 : decode cX3_copyFrom 25 = .ok (.aload_n 1, 1) := by decide +kernel
theorem dX3_copyFrom_26 : decode cX3_copyFrom 26 = .ok (.getfield 15, 3) := by decide +kernel
theorem dX3_copyFrom_29 : decode cX3_copyFrom 29 = .ok (.putfield 15, 3) := by decide +kernel
theorem dX3_copyFrom_32 : decode cX3_copyFrom 32 = .ok (.aload_n 1, 1) := by decide +kernel
theorem dX3_copyFrom_33 : decode cX3_copyFrom 33 = .ok (.getfield 18, 3) := by decide +kernel
theorem dX3_copyFrom_36 : decode cX3_copyFrom 36 = .ok (.aload_n 0, 1) := by decide +kernel
theorem dX3_copyFrom_37 : decode cX3_copyFrom 37 = .ok (.getfield 18, 3) := by decide +kernel
theorem dX3_copyFrom_40 : decode cX3_copyFrom 40 = .ok (.invokestatic 65, 3) := by decide +kernel
theorem dX3_copyFrom_43 : decode cX3_copyFrom 43 = .ok (.aload_n 1, 1) := by decide +kernel
theorem dX3_copyFrom_44 : decode cX3_copyFrom 44 = .ok (.getfield 22, 3) := by decide +kernel
theorem dX3_copyFrom_47 : decode cX3_copyFrom 47 = .ok (.aload_n 0, 1) := by decide +kernel
theorem dX3_copyFrom_48 : decode cX3_copyFrom 48 = .ok (.getfield 22, 3) := by decide +kernel
theorem dX3_copyFrom_51 : decode cX3_copyFrom 51 = .ok (.invokestatic 65, 3) := by decide +kernel
theorem dX3_copyFrom_54 : decode cX3_copyFrom 54 = .ok (.aload_n 1, 1) := by decide +kernel
theorem dX3_copyFrom_55 : decode cX3_copyFrom 55 = .ok (.getfield 25, 3) := by decide +kernel
theorem dX3_copyFrom_58 : decode cX3_copyFrom 58 = .ok (.aload_n 0, 1) := by decide +kernel
theorem dX3_copyFrom_59 : decode cX3_copyFrom 59 = .ok (.getfield 25, 3) := by decide +kernel
theorem dX3_copyFrom_62 : decode cX3_copyFrom 62 = .ok (.invokestatic 65, 3) := by decide +kernel
theorem dX3_copyFrom_65 : decode cX3_copyFrom 65 = .ok (.return_, 1) := by decide +kernel
theorem dX4_init_0 : decode cX4_init 0 = .ok (.aload_n 0, 1) := by decide +kernel
theorem dX4_init_1 : decode cX4_init 1 = .ok (.invokespecial 3, 3) := by decide +kernel
theorem dX4_init_4 : decode cX4_init 4 = .ok (.aload_n 0, 1) := by decide +kernel
theorem dX4_init_5 : decode cX4_init 5 = .ok (.sipush 150, 3) := by decide +kernel
theorem dX4_init_8 : decode cX4_init 8 = .ok (.newarray .int, 2) := by decide +kernel
theorem dX4_init_10 : decode cX4_init 10 = .ok (.putfield 9, 3) := by decide +kernel
theorem dX4_init_13 : decode cX4_init 13 = .ok (.aload_n 0, 1) := by decide +kernel
theorem dX4_init_14 : decode cX4_init 14 = .ok (.bipush 6, 2) := by decide +kernel
theorem dX4_init_16 : decode cX4_init 16 = .ok (.newarray .int, 2) := by decide +kernel
theorem dX4_init_18 : decode cX4_init 18 = .ok (.putfield 15, 3) := by decide +kernel
theorem dX4_init_21 : decode cX4_init 21 = .ok (.return_, 1) := by decide +kernel
theorem dX4_append_0 : decode cX4_append 0 = .ok (.aload_n 0, 1) := by decide +kernel
theorem dX4_append_1 : decode cX4_append 1 = .ok (.getfield 18, 3) := by decide +kernel
theorem dX4_append_4 : decode cX4_append 4 = .ok (.ifCond .lt 33, 3) := by decide +kernel
theorem dX4_append_7 : decode cX4_append 7 = .ok (.aload_n 0, 1) := by decide +kernel
theorem dX4_append_8 : decode cX4_append 8 = .ok (.getfield 18, 3) := by decide +kernel
theorem dX4_append_11 : decode cX4_append 11 = .ok (.sipush 150, 3) := by decide +kernel
theorem dX4_append_14 : decode cX4_append 14 = .ok (.if_icmp .ge 23, 3) := by decide +kernel
theorem dX4_append_17 : decode cX4_append 17 = .ok (.aload_n 0, 1) := by decide +kernel
theorem dX4_append_18 : decode cX4_append 18 = .ok (.getfield 9, 3) := by decide +kernel
theorem dX4_append_21 : decode cX4_append 21 = .ok (.aload_n 0, 1) := by decide +kernel
theorem dX4_append_22 : decode cX4_append 22 = .ok (.getfield 18, 3) := by decide +kernel
theorem dX4_append_25 : decode cX4_append 25 = .ok (.iload_n 1, 1) := by decide +kernel
theorem dX4_append_26 : decode cX4_append 26 = .ok (.iastore, 1) := by decide +kernel
theorem dX4_append_27 : decode cX4_append 27 = .ok (.aload_n 0, 1) := by decide +kernel
theorem dX4_append_28 : decode cX4_append 28 = .ok (.dup, 1) := by decide +kernel
theorem dX4_append_29 : decode cX4_append 29 = .ok (.getfield 18, 3) := by decide +kernel
theorem dX4_append_32 : decode cX4_append 32 = .ok (.iconst 1, 1) := by decide +kernel
theorem dX4_append_33 : decode cX4_append 33 = .ok (.iadd, 1) := by decide +kernel
theorem dX4_append_34 : decode cX4_append 34 = .ok (.putfield 18, 3) := by decide +kernel
theorem dX4_append_37 : decode cX4_append 37 = .ok (.aload_n 0, 1) := by decide +kernel
theorem dX4_append_38 : decode cX4_append 38 = .ok (.getfield 18, 3) := by decide +kernel
theorem dX4_append_41 : decode cX4_append 41 = .ok (.ireturn, 1) := by decide +kernel
theorem dX4_byteAt_0 : decode cX4_byteAt 0 = .ok (.iload_n 1, 1) := by decide +kernel
theorem dX4_byteAt_1 : decode cX4_byteAt 1 = .ok (.ifCond .lt 27, 3) := by decide +kernel
theorem dX4_byteAt_4 : decode cX4_byteAt 4 = .ok (.iload_n 1, 1) := by decide +kernel
theorem dX4_byteAt_5 : decode cX4_byteAt 5 = .ok (.aload_n 0, 1) := by decide +kernel
theorem dX4_byteAt_6 : decode cX4_byteAt 6 = .ok (.getfield 18, 3) := by decide +kernel
theorem dX4_byteAt_9 : decode cX4_byteAt 9 = .ok (.if_icmp .ge 19, 3) := by decide +kernel
theorem dX4_byteAt_12 : decode cX4_byteAt 12 = .ok (.iload_n 1, 1) := by decide +kernel
theorem dX4_byteAt_13 : decode cX4_byteAt 13 = .ok (.sipush 150, 3) := by decide +kernel
theorem dX4_byteAt_16 : decode cX4_byteAt 16 = .ok (.if_icmp .ge 12, 3) := by decide +kernel
theorem dX4_byteAt_19 : decode cX4_byteAt 19 = .ok (.aload_n 0, 1) := by decide +kernel
theorem dX4_byteAt_20 : decode cX4_byteAt 20 = .ok (.getfield 9, 3) := by decide +kernel
theorem dX4_byteAt_23 : decode cX4_byteAt 23 = .ok (.iload_n 1, 1) := by decide +kernel
theorem dX4_byteAt_24 : decode cX4_byteAt 24 = .ok (.iaload, 1) := by decide +kernel
theorem dX4_byteAt_25 : decode cX4_byteAt 25 = .ok (.goto 4, 3) := by decide +kernel
theorem dX4_byteAt_28 : decode cX4_byteAt 28 = .ok (.iconst (-1), 1) := by decide +kernel
theorem dX4_byteAt_29 : decode cX4_byteAt 29 = .ok (.ireturn, 1) := by decide +kernel
theorem dX4_skipSpaces_0 : decode cX4_skipSpaces 0 = .ok (.aload_n 0, 1) := by decide +kernel
theorem dX4_skipSpaces_1 : decode cX4_skipSpaces 1 = .ok (.getfield 22, 3) := by decide +kernel
theorem dX4_skipSpaces_4 : decode cX4_skipSpaces 4 = .ok (.aload_n 0, 1) := by decide +kernel
theorem dX4_skipSpaces_5 : decode cX4_skipSpaces 5 = .ok (.getfield 18, 3) := by decide +kernel
theorem dX4_skipSpaces_8 : decode cX4_skipSpaces 8 = .ok (.if_icmp .ge 29, 3) := by decide +kernel
theorem dX4_skipSpaces_11 : decode cX4_skipSpaces 11 = .ok (.aload_n 0, 1) := by decide +kernel
theorem dX4_skipSpaces_12 : decode cX4_skipSpaces 12 = .ok (.aload_n 0, 1) := by decide +kernel
theorem dX4_skipSpaces_13 : decode cX4_skipSpaces 13 = .ok (.getfield 22, 3) := by decide +kernel
theorem dX4_skipSpaces_16 : decode cX4_skipSpaces 16 = .ok (.invokevirtual 25, 3) := by decide +kernel
theorem dX4_skipSpaces_19 : decode cX4_skipSpaces 19 = .ok (.bipush 32, 2) := by decide +kernel
theorem dX4_skipSpaces_21 : decode cX4_skipSpaces 21 = .ok (.if_icmp .ne 16, 3) := by decide +kernel
theorem dX4_skipSpaces_24 : decode cX4_skipSpaces 24 = .ok (.aload_n 0, 1) := by decide +kernel
theorem dX4_skipSpaces_25 : decode cX4_skipSpaces 25 = .ok (.dup, 1) := by decide +kernel
theorem dX4_skipSpaces_26 : decode cX4_skipSpaces 26 = .ok (.getfield 22, 3) := by decide +kernel
theorem dX4_skipSpaces_29 : decode cX4_skipSpaces 29 = .ok (.iconst 1, 1) := by decide +kernel
theorem dX4_skipSpaces_30 : decode cX4_skipSpaces 30 = .ok (.iadd, 1) := by decide +kernel
theorem dX4_skipSpaces_31 : decode cX4_skipSpaces 31 = .ok (.putfield 22, 3) := by decide +kernel
theorem dX4_skipSpaces_34 : decode cX4_skipSpaces 34 = .ok (.goto (-34), 3) := by decide +kernel
theorem dX4_skipSpaces_37 : decode cX4_skipSpaces 37 = .ok (.return_, 1) := by decide +kernel
theorem dX4_findFault_0 : decode cX4_findFault 0 = .ok (.aload_n 0, 1) := by decide +kernel
theorem dX4_findFault_1 : decode cX4_findFault 1 = .ok (.iconst 0, 1) := by decide +kernel
theorem dX4_findFault_2 : decode cX4_findFault 2 = .ok (.putfield 22, 3) := by decide +kernel
theorem dX4_findFault_5 : decode cX4_findFault 5 = .ok (.aload_n 0, 1) := by decide +kernel
theorem dX4_findFault_6 : decode cX4_findFault 6 = .ok (.invokevirtual 29, 3) := by decide +kernel
theorem dX4_findFault_9 : decode cX4_findFault 9 = .ok (.iconst 0, 1) := by decide +kernel
theorem dX4_findFault_10 : decode cX4_findFault 10 = .ok (.istore_n 1, 1) := by decide +kernel
theorem dX4_findFault_11 : decode cX4_findFault 11 = .ok (.iload_n 1, 1) := by decide +kernel
theorem dX4_findFault_12 : decode cX4_findFault 12 = .ok (.sipush 150, 3) := by decide +kernel
theorem dX4_findFault_15 : decode cX4_findFault 15 = .ok (.if_icmp .ge 36, 3) := by decide +kernel
theorem dX4_findFault_18 : decode cX4_findFault 18 = .ok (.aload_n 0, 1) := by decide +kernel
theorem dX4_findFault_19 : decode cX4_findFault 19 = .ok (.getfield 22, 3) := by decide +kernel
theorem dX4_findFault_22 : decode cX4_findFault 22 = .ok (.aload_n 0, 1) := by decide +kernel
theorem dX4_findFault_23 : decode cX4_findFault 23 = .ok (.getfield 18, 3) := by decide +kernel
theorem dX4_findFault_26 : decode cX4_findFault 26 = .ok (.if_icmp .ge 25, 3) := by decide +kernel
theorem dX4_findFault_29 : decode cX4_findFault 29 = .ok (.aload_n 0, 1) := by decide +kernel
theorem dX4_findFault_30 : decode cX4_findFault 30 = .ok (.invokevirtual 32, 3) := by decide +kernel
theorem dX4_findFault_33 : decode cX4_findFault 33 = .ok (.ifCond .ne 8, 3) := by decide +kernel
theorem dX4_findFault_36 : decode cX4_findFault 36 = .ok (.aload_n 0, 1) := by decide +kernel
theorem dX4_findFault_37 : decode cX4_findFault 37 = .ok (.getfield 22, 3) := by decide +kernel
theorem dX4_findFault_40 : decode cX4_findFault 40 = .ok (.ireturn, 1) := by decide +kernel
theorem dX4_findFault_41 : decode cX4_findFault 41 = .ok (.aload_n 0, 1) := by decide +kernel
theorem dX4_findFault_42 : decode cX4_findFault 42 = .ok (.invokevirtual 29, 3) := by decide +kernel
theorem dX4_findFault_45 : decode cX4_findFault 45 = .ok (.iinc 1 1, 3) := by decide +kernel
theorem dX4_findFault_48 : decode cX4_findFault 48 = .ok (.goto (-37), 3) := by decide +kernel
theorem dX4_findFault_51 : decode cX4_findFault 51 = .ok (.iconst (-1), 1) := by decide +kernel
theorem dX4_findFault_52 : decode cX4_findFault 52 = .ok (.ireturn, 1) := by decide +kernel
theorem dX4_runOn_0 : decode cX4_runOn 0 = .ok (.aload_n 0, 1) := by decide +kernel
theorem dX4_runOn_1 : decode cX4_runOn 1 = .ok (.iconst 0, 1) := by decide +kernel
theorem dX4_runOn_2 : decode cX4_runOn 2 = .ok (.putfield 22, 3) := by decide +kernel
theorem dX4_runOn_5 : decode cX4_runOn 5 = .ok (.aload_n 0, 1) := by decide +kernel
theorem dX4_runOn_6 : decode cX4_runOn 6 = .ok (.invokevirtual 29, 3) := by decide +kernel
theorem dX4_runOn_9 : decode cX4_runOn 9 = .ok (.iconst 0, 1) := by decide +kernel
theorem dX4_runOn_10 : decode cX4_runOn 10 = .ok (.istore_n 2, 1) := by decide +kernel
theorem dX4_runOn_11 : decode cX4_runOn 11 = .ok (.iconst 0, 1) := by decide +kernel
theorem dX4_runOn_12 : decode cX4_runOn 12 = .ok (.istore_n 3, 1) := by decide +kernel
theorem dX4_runOn_13 : decode cX4_runOn 13 = .ok (.iload_n 3, 1) := by decide +kernel
theorem dX4_runOn_14 : decode cX4_runOn 14 = .ok (.sipush 150, 3) := by decide +kernel
theorem dX4_runOn_17 : decode cX4_runOn 17 = .ok (.if_icmp .ge 44, 3) := by decide +kernel
theorem dX4_runOn_20 : decode cX4_runOn 20 = .ok (.aload_n 0, 1) := by decide +kernel
theorem dX4_runOn_21 : decode cX4_runOn 21 = .ok (.getfield 22, 3) := by decide +kernel
theorem dX4_runOn_24 : decode cX4_runOn 24 = .ok (.aload_n 0, 1) := by decide +kernel
theorem dX4_runOn_25 : decode cX4_runOn 25 = .ok (.getfield 18, 3) := by decide +kernel
theorem dX4_runOn_28 : decode cX4_runOn 28 = .ok (.if_icmp .ge 33, 3) := by decide +kernel
theorem dX4_runOn_31 : decode cX4_runOn 31 = .ok (.aload_n 0, 1) := by decide +kernel
theorem dX4_runOn_32 : decode cX4_runOn 32 = .ok (.invokevirtual 32, 3) := by decide +kernel
theorem dX4_runOn_35 : decode cX4_runOn 35 = .ok (.ifCond .eq 11, 3) := by decide +kernel
theorem dX4_runOn_38 : decode cX4_runOn 38 = .ok (.aload_n 0, 1) := by decide +kernel
theorem dX4_runOn_39 : decode cX4_runOn 39 = .ok (.aload_n 1, 1) := by decide +kernel
theorem dX4_runOn_40 : decode cX4_runOn 40 = .ok (.invokevirtual 36, 3) := by decide +kernel
theorem dX4_runOn_43 : decode cX4_runOn 43 = .ok (.ifCond .ne 5, 3) := by decide +kernel
theorem dX4_runOn_46 : decode cX4_runOn 46 = .ok (.iload_n 2, 1) := by decide +kernel
theorem dX4_runOn_47 : decode cX4_runOn 47 = .ok (.ireturn, 1) := by decide +kernel
theorem dX4_runOn_48 : decode cX4_runOn 48 = .ok (.iinc 2 1, 3) := by decide +kernel
theorem dX4_runOn_51 : decode cX4_runOn 51 = .ok (.aload_n 0, 1) := by decide +kernel
theorem dX4_runOn_52 : decode cX4_runOn 52 = .ok (.invokevirtual 29, 3) := by decide +kernel
theorem dX4_runOn_55 : decode cX4_runOn 55 = .ok (.iinc 3 1, 3) := by decide +kernel
theorem dX4_runOn_58 : decode cX4_runOn 58 = .ok (.goto (-45), 3) := by decide +kernel
theorem dX4_runOn_61 : decode cX4_runOn 61 = .ok (.iload_n 2, 1) := by decide +kernel
theorem dX4_runOn_62 : decode cX4_runOn 62 = .ok (.ireturn, 1) := by decide +kernel
theorem dX4_readCommand_0 : decode cX4_readCommand 0 = .ok (.aload_n 0, 1) := by decide +kernel
theorem dX4_readCommand_1 : decode cX4_readCommand 1 = .ok (.getfield 22, 3) := by decide +kernel
theorem dX4_readCommand_4 : decode cX4_readCommand 4 = .ok (.istore_n 1, 1) := by decide +kernel
theorem dX4_readCommand_5 : decode cX4_readCommand 5 = .ok (.aload_n 0, 1) := by decide +kernel
theorem dX4_readCommand_6 : decode cX4_readCommand 6 = .ok (.getfield 22, 3) := by decide +kernel
theorem dX4_readCommand_9 : decode cX4_readCommand 9 = .ok (.aload_n 0, 1) := by decide +kernel
theorem dX4_readCommand_10 : decode cX4_readCommand 10 = .ok (.getfield 18, 3) := by decide +kernel
theorem dX4_readCommand_13 : decode cX4_readCommand 13 = .ok (.if_icmp .ge 42, 3) := by decide +kernel
theorem dX4_readCommand_16 : decode cX4_readCommand 16 = .ok (.aload_n 0, 1) := by decide +kernel
theorem dX4_readCommand_17 : decode cX4_readCommand 17 = .ok (.aload_n 0, 1) := by decide +kernel
theorem dX4_readCommand_18 : decode cX4_readCommand 18 = .ok (.getfield 22, 3) := by decide +kernel
theorem dX4_readCommand_21 : decode cX4_readCommand 21 = .ok (.invokevirtual 25, 3) := by decide +kernel
theorem dX4_readCommand_24 : decode cX4_readCommand 24 = .ok (.bipush 97, 2) := by decide +kernel
theorem dX4_readCommand_26 : decode cX4_readCommand 26 = .ok (.if_icmp .lt 29, 3) := by decide +kernel
theorem dX4_readCommand_29 : decode cX4_readCommand 29 = .ok (.aload_n 0, 1) := by decide +kernel
theorem dX4_readCommand_30 : decode cX4_readCommand 30 = .ok (.aload_n 0, 1) := by decide +kernel
theorem dX4_readCommand_31 : decode cX4_readCommand 31 = .ok (.getfield 22, 3) := by decide +kernel
theorem dX4_readCommand_34 : decode cX4_readCommand 34 = .ok (.invokevirtual 25, 3) := by decide +kernel
theorem dX4_readCommand_37 : decode cX4_readCommand 37 = .ok (.bipush 122, 2) := by decide +kernel
theorem dX4_readCommand_39 : decode cX4_readCommand 39 = .ok (.if_icmp .gt 16, 3) := by decide +kernel
theorem dX4_readCommand_42 : decode cX4_readCommand 42 = .ok (.aload_n 0, 1) := by decide +kernel
theorem dX4_readCommand_43 : decode cX4_readCommand 43 = .ok (.dup, 1) := by decide +kernel
theorem dX4_readCommand_44 : decode cX4_readCommand 44 = .ok (.getfield 22, 3) := by decide +kernel
theorem dX4_readCommand_47 : decode cX4_readCommand 47 = .ok (.iconst 1, 1) := by decide +kernel
theorem dX4_readCommand_48 : decode cX4_readCommand 48 = .ok (.iadd, 1) := by decide +kernel
theorem dX4_readCommand_49 : decode cX4_readCommand 49 = .ok (.putfield 22, 3) := by decide +kernel
theorem dX4_readCommand_52 : decode cX4_readCommand 52 = .ok (.goto (-47), 3) := by decide +kernel
theorem dX4_readCommand_55 : decode cX4_readCommand 55 = .ok (.aload_n 0, 1) := by decide +kernel
theorem dX4_readCommand_56 : decode cX4_readCommand 56 = .ok (.iload_n 1, 1) := by decide +kernel
theorem dX4_readCommand_57 : decode cX4_readCommand 57 = .ok (.aload_n 0, 1) := by decide +kernel
theorem dX4_readCommand_58 : decode cX4_readCommand 58 = .ok (.getfield 22, 3) := by decide +kernel
theorem dX4_readCommand_61 : decode cX4_readCommand 61 = .ok (.invokevirtual 40, 3) := by decide +kernel
theorem dX4_readCommand_64 : decode cX4_readCommand 64 = .ok (.astore_n 2, 1) := by decide +kernel
theorem dX4_readCommand_65 : decode cX4_readCommand 65 = .ok (.aload_n 2, 1) := by decide +kernel
theorem dX4_readCommand_66 : decode cX4_readCommand 66 = .ok (.ifnonnull 10, 3) := by decide +kernel
theorem dX4_readCommand_69 : decode cX4_readCommand 69 = .ok (.aload_n 0, 1) := by decide +kernel
theorem dX4_readCommand_70 : decode cX4_readCommand 70 = .ok (.iload_n 1, 1) := by decide +kernel
theorem dX4_readCommand_71 : decode cX4_readCommand 71 = .ok (.putfield 22, 3) := by decide +kernel
theorem dX4_readCommand_74 : decode cX4_readCommand 74 = .ok (.iconst 0, 1) := by decide +kernel
theorem dX4_readCommand_75 : decode cX4_readCommand 75 = .ok (.ireturn, 1) := by decide +kernel
theorem dX4_readCommand_76 : decode cX4_readCommand 76 = .ok (.aload_n 0, 1) := by decide +kernel
theorem dX4_readCommand_77 : decode cX4_readCommand 77 = .ok (.aload_n 2, 1) := by decide +kernel
theorem dX4_readCommand_78 : decode cX4_readCommand 78 = .ok (.putfield 44, 3) := by decide +kernel
theorem dX4_readCommand_81 : decode cX4_readCommand 81 = .ok (.iconst 0, 1) := by decide +kernel
theorem dX4_readCommand_82 : decode cX4_readCommand 82 = .ok (.istore_n 3, 1) := by decide +kernel
theorem dX4_readCommand_83 : decode cX4_readCommand 83 = .ok (.iload_n 3, 1) := by decide +kernel
theorem dX4_readCommand_84 : decode cX4_readCommand 84 = .ok (.aload_n 2, 1) := by decide +kernel
theorem dX4_readCommand_85 : decode cX4_readCommand 85 = .ok (.getfield 48, 3) := by decide +kernel
theorem dX4_readCommand_88 : decode cX4_readCommand 88 = .ok (.if_icmp .ge 25, 3) := by decide +kernel
theorem dX4_readCommand_91 : decode cX4_readCommand 91 = .ok (.iload_n 3, 1) := by decide +kernel
theorem dX4_readCommand_92 : decode cX4_readCommand 92 = .ok (.bipush 6, 2) := by decide +kernel
theorem dX4_readCommand_94 : decode cX4_readCommand 94 = .ok (.if_icmp .ge 19, 3) := by decide +kernel
theorem dX4_readCommand_97 : decode cX4_readCommand 97 = .ok (.aload_n 0, 1) := by decide +kernel
theorem dX4_readCommand_98 : decode cX4_readCommand 98 = .ok (.iload_n 3, 1) := by decide +kernel
theorem dX4_readCommand_99 : decode cX4_readCommand 99 = .ok (.invokevirtual 52, 3) := by decide +kernel
theorem dX4_readCommand_102 : decode cX4_readCommand 102 = .ok (.ifCond .ne 5, 3) := by decide +kernel
theorem dX4_readCommand_105 : decode cX4_readCommand 105 = .ok (.iconst 0, 1) := by decide +kernel
theorem dX4_readCommand_106 : decode cX4_readCommand 106 = .ok (.ireturn, 1) := by decide +kernel
theorem dX4_readCommand_107 : decode cX4_readCommand 107 = .ok (.iinc 3 1, 3) := by decide +kernel
theorem dX4_readCommand_110 : decode cX4_readCommand 110 = .ok (.goto (-27), 3) := by decide +kernel
theorem dX4_readCommand_113 : decode cX4_readCommand 113 = .ok (.aload_n 0, 1) := by decide +kernel
theorem dX4_readCommand_114 : decode cX4_readCommand 114 = .ok (.invokevirtual 29, 3) := by decide +kernel
theorem dX4_readCommand_117 : decode cX4_readCommand 117 = .ok (.aload_n 0, 1) := by decide +kernel
theorem dX4_readCommand_118 : decode cX4_readCommand 118 = .ok (.aload_n 0, 1) := by decide +kernel
theorem dX4_readCommand_119 : decode cX4_readCommand 119 = .ok (.getfield 22, 3) := by decide +kernel
theorem dX4_readCommand_122 : decode cX4_readCommand 122 = .ok (.invokevirtual 25, 3) := by decide +kernel
theorem dX4_readCommand_125 : decode cX4_readCommand 125 = .ok (.bipush 59, 2) := by decide +kernel
theorem dX4_readCommand_127 : decode cX4_readCommand 127 = .ok (.if_icmp .eq 5, 3) := by decide +kernel
theorem dX4_readCommand_130 : decode cX4_readCommand 130 = .ok (.iconst 0, 1) := by decide +kernel
theorem dX4_readCommand_131 : decode cX4_readCommand 131 = .ok (.ireturn, 1) := by decide +kernel
theorem dX4_readCommand_132 : decode cX4_readCommand 132 = .ok (.aload_n 0, 1) := by decide +kernel
theorem dX4_readCommand_133 : decode cX4_readCommand 133 = .ok (.dup, 1) := by decide +kernel
theorem dX4_readCommand_134 : decode cX4_readCommand 134 = .ok (.getfield 22, 3) := by decide +kernel
theorem dX4_readCommand_137 : decode cX4_readCommand 137 = .ok (.iconst 1, 1) := by decide +kernel
theorem dX4_readCommand_138 : decode cX4_readCommand 138 = .ok (.iadd, 1) := by decide +kernel
theorem dX4_readCommand_139 : decode cX4_readCommand 139 = .ok (.putfield 22, 3) := by decide +kernel
theorem dX4_readCommand_142 : decode cX4_readCommand 142 = .ok (.iconst 1, 1) := by decide +kernel
theorem dX4_readCommand_143 : decode cX4_readCommand 143 = .ok (.ireturn, 1) := by decide +kernel
theorem dX4_wordBetween_0 : decode cX4_wordBetween 0 = .ok (.getstatic 56, 3) := by decide +kernel
theorem dX4_wordBetween_3 : decode cX4_wordBetween 3 = .ok (.astore_n 3, 1) := by decide +kernel
theorem dX4_wordBetween_4 : decode cX4_wordBetween 4 = .ok (.aload_n 3, 1) := by decide +kernel
theorem dX4_wordBetween_5 : decode cX4_wordBetween 5 = .ok (.arraylength, 1) := by decide +kernel
theorem dX4_wordBetween_6 : decode cX4_wordBetween 6 = .ok (.istore 4, 2) := by decide +kernel
theorem dX4_wordBetween_8 : decode cX4_wordBetween 8 = .ok (.iconst 0, 1) := by decide +kernel
theorem dX4_wordBetween_9 : decode cX4_wordBetween 9 = .ok (.istore 5, 2) := by decide +kernel
theorem dX4_wordBetween_11 : decode cX4_wordBetween 11 = .ok (.iload 5, 2) := by decide +kernel
theorem dX4_wordBetween_13 : decode cX4_wordBetween 13 = .ok (.iload 4, 2) := by decide +kernel
theorem dX4_wordBetween_15 : decode cX4_wordBetween 15 = .ok (.if_icmp .ge 37, 3) := by decide +kernel
theorem dX4_wordBetween_18 : decode cX4_wordBetween 18 = .ok (.aload_n 3, 1) := by decide +kernel
theorem dX4_wordBetween_19 : decode cX4_wordBetween 19 = .ok (.iload 5, 2) := by decide +kernel
theorem dX4_wordBetween_21 : decode cX4_wordBetween 21 = .ok (.aaload, 1) := by decide +kernel
theorem dX4_wordBetween_22 : decode cX4_wordBetween 22 = .ok (.astore 6, 2) := by decide +kernel
theorem dX4_wordBetween_24 : decode cX4_wordBetween 24 = .ok (.aload 6, 2) := by decide +kernel
theorem dX4_wordBetween_26 : decode cX4_wordBetween 26 = .ok (.ifnull 20, 3) := by decide +kernel
theorem dX4_wordBetween_29 : decode cX4_wordBetween 29 = .ok (.aload_n 0, 1) := by decide +kernel
theorem dX4_wordBetween_30 : decode cX4_wordBetween 30 = .ok (.aload 6, 2) := by decide +kernel
theorem dX4_wordBetween_32 : decode cX4_wordBetween 32 = .ok (.getfield 60, 3) := by decide +kernel
theorem dX4_wordBetween_35 : decode cX4_wordBetween 35 = .ok (.iload_n 1, 1) := by decide +kernel
theorem dX4_wordBetween_36 : decode cX4_wordBetween 36 = .ok (.iload_n 2, 1) := by decide +kernel
theorem dX4_wordBetween_37 : decode cX4_wordBetween 37 = .ok (.invokevirtual 64, 3) := by decide +kernel
theorem dX4_wordBetween_40 : decode cX4_wordBetween 40 = .ok (.ifCond .eq 6, 3) := by decide +kernel
theorem dX4_wordBetween_43 : decode cX4_wordBetween 43 = .ok (.aload 6, 2) := by decide +kernel
theorem dX4_wordBetween_45 : decode cX4_wordBetween 45 = .ok (.areturn, 1) := by decide +kernel
theorem dX4_wordBetween_46 : decode cX4_wordBetween 46 = .ok (.iinc 5 1, 3) := by decide +kernel
theorem dX4_wordBetween_49 : decode cX4_wordBetween 49 = .ok (.goto (-38), 3) := by decide +kernel
theorem dX4_wordBetween_52 : decode cX4_wordBetween 52 = .ok (.aconst_null, 1) := by decide +kernel
theorem dX4_wordBetween_53 : decode cX4_wordBetween 53 = .ok (.areturn, 1) := by decide +kernel
theorem dX4_isWritten_0 : decode cX4_isWritten 0 = .ok (.aload_n 1, 1) := by decide +kernel
theorem dX4_isWritten_1 : decode cX4_isWritten 1 = .ok (.invokevirtual 68, 3) := by decide +kernel
theorem dX4_isWritten_4 : decode cX4_isWritten 4 = .ok (.iload_n 3, 1) := by decide +kernel
theorem dX4_isWritten_5 : decode cX4_isWritten 5 = .ok (.iload_n 2, 1) := by decide +kernel
theorem dX4_isWritten_6 : decode cX4_isWritten 6 = .ok (.isub, 1) := by decide +kernel
theorem dX4_isWritten_7 : decode cX4_isWritten 7 = .ok (.if_icmp .eq 5, 3) := by decide +kernel
theorem dX4_isWritten_10 : decode cX4_isWritten 10 = .ok (.iconst 0, 1) := by decide +kernel
theorem dX4_isWritten_11 : decode cX4_isWritten 11 = .ok (.ireturn, 1) := by decide +kernel
theorem dX4_isWritten_12 : decode cX4_isWritten 12 = .ok (.iconst 0, 1) := by decide +kernel
theorem dX4_isWritten_13 : decode cX4_isWritten 13 = .ok (.istore 4, 2) := by decide +kernel
theorem dX4_isWritten_15 : decode cX4_isWritten 15 = .ok (.iload 4, 2) := by decide +kernel
theorem dX4_isWritten_17 : decode cX4_isWritten 17 = .ok (.aload_n 1, 1) := by decide +kernel
theorem dX4_isWritten_18 : decode cX4_isWritten 18 = .ok (.invokevirtual 68, 3) := by decide +kernel
theorem dX4_isWritten_21 : decode cX4_isWritten 21 = .ok (.if_icmp .ge 28, 3) := by decide +kernel
theorem dX4_isWritten_24 : decode cX4_isWritten 24 = .ok (.aload_n 1, 1) := by decide +kernel
theorem dX4_isWritten_25 : decode cX4_isWritten 25 = .ok (.iload 4, 2) := by decide +kernel
theorem dX4_isWritten_27 : decode cX4_isWritten 27 = .ok (.invokevirtual 73, 3) := by decide +kernel
theorem dX4_isWritten_30 : decode cX4_isWritten 30 = .ok (.aload_n 0, 1) := by decide +kernel
theorem dX4_isWritten_31 : decode cX4_isWritten 31 = .ok (.iload_n 2, 1) := by decide +kernel
theorem dX4_isWritten_32 : decode cX4_isWritten 32 = .ok (.iload 4, 2) := by decide +kernel
theorem dX4_isWritten_34 : decode cX4_isWritten 34 = .ok (.iadd, 1) := by decide +kernel
theorem dX4_isWritten_35 : decode cX4_isWritten 35 = .ok (.invokevirtual 25, 3) := by decide +kernel
theorem dX4_isWritten_38 : decode cX4_isWritten 38 = .ok (.if_icmp .eq 5, 3) := by decide +kernel
theorem dX4_isWritten_41 : decode cX4_isWritten 41 = .ok (.iconst 0, 1) := by decide +kernel
theorem dX4_isWritten_42 : decode cX4_isWritten 42 = .ok (.ireturn, 1) := by decide +kernel
theorem dX4_isWritten_43 : decode cX4_isWritten 43 = .ok (.iinc 4 1, 3) := by decide +kernel
theorem dX4_isWritten_46 : decode cX4_isWritten 46 = .ok (.goto (-31), 3) := by decide +kernel
theorem dX4_isWritten_49 : decode cX4_isWritten 49 = .ok (.iconst 1, 1) := by decide +kernel
theorem dX4_isWritten_50 : decode cX4_isWritten 50 = .ok (.ireturn, 1) := by decide +kernel
theorem dX4_readNumber_0 : decode cX4_readNumber 0 = .ok (.aload_n 0, 1) := by decide +kernel
theorem dX4_readNumber_1 : decode cX4_readNumber 1 = .ok (.aload_n 0, 1) := by decide +kernel
theorem dX4_readNumber_2 : decode cX4_readNumber 2 = .ok (.getfield 22, 3) := by decide +kernel
theorem dX4_readNumber_5 : decode cX4_readNumber 5 = .ok (.invokevirtual 25, 3) := by decide +kernel
theorem dX4_readNumber_8 : decode cX4_readNumber 8 = .ok (.bipush 32, 2) := by decide +kernel
theorem dX4_readNumber_10 : decode cX4_readNumber 10 = .ok (.if_icmp .eq 5, 3) := by decide +kernel
theorem dX4_readNumber_13 : decode cX4_readNumber 13 = .ok (.iconst 0, 1) := by decide +kernel
theorem dX4_readNumber_14 : decode cX4_readNumber 14 = .ok (.ireturn, 1) := by decide +kernel
theorem dX4_readNumber_15 : decode cX4_readNumber 15 = .ok (.aload_n 0, 1) := by decide +kernel
theorem dX4_readNumber_16 : decode cX4_readNumber 16 = .ok (.invokevirtual 29, 3) := by decide +kernel
theorem dX4_readNumber_19 : decode cX4_readNumber 19 = .ok (.aload_n 0, 1) := by decide +kernel
theorem dX4_readNumber_20 : decode cX4_readNumber 20 = .ok (.aload_n 0, 1) := by decide +kernel
theorem dX4_readNumber_21 : decode cX4_readNumber 21 = .ok (.getfield 22, 3) := by decide +kernel
theorem dX4_readNumber_24 : decode cX4_readNumber 24 = .ok (.invokevirtual 25, 3) := by decide +kernel
theorem dX4_readNumber_27 : decode cX4_readNumber 27 = .ok (.invokestatic 77, 3) := by decide +kernel
theorem dX4_readNumber_30 : decode cX4_readNumber 30 = .ok (.ifCond .eq 13, 3) := by decide +kernel
theorem dX4_readNumber_33 : decode cX4_readNumber 33 = .ok (.iload_n 1, 1) := by decide +kernel
theorem dX4_readNumber_34 : decode cX4_readNumber 34 = .ok (.ifCond .lt 9, 3) := by decide +kernel
theorem dX4_readNumber_37 : decode cX4_readNumber 37 = .ok (.iload_n 1, 1) := by decide +kernel
theorem dX4_readNumber_38 : decode cX4_readNumber 38 = .ok (.bipush 6, 2) := by decide +kernel
theorem dX4_readNumber_40 : decode cX4_readNumber 40 = .ok (.if_icmp .lt 5, 3) := by decide +kernel
theorem dX4_readNumber_43 : decode cX4_readNumber 43 = .ok (.iconst 0, 1) := by decide +kernel
theorem dX4_readNumber_44 : decode cX4_readNumber 44 = .ok (.ireturn, 1) := by decide +kernel
theorem dX4_readNumber_45 : decode cX4_readNumber 45 = .ok (.iconst 0, 1) := by decide +kernel
theorem dX4_readNumber_46 : decode cX4_readNumber 46 = .ok (.istore_n 2, 1) := by decide +kernel
theorem dX4_readNumber_47 : decode cX4_readNumber 47 = .ok (.iconst 0, 1) := by decide +kernel
theorem dX4_readNumber_48 : decode cX4_readNumber 48 = .ok (.istore_n 3, 1) := by decide +kernel
theorem dX4_readNumber_49 : decode cX4_readNumber 49 = .ok (.iload_n 3, 1) := by decide +kernel
theorem dX4_readNumber_50 : decode cX4_readNumber 50 = .ok (.iconst 3, 1) := by decide +kernel
theorem dX4_readNumber_51 : decode cX4_readNumber 51 = .ok (.if_icmp .ge 50, 3) := by decide +kernel
theorem dX4_readNumber_54 : decode cX4_readNumber 54 = .ok (.aload_n 0, 1) := by decide +kernel
theorem dX4_readNumber_55 : decode cX4_readNumber 55 = .ok (.aload_n 0, 1) := by decide +kernel
theorem dX4_readNumber_56 : decode cX4_readNumber 56 = .ok (.getfield 22, 3) := by decide +kernel
theorem dX4_readNumber_59 : decode cX4_readNumber 59 = .ok (.invokevirtual 25, 3) := by decide +kernel
theorem dX4_readNumber_62 : decode cX4_readNumber 62 = .ok (.invokestatic 77, 3) := by decide +kernel
theorem dX4_readNumber_65 : decode cX4_readNumber 65 = .ok (.ifCond .eq 36, 3) := by decide +kernel
theorem dX4_readNumber_68 : decode cX4_readNumber 68 = .ok (.bipush 10, 2) := by decide +kernel
theorem dX4_readNumber_70 : decode cX4_readNumber 70 = .ok (.iload_n 2, 1) := by decide +kernel
theorem dX4_readNumber_71 : decode cX4_readNumber 71 = .ok (.imul, 1) := by decide +kernel
theorem dX4_readNumber_72 : decode cX4_readNumber 72 = .ok (.aload_n 0, 1) := by decide +kernel
theorem dX4_readNumber_73 : decode cX4_readNumber 73 = .ok (.aload_n 0, 1) := by decide +kernel
theorem dX4_readNumber_74 : decode cX4_readNumber 74 = .ok (.getfield 22, 3) := by decide +kernel
theorem dX4_readNumber_77 : decode cX4_readNumber 77 = .ok (.invokevirtual 25, 3) := by decide +kernel
theorem dX4_readNumber_80 : decode cX4_readNumber 80 = .ok (.iadd, 1) := by decide +kernel
theorem dX4_readNumber_81 : decode cX4_readNumber 81 = .ok (.bipush 48, 2) := by decide +kernel
theorem dX4_readNumber_83 : decode cX4_readNumber 83 = .ok (.isub, 1) := by decide +kernel
theorem dX4_readNumber_84 : decode cX4_readNumber 84 = .ok (.istore_n 2, 1) := by decide +kernel
theorem dX4_readNumber_85 : decode cX4_readNumber 85 = .ok (.aload_n 0, 1) := by decide +kernel
theorem dX4_readNumber_86 : decode cX4_readNumber 86 = .ok (.dup, 1) := by decide +kernel
theorem dX4_readNumber_87 : decode cX4_readNumber 87 = .ok (.getfield 22, 3) := by decide +kernel
theorem dX4_readNumber_90 : decode cX4_readNumber 90 = .ok (.iconst 1, 1) := by decide +kernel
theorem dX4_readNumber_91 : decode cX4_readNumber 91 = .ok (.iadd, 1) := by decide +kernel
theorem dX4_readNumber_92 : decode cX4_readNumber 92 = .ok (.putfield 22, 3) := by decide +kernel
theorem dX4_readNumber_95 : decode cX4_readNumber 95 = .ok (.iinc 3 1, 3) := by decide +kernel
theorem dX4_readNumber_98 : decode cX4_readNumber 98 = .ok (.goto (-49), 3) := by decide +kernel
theorem dX4_readNumber_101 : decode cX4_readNumber 101 = .ok (.aload_n 0, 1) := by decide +kernel
theorem dX4_readNumber_102 : decode cX4_readNumber 102 = .ok (.getfield 15, 3) := by decide +kernel
theorem dX4_readNumber_105 : decode cX4_readNumber 105 = .ok (.iload_n 1, 1) := by decide +kernel
theorem dX4_readNumber_106 : decode cX4_readNumber 106 = .ok (.iload_n 2, 1) := by decide +kernel
theorem dX4_readNumber_107 : decode cX4_readNumber 107 = .ok (.iastore, 1) := by decide +kernel
theorem dX4_readNumber_108 : decode cX4_readNumber 108 = .ok (.iconst 1, 1) := by decide +kernel
theorem dX4_readNumber_109 : decode cX4_readNumber 109 = .ok (.ireturn, 1) := by decide +kernel
theorem dX4_isDigit_0 : decode cX4_isDigit 0 = .ok (.iload_n 0, 1) := by decide +kernel
theorem dX4_isDigit_1 : decode cX4_isDigit 1 = .ok (.bipush 48, 2) := by decide +kernel
theorem dX4_isDigit_3 : decode cX4_isDigit 3 = .ok (.if_icmp .lt 13, 3) := by decide +kernel
theorem dX4_isDigit_6 : decode cX4_isDigit 6 = .ok (.iload_n 0, 1) := by decide +kernel
theorem dX4_isDigit_7 : decode cX4_isDigit 7 = .ok (.bipush 57, 2) := by decide +kernel
theorem dX4_isDigit_9 : decode cX4_isDigit 9 = .ok (.if_icmp .gt 7, 3) := by decide +kernel
theorem dX4_isDigit_12 : decode cX4_isDigit 12 = .ok (.iconst 1, 1) := by decide +kernel
theorem dX4_isDigit_13 : decode cX4_isDigit 13 = .ok (.goto 4, 3) := by decide +kernel
theorem dX4_isDigit_16 : decode cX4_isDigit 16 = .ok (.iconst 0, 1) := by decide +kernel
theorem dX4_isDigit_17 : decode cX4_isDigit 17 = .ok (.ireturn, 1) := by decide +kernel
theorem dX4_carryOut_0 : decode cX4_carryOut 0 = .ok (.aload_n 0, 1) := by decide +kernel
theorem dX4_carryOut_1 : decode cX4_carryOut 1 = .ok (.getfield 44, 3) := by decide +kernel
theorem dX4_carryOut_4 : decode cX4_carryOut 4 = .ok (.astore_n 2, 1) := by decide +kernel
theorem dX4_carryOut_5 : decode cX4_carryOut 5 = .ok (.aload_n 2, 1) := by decide +kernel
theorem dX4_carryOut_6 : decode cX4_carryOut 6 = .ok (.ifnull 12, 3) := by decide +kernel
theorem dX4_carryOut_9 : decode cX4_carryOut 9 = .ok (.aload_n 0, 1) := by decide +kernel
theorem dX4_carryOut_10 : decode cX4_carryOut 10 = .ok (.aload_n 1, 1) := by decide +kernel
theorem dX4_carryOut_11 : decode cX4_carryOut 11 = .ok (.aload_n 2, 1) := by decide +kernel
theorem dX4_carryOut_12 : decode cX4_carryOut 12 = .ok (.invokevirtual 80, 3) := by decide +kernel
theorem dX4_carryOut_15 : decode cX4_carryOut 15 = .ok (.ifCond .eq 5, 3) := by decide +kernel
theorem dX4_carryOut_18 : decode cX4_carryOut 18 = .ok (.iconst 0, 1) := by decide +kernel
theorem dX4_carryOut_19 : decode cX4_carryOut 19 = .ok (.ireturn, 1) := by decide +kernel
theorem dX4_carryOut_20 : decode cX4_carryOut 20 = .ok (.aload_n 0, 1) := by decide +kernel
theorem dX4_carryOut_21 : decode cX4_carryOut 21 = .ok (.aload_n 1, 1) := by decide +kernel
theorem dX4_carryOut_22 : decode cX4_carryOut 22 = .ok (.aload_n 2, 1) := by decide +kernel
theorem dX4_carryOut_23 : decode cX4_carryOut 23 = .ok (.invokevirtual 84, 3) := by decide +kernel
theorem dX4_carryOut_26 : decode cX4_carryOut 26 = .ok (.iconst 1, 1) := by decide +kernel
theorem dX4_carryOut_27 : decode cX4_carryOut 27 = .ok (.ireturn, 1) := by decide +kernel
theorem dX4_faultOn_0 : decode cX4_faultOn 0 = .ok (.getstatic 88, 3) := by decide +kernel
theorem dX4_faultOn_3 : decode cX4_faultOn 3 = .ok (.aload_n 2, 1) := by decide +kernel
theorem dX4_faultOn_4 : decode cX4_faultOn 4 = .ok (.invokevirtual 93, 3) := by decide +kernel
theorem dX4_faultOn_7 : decode cX4_faultOn 7 = .ok (.iaload, 1) := by decide +kernel
theorem dX4_faultOn_8 : decode cX4_faultOn 8 = .ok (.tableswitch 252 1 8 #[48, 65, 94, 138, 171, 198, 215, 238], 48) := by decide +kernel
theorem dX4_faultOn_56 : decode cX4_faultOn 56 = .ok (.aload_n 1, 1) := by decide +kernel
theorem dX4_faultOn_57 : decode cX4_faultOn 57 = .ok (.aload_n 0, 1) := by decide +kernel
theorem dX4_faultOn_58 : decode cX4_faultOn 58 = .ok (.getfield 15, 3) := by decide +kernel
theorem dX4_faultOn_61 : decode cX4_faultOn 61 = .ok (.iconst 0, 1) := by decide +kernel
theorem dX4_faultOn_62 : decode cX4_faultOn 62 = .ok (.iaload, 1) := by decide +kernel
theorem dX4_faultOn_63 : decode cX4_faultOn 63 = .ok (.aload_n 0, 1) := by decide +kernel
theorem dX4_faultOn_64 : decode cX4_faultOn 64 = .ok (.getfield 15, 3) := by decide +kernel
theorem dX4_faultOn_67 : decode cX4_faultOn 67 = .ok (.iconst 1, 1) := by decide +kernel
theorem dX4_faultOn_68 : decode cX4_faultOn 68 = .ok (.iaload, 1) := by decide +kernel
theorem dX4_faultOn_69 : decode cX4_faultOn 69 = .ok (.invokevirtual 96, 3) := by decide +kernel
theorem dX4_faultOn_72 : decode cX4_faultOn 72 = .ok (.ireturn, 1) := by decide +kernel
theorem dX4_faultOn_73 : decode cX4_faultOn 73 = .ok (.aload_n 1, 1) := by decide +kernel
theorem dX4_faultOn_74 : decode cX4_faultOn 74 = .ok (.getfield 102, 3) := by decide +kernel
theorem dX4_faultOn_77 : decode cX4_faultOn 77 = .ok (.sipush (-1000), 3) := by decide +kernel
theorem dX4_faultOn_80 : decode cX4_faultOn 80 = .ok (.aload_n 0, 1) := by decide +kernel
theorem dX4_faultOn_81 : decode cX4_faultOn 81 = .ok (.getfield 15, 3) := by decide +kernel
theorem dX4_faultOn_84 : decode cX4_faultOn 84 = .ok (.iconst 0, 1) := by decide +kernel
theorem dX4_faultOn_85 : decode cX4_faultOn 85 = .ok (.iaload, 1) := by decide +kernel
theorem dX4_faultOn_86 : decode cX4_faultOn 86 = .ok (.aload_n 0, 1) := by decide +kernel
theorem dX4_faultOn_87 : decode cX4_faultOn 87 = .ok (.getfield 15, 3) := by decide +kernel
theorem dX4_faultOn_90 : decode cX4_faultOn 90 = .ok (.iconst 1, 1) := by decide +kernel
theorem dX4_faultOn_91 : decode cX4_faultOn 91 = .ok (.iaload, 1) := by decide +kernel
theorem dX4_faultOn_92 : decode cX4_faultOn 92 = .ok (.aload_n 0, 1) := by decide +kernel
theorem dX4_faultOn_93 : decode cX4_faultOn 93 = .ok (.getfield 15, 3) := by decide +kernel
theorem dX4_faultOn_96 : decode cX4_faultOn 96 = .ok (.iconst 2, 1) := by decide +kernel
theorem dX4_faultOn_97 : decode cX4_faultOn 97 = .ok (.iaload, 1) := by decide +kernel
theorem dX4_faultOn_98 : decode cX4_faultOn 98 = .ok (.invokevirtual 106, 3) := by decide +kernel
theorem dX4_faultOn_101 : decode cX4_faultOn 101 = .ok (.ireturn, 1) := by decide +kernel
theorem dX4_faultOn_102 : decode cX4_faultOn 102 = .ok (.aload_n 1, 1) := by decide +kernel
theorem dX4_faultOn_103 : decode cX4_faultOn 103 = .ok (.getfield 102, 3) := by decide +kernel
theorem dX4_faultOn_106 : decode cX4_faultOn 106 = .ok (.aload_n 0, 1) := by decide +kernel
theorem dX4_faultOn_107 : decode cX4_faultOn 107 = .ok (.getfield 15, 3) := by decide +kernel
theorem dX4_faultOn_110 : decode cX4_faultOn 110 = .ok (.iconst 0, 1) := by decide +kernel
theorem dX4_faultOn_111 : decode cX4_faultOn 111 = .ok (.iaload, 1) := by decide +kernel
theorem dX4_faultOn_112 : decode cX4_faultOn 112 = .ok (.aload_n 0, 1) := by decide +kernel
theorem dX4_faultOn_113 : decode cX4_faultOn 113 = .ok (.getfield 15, 3) := by decide +kernel
theorem dX4_faultOn_116 : decode cX4_faultOn 116 = .ok (.iconst 1, 1) := by decide +kernel
theorem dX4_faultOn_117 : decode cX4_faultOn 117 = .ok (.iaload, 1) := by decide +kernel
theorem dX4_faultOn_118 : decode cX4_faultOn 118 = .ok (.aload_n 0, 1) := by decide +kernel
theorem dX4_faultOn_119 : decode cX4_faultOn 119 = .ok (.getfield 15, 3) := by decide +kernel
theorem dX4_faultOn_122 : decode cX4_faultOn 122 = .ok (.iconst 2, 1) := by decide +kernel
theorem dX4_faultOn_123 : decode cX4_faultOn 123 = .ok (.iaload, 1) := by decide +kernel
theorem dX4_faultOn_124 : decode cX4_faultOn 124 = .ok (.aload_n 0, 1) := by decide +kernel
theorem dX4_faultOn_125 : decode cX4_faultOn 125 = .ok (.getfield 15, 3) := by decide +kernel
theorem dX4_faultOn_128 : decode cX4_faultOn 128 = .ok (.iconst 3, 1) := by decide +kernel
theorem dX4_faultOn_129 : decode cX4_faultOn 129 = .ok (.iaload, 1) := by decide +kernel
theorem dX4_faultOn_130 : decode cX4_faultOn 130 = .ok (.aload_n 0, 1) := by decide +kernel
theorem dX4_faultOn_131 : decode cX4_faultOn 131 = .ok (.getfield 15, 3) := by decide +kernel
theorem dX4_faultOn_134 : decode cX4_faultOn 134 = .ok (.iconst 4, 1) := by decide +kernel
theorem dX4_faultOn_135 : decode cX4_faultOn 135 = .ok (.iaload, 1) := by decide +kernel
theorem dX4_faultOn_136 : decode cX4_faultOn 136 = .ok (.aload_n 0, 1) := by decide +kernel
theorem dX4_faultOn_137 : decode cX4_faultOn 137 = .ok (.getfield 15, 3) := by decide +kernel
theorem dX4_faultOn_140 : decode cX4_faultOn 140 = .ok (.iconst 5, 1) := by decide +kernel
theorem dX4_faultOn_141 : decode cX4_faultOn 141 = .ok (.iaload, 1) := by decide +kernel
theorem dX4_faultOn_142 : decode cX4_faultOn 142 = .ok (.invokevirtual 112, 3) := by decide +kernel
theorem dX4_faultOn_145 : decode cX4_faultOn 145 = .ok (.ireturn, 1) := by decide +kernel
theorem dX4_faultOn_146 : decode cX4_faultOn 146 = .ok (.aload_n 1, 1) := by decide +kernel
theorem dX4_faultOn_147 : decode cX4_faultOn 147 = .ok (.getfield 102, 3) := by decide +kernel
theorem dX4_faultOn_150 : decode cX4_faultOn 150 = .ok (.aload_n 0, 1) := by decide +kernel
theorem dX4_faultOn_151 : decode cX4_faultOn 151 = .ok (.getfield 15, 3) := by decide +kernel
theorem dX4_faultOn_154 : decode cX4_faultOn 154 = .ok (.iconst 0, 1) := by decide +kernel
theorem dX4_faultOn_155 : decode cX4_faultOn 155 = .ok (.iaload, 1) := by decide +kernel
theorem dX4_faultOn_156 : decode cX4_faultOn 156 = .ok (.aload_n 0, 1) := by decide +kernel
theorem dX4_faultOn_157 : decode cX4_faultOn 157 = .ok (.getfield 15, 3) := by decide +kernel
theorem dX4_faultOn_160 : decode cX4_faultOn 160 = .ok (.iconst 1, 1) := by decide +kernel
theorem dX4_faultOn_161 : decode cX4_faultOn 161 = .ok (.iaload, 1) := by decide +kernel
theorem dX4_faultOn_162 : decode cX4_faultOn 162 = .ok (.aload_n 0, 1) := by decide +kernel
theorem dX4_faultOn_163 : decode cX4_faultOn 163 = .ok (.getfield 15, 3) := by decide +kernel
theorem dX4_faultOn_166 : decode cX4_faultOn 166 = .ok (.iconst 2, 1) := by decide +kernel
theorem dX4_faultOn_167 : decode cX4_faultOn 167 = .ok (.iaload, 1) := by decide +kernel
theorem dX4_faultOn_168 : decode cX4_faultOn 168 = .ok (.aload_n 0, 1) := by decide +kernel
theorem dX4_faultOn_169 : decode cX4_faultOn 169 = .ok (.getfield 15, 3) := by decide +kernel
theorem dX4_faultOn_172 : decode cX4_faultOn 172 = .ok (.iconst 3, 1) := by decide +kernel
theorem dX4_faultOn_173 : decode cX4_faultOn 173 = .ok (.iaload, 1) := by decide +kernel
theorem dX4_faultOn_174 : decode cX4_faultOn 174 = .ok (.ineg, 1) := by decide +kernel
theorem dX4_faultOn_175 : decode cX4_faultOn 175 = .ok (.invokevirtual 116, 3) := by decide +kernel
theorem dX4_faultOn_178 : decode cX4_faultOn 178 = .ok (.ireturn, 1) := by decide +kernel
theorem dX4_faultOn_179 : decode cX4_faultOn 179 = .ok (.aload_n 1, 1) := by decide +kernel
theorem dX4_faultOn_180 : decode cX4_faultOn 180 = .ok (.getfield 119, 3) := by decide +kernel
theorem dX4_faultOn_183 : decode cX4_faultOn 183 = .ok (.aload_n 0, 1) := by decide +kernel
theorem dX4_faultOn_184 : decode cX4_faultOn 184 = .ok (.getfield 15, 3) := by decide +kernel
theorem dX4_faultOn_187 : decode cX4_faultOn 187 = .ok (.iconst 0, 1) := by decide +kernel
theorem dX4_faultOn_188 : decode cX4_faultOn 188 = .ok (.iaload, 1) := by decide +kernel
theorem dX4_faultOn_189 : decode cX4_faultOn 189 = .ok (.ineg, 1) := by decide +kernel
theorem dX4_faultOn_190 : decode cX4_faultOn 190 = .ok (.aload_n 0, 1) := by decide +kernel
theorem dX4_faultOn_191 : decode cX4_faultOn 191 = .ok (.getfield 15, 3) := by decide +kernel
theorem dX4_faultOn_194 : decode cX4_faultOn 194 = .ok (.iconst 1, 1) := by decide +kernel
theorem dX4_faultOn_195 : decode cX4_faultOn 195 = .ok (.iaload, 1) := by decide +kernel
theorem dX4_faultOn_196 : decode cX4_faultOn 196 = .ok (.aload_n 0, 1) := by decide +kernel
theorem dX4_faultOn_197 : decode cX4_faultOn 197 = .ok (.getfield 15, 3) := by decide +kernel
theorem dX4_faultOn_200 : decode cX4_faultOn 200 = .ok (.iconst 2, 1) := by decide +kernel
theorem dX4_faultOn_201 : decode cX4_faultOn 201 = .ok (.iaload, 1) := by decide +kernel
theorem dX4_faultOn_202 : decode cX4_faultOn 202 = .ok (.invokevirtual 123, 3) := by decide +kernel
theorem dX4_faultOn_205 : decode cX4_faultOn 205 = .ok (.ireturn, 1) := by decide +kernel
theorem dX4_faultOn_206 : decode cX4_faultOn 206 = .ok (.aload_n 1, 1) := by decide +kernel
theorem dX4_faultOn_207 : decode cX4_faultOn 207 = .ok (.aload_n 0, 1) := by decide +kernel
theorem dX4_faultOn_208 : decode cX4_faultOn 208 = .ok (.getfield 15, 3) := by decide +kernel
theorem dX4_faultOn_211 : decode cX4_faultOn 211 = .ok (.iconst 0, 1) := by decide +kernel
theorem dX4_faultOn_212 : decode cX4_faultOn 212 = .ok (.iaload, 1) := by decide +kernel
theorem dX4_faultOn_213 : decode cX4_faultOn 213 = .ok (.aload_n 0, 1) := by decide +kernel
theorem dX4_faultOn_214 : decode cX4_faultOn 214 = .ok (.getfield 15, 3) := by decide +kernel
theorem dX4_faultOn_217 : decode cX4_faultOn 217 = .ok (.iconst 1, 1) := by decide +kernel
theorem dX4_faultOn_218 : decode cX4_faultOn 218 = .ok (.iaload, 1) := by decide +kernel
theorem dX4_faultOn_219 : decode cX4_faultOn 219 = .ok (.invokevirtual 129, 3) := by decide +kernel
theorem dX4_faultOn_222 : decode cX4_faultOn 222 = .ok (.ireturn, 1) := by decide +kernel
theorem dX4_faultOn_223 : decode cX4_faultOn 223 = .ok (.aload_n 1, 1) := by decide +kernel
theorem dX4_faultOn_224 : decode cX4_faultOn 224 = .ok (.aload_n 0, 1) := by decide +kernel
theorem dX4_faultOn_225 : decode cX4_faultOn 225 = .ok (.getfield 15, 3) := by decide +kernel
theorem dX4_faultOn_228 : decode cX4_faultOn 228 = .ok (.iconst 0, 1) := by decide +kernel
theorem dX4_faultOn_229 : decode cX4_faultOn 229 = .ok (.iaload, 1) := by decide +kernel
theorem dX4_faultOn_230 : decode cX4_faultOn 230 = .ok (.aload_n 0, 1) := by decide +kernel
theorem dX4_faultOn_231 : decode cX4_faultOn 231 = .ok (.getfield 15, 3) := by decide +kernel
theorem dX4_faultOn_234 : decode cX4_faultOn 234 = .ok (.iconst 1, 1) := by decide +kernel
theorem dX4_faultOn_235 : decode cX4_faultOn 235 = .ok (.iaload, 1) := by decide +kernel
theorem dX4_faultOn_236 : decode cX4_faultOn 236 = .ok (.aload_n 0, 1) := by decide +kernel
theorem dX4_faultOn_237 : decode cX4_faultOn 237 = .ok (.getfield 15, 3) := by decide +kernel
theorem dX4_faultOn_240 : decode cX4_faultOn 240 = .ok (.iconst 2, 1) := by decide +kernel
theorem dX4_faultOn_241 : decode cX4_faultOn 241 = .ok (.iaload, 1) := by decide +kernel
theorem dX4_faultOn_242 : decode cX4_faultOn 242 = .ok (.invokevirtual 132, 3) := by decide +kernel
theorem dX4_faultOn_245 : decode cX4_faultOn 245 = .ok (.ireturn, 1) := by decide +kernel
theorem dX4_faultOn_246 : decode cX4_faultOn 246 = .ok (.aload_n 1, 1) := by decide +kernel
theorem dX4_faultOn_247 : decode cX4_faultOn 247 = .ok (.getfield 102, 3) := by decide +kernel
theorem dX4_faultOn_250 : decode cX4_faultOn 250 = .ok (.aload_n 0, 1) := by decide +kernel
theorem dX4_faultOn_251 : decode cX4_faultOn 251 = .ok (.getfield 15, 3) := by decide +kernel
theorem dX4_faultOn_254 : decode cX4_faultOn 254 = .ok (.iconst 0, 1) := by decide +kernel
theorem dX4_faultOn_255 : decode cX4_faultOn 255 = .ok (.iaload, 1) := by decide +kernel
theorem dX4_faultOn_256 : decode cX4_faultOn 256 = .ok (.invokevirtual 135, 3) := by decide +kernel
theorem dX4_faultOn_259 : decode cX4_faultOn 259 = .ok (.ireturn, 1) := by decide +kernel
theorem dX4_faultOn_260 : decode cX4_faultOn 260 = .ok (.aload_n 1, 1) := by decide +kernel
theorem dX4_faultOn_261 : decode cX4_faultOn 261 = .ok (.aload_n 0, 1) := by decide +kernel
theorem dX4_faultOn_262 : decode cX4_faultOn 262 = .ok (.getfield 15, 3) := by decide +kernel
theorem dX4_faultOn_265 : decode cX4_faultOn 265 = .ok (.iconst 0, 1) := by decide +kernel
theorem dX4_faultOn_266 : decode cX4_faultOn 266 = .ok (.iaload, 1) := by decide +kernel
theorem dX4_faultOn_267 : decode cX4_faultOn 267 = .ok (.invokevirtual 138, 3) := by decide +kernel
theorem dX4_faultOn_270 : decode cX4_faultOn 270 = .ok (.ireturn, 1) := by decide +kernel
theorem dX4_applyTo_0 : decode cX4_applyTo 0 = .ok (.getstatic 88, 3) := by decide +kernel
theorem dX4_applyTo_3 : decode cX4_applyTo 3 = .ok (.aload_n 2, 1) := by decide +kernel
theorem dX4_applyTo_4 : decode cX4_applyTo 4 = .ok (.invokevirtual 93, 3) := by decide +kernel
theorem dX4_applyTo_7 : decode cX4_applyTo 7 = .ok (.iaload, 1) := by decide +kernel
theorem dX4_applyTo_8 : decode cX4_applyTo 8 = .ok (.tableswitch 276 1 8 #[48, 68, 100, 147, 183, 213, 233, 259], 48) := by decide +kernel
theorem dX4_applyTo_56 : decode cX4_applyTo 56 = .ok (.aload_n 1, 1) := by decide +kernel
theorem dX4_applyTo_57 : decode cX4_applyTo 57 = .ok (.aload_n 0, 1) := by decide +kernel
theorem dX4_applyTo_58 : decode cX4_applyTo 58 = .ok (.getfield 15, 3) := by decide +kernel
theorem dX4_applyTo_61 : decode cX4_applyTo 61 = .ok (.iconst 0, 1) := by decide +kernel
theorem dX4_applyTo_62 : decode cX4_applyTo 62 = .ok (.iaload, 1) := by decide +kernel
theorem dX4_applyTo_63 : decode cX4_applyTo 63 = .ok (.aload_n 0, 1) := by decide +kernel
theorem dX4_applyTo_64 : decode cX4_applyTo 64 = .ok (.getfield 15, 3) := by decide +kernel
theorem dX4_applyTo_67 : decode cX4_applyTo 67 = .ok (.iconst 1, 1) := by decide +kernel
theorem dX4_applyTo_68 : decode cX4_applyTo 68 = .ok (.iaload, 1) := by decide +kernel
theorem dX4_applyTo_69 : decode cX4_applyTo 69 = .ok (.invokevirtual 141, 3) := by decide +kernel
theorem dX4_applyTo_72 : decode cX4_applyTo 72 = .ok (.pop, 1) := by decide +kernel
theorem dX4_applyTo_73 : decode cX4_applyTo 73 = .ok (.goto 222, 3) := by decide +kernel
theorem dX4_applyTo_76 : decode cX4_applyTo 76 = .ok (.aload_n 1, 1) := by decide +kernel
theorem dX4_applyTo_77 : decode cX4_applyTo 77 = .ok (.getfield 102, 3) := by decide +kernel
theorem dX4_applyTo_80 : decode cX4_applyTo 80 = .ok (.sipush (-1000), 3) := by decide +kernel
theorem dX4_applyTo_83 : decode cX4_applyTo 83 = .ok (.aload_n 0, 1) := by decide +kernel
theorem dX4_applyTo_84 : decode cX4_applyTo 84 = .ok (.getfield 15, 3) := by decide +kernel
theorem dX4_applyTo_87 : decode cX4_applyTo 87 = .ok (.iconst 0, 1) := by decide +kernel
theorem dX4_applyTo_88 : decode cX4_applyTo 88 = .ok (.iaload, 1) := by decide +kernel
theorem dX4_applyTo_89 : decode cX4_applyTo 89 = .ok (.aload_n 0, 1) := by decide +kernel
theorem dX4_applyTo_90 : decode cX4_applyTo 90 = .ok (.getfield 15, 3) := by decide +kernel
theorem dX4_applyTo_93 : decode cX4_applyTo 93 = .ok (.iconst 1, 1) := by decide +kernel
theorem dX4_applyTo_94 : decode cX4_applyTo 94 = .ok (.iaload, 1) := by decide +kernel
theorem dX4_applyTo_95 : decode cX4_applyTo 95 = .ok (.aload_n 0, 1) := by decide +kernel
theorem dX4_applyTo_96 : decode cX4_applyTo 96 = .ok (.getfield 15, 3) := by decide +kernel
theorem dX4_applyTo_99 : decode cX4_applyTo 99 = .ok (.iconst 2, 1) := by decide +kernel
theorem dX4_applyTo_100 : decode cX4_applyTo 100 = .ok (.iaload, 1) := by decide +kernel
theorem dX4_applyTo_101 : decode cX4_applyTo 101 = .ok (.invokevirtual 144, 3) := by decide +kernel
theorem dX4_applyTo_104 : decode cX4_applyTo 104 = .ok (.pop, 1) := by decide +kernel
theorem dX4_applyTo_105 : decode cX4_applyTo 105 = .ok (.goto 190, 3) := by decide +kernel
theorem dX4_applyTo_108 : decode cX4_applyTo 108 = .ok (.aload_n 1, 1) := by decide +kernel
theorem dX4_applyTo_109 : decode cX4_applyTo 109 = .ok (.getfield 102, 3) := by decide +kernel
theorem dX4_applyTo_112 : decode cX4_applyTo 112 = .ok (.aload_n 0, 1) := by decide +kernel
theorem dX4_applyTo_113 : decode cX4_applyTo 113 = .ok (.getfield 15, 3) := by decide +kernel
theorem dX4_applyTo_116 : decode cX4_applyTo 116 = .ok (.iconst 0, 1) := by decide +kernel
theorem dX4_applyTo_117 : decode cX4_applyTo 117 = .ok (.iaload, 1) := by decide +kernel
theorem dX4_applyTo_118 : decode cX4_applyTo 118 = .ok (.aload_n 0, 1) := by decide +kernel
theorem dX4_applyTo_119 : decode cX4_applyTo 119 = .ok (.getfield 15, 3) := by decide +kernel
theorem dX4_applyTo_122 : decode cX4_applyTo 122 = .ok (.iconst 1, 1) := by decide +kernel
theorem dX4_applyTo_123 : decode cX4_applyTo 123 = .ok (.iaload, 1) := by decide +kernel
theorem dX4_applyTo_124 : decode cX4_applyTo 124 = .ok (.aload_n 0, 1) := by decide +kernel
theorem dX4_applyTo_125 : decode cX4_applyTo 125 = .ok (.getfield 15, 3) := by decide +kernel
theorem dX4_applyTo_128 : decode cX4_applyTo 128 = .ok (.iconst 2, 1) := by decide +kernel
theorem dX4_applyTo_129 : decode cX4_applyTo 129 = .ok (.iaload, 1) := by decide +kernel
theorem dX4_applyTo_130 : decode cX4_applyTo 130 = .ok (.aload_n 0, 1) := by decide +kernel
theorem dX4_applyTo_131 : decode cX4_applyTo 131 = .ok (.getfield 15, 3) := by decide +kernel
theorem dX4_applyTo_134 : decode cX4_applyTo 134 = .ok (.iconst 3, 1) := by decide +kernel
theorem dX4_applyTo_135 : decode cX4_applyTo 135 = .ok (.iaload, 1) := by decide +kernel
theorem dX4_applyTo_136 : decode cX4_applyTo 136 = .ok (.aload_n 0, 1) := by decide +kernel
theorem dX4_applyTo_137 : decode cX4_applyTo 137 = .ok (.getfield 15, 3) := by decide +kernel
theorem dX4_applyTo_140 : decode cX4_applyTo 140 = .ok (.iconst 4, 1) := by decide +kernel
theorem dX4_applyTo_141 : decode cX4_applyTo 141 = .ok (.iaload, 1) := by decide +kernel
theorem dX4_applyTo_142 : decode cX4_applyTo 142 = .ok (.aload_n 0, 1) := by decide +kernel
theorem dX4_applyTo_143 : decode cX4_applyTo 143 = .ok (.getfield 15, 3) := by decide +kernel
theorem dX4_applyTo_146 : decode cX4_applyTo 146 = .ok (.iconst 5, 1) := by decide +kernel
theorem dX4_applyTo_147 : decode cX4_applyTo 147 = .ok (.iaload, 1) := by decide +kernel
theorem dX4_applyTo_148 : decode cX4_applyTo 148 = .ok (.invokevirtual 147, 3) := by decide +kernel
theorem dX4_applyTo_151 : decode cX4_applyTo 151 = .ok (.pop, 1) := by decide +kernel
theorem dX4_applyTo_152 : decode cX4_applyTo 152 = .ok (.goto 143, 3) := by decide +kernel
theorem dX4_applyTo_155 : decode cX4_applyTo 155 = .ok (.aload_n 1, 1) := by decide +kernel
theorem dX4_applyTo_156 : decode cX4_applyTo 156 = .ok (.getfield 102, 3) := by decide +kernel
theorem dX4_applyTo_159 : decode cX4_applyTo 159 = .ok (.aload_n 0, 1) := by decide +kernel
theorem dX4_applyTo_160 : decode cX4_applyTo 160 = .ok (.getfield 15, 3) := by decide +kernel
theorem dX4_applyTo_163 : decode cX4_applyTo 163 = .ok (.iconst 0, 1) := by decide +kernel
theorem dX4_applyTo_164 : decode cX4_applyTo 164 = .ok (.iaload, 1) := by decide +kernel
theorem dX4_applyTo_165 : decode cX4_applyTo 165 = .ok (.aload_n 0, 1) := by decide +kernel
theorem dX4_applyTo_166 : decode cX4_applyTo 166 = .ok (.getfield 15, 3) := by decide +kernel
theorem dX4_applyTo_169 : decode cX4_applyTo 169 = .ok (.iconst 1, 1) := by decide +kernel
theorem dX4_applyTo_170 : decode cX4_applyTo 170 = .ok (.iaload, 1) := by decide +kernel
theorem dX4_applyTo_171 : decode cX4_applyTo 171 = .ok (.aload_n 0, 1) := by decide +kernel
theorem dX4_applyTo_172 : decode cX4_applyTo 172 = .ok (.getfield 15, 3) := by decide +kernel
theorem dX4_applyTo_175 : decode cX4_applyTo 175 = .ok (.iconst 2, 1) := by decide +kernel
theorem dX4_applyTo_176 : decode cX4_applyTo 176 = .ok (.iaload, 1) := by decide +kernel
theorem dX4_applyTo_177 : decode cX4_applyTo 177 = .ok (.aload_n 0, 1) := by decide +kernel
theorem dX4_applyTo_178 : decode cX4_applyTo 178 = .ok (.getfield 15, 3) := by decide +kernel
theorem dX4_applyTo_181 : decode cX4_applyTo 181 = .ok (.iconst 3, 1) := by decide +kernel
theorem dX4_applyTo_182 : decode cX4_applyTo 182 = .ok (.iaload, 1) := by decide +kernel
theorem dX4_applyTo_183 : decode cX4_applyTo 183 = .ok (.ineg, 1) := by decide +kernel
theorem dX4_applyTo_184 : decode cX4_applyTo 184 = .ok (.invokevirtual 150, 3) := by decide +kernel
theorem dX4_applyTo_187 : decode cX4_applyTo 187 = .ok (.pop, 1) := by decide +kernel
theorem dX4_applyTo_188 : decode cX4_applyTo 188 = .ok (.goto 107, 3) := by decide +kernel
theorem dX4_applyTo_191 : decode cX4_applyTo 191 = .ok (.aload_n 1, 1) := by decide +kernel
theorem dX4_applyTo_192 : decode cX4_applyTo 192 = .ok (.getfield 119, 3) := by decide +kernel
theorem dX4_applyTo_195 : decode cX4_applyTo 195 = .ok (.aload_n 0, 1) := by decide +kernel
theorem dX4_applyTo_196 : decode cX4_applyTo 196 = .ok (.getfield 15, 3) := by decide +kernel
theorem dX4_applyTo_199 : decode cX4_applyTo 199 = .ok (.iconst 0, 1) := by decide +kernel
theorem dX4_applyTo_200 : decode cX4_applyTo 200 = .ok (.iaload, 1) := by decide +kernel
theorem dX4_applyTo_201 : decode cX4_applyTo 201 = .ok (.ineg, 1) := by decide +kernel
theorem dX4_applyTo_202 : decode cX4_applyTo 202 = .ok (.aload_n 0, 1) := by decide +kernel
theorem dX4_applyTo_203 : decode cX4_applyTo 203 = .ok (.getfield 15, 3) := by decide +kernel
theorem dX4_applyTo_206 : decode cX4_applyTo 206 = .ok (.iconst 1, 1) := by decide +kernel
theorem dX4_applyTo_207 : decode cX4_applyTo 207 = .ok (.iaload, 1) := by decide +kernel
theorem dX4_applyTo_208 : decode cX4_applyTo 208 = .ok (.aload_n 0, 1) := by decide +kernel
theorem dX4_applyTo_209 : decode cX4_applyTo 209 = .ok (.getfield 15, 3) := by decide +kernel
theorem dX4_applyTo_212 : decode cX4_applyTo 212 = .ok (.iconst 2, 1) := by decide +kernel
theorem dX4_applyTo_213 : decode cX4_applyTo 213 = .ok (.iaload, 1) := by decide +kernel
theorem dX4_applyTo_214 : decode cX4_applyTo 214 = .ok (.invokevirtual 153, 3) := by decide +kernel
theorem dX4_applyTo_217 : decode cX4_applyTo 217 = .ok (.pop, 1) := by decide +kernel
theorem dX4_applyTo_218 : decode cX4_applyTo 218 = .ok (.goto 77, 3) := by decide +kernel
theorem dX4_applyTo_221 : decode cX4_applyTo 221 = .ok (.aload_n 1, 1) := by decide +kernel
theorem dX4_applyTo_222 : decode cX4_applyTo 222 = .ok (.aload_n 0, 1) := by decide +kernel
theorem dX4_applyTo_223 : decode cX4_applyTo 223 = .ok (.getfield 15, 3) := by decide +kernel
theorem dX4_applyTo_226 : decode cX4_applyTo 226 = .ok (.iconst 0, 1) := by decide +kernel
theorem dX4_applyTo_227 : decode cX4_applyTo 227 = .ok (.iaload, 1) := by decide +kernel
theorem dX4_applyTo_228 : decode cX4_applyTo 228 = .ok (.aload_n 0, 1) := by decide +kernel
theorem dX4_applyTo_229 : decode cX4_applyTo 229 = .ok (.getfield 15, 3) := by decide +kernel
theorem dX4_applyTo_232 : decode cX4_applyTo 232 = .ok (.iconst 1, 1) := by decide +kernel
theorem dX4_applyTo_233 : decode cX4_applyTo 233 = .ok (.iaload, 1) := by decide +kernel
theorem dX4_applyTo_234 : decode cX4_applyTo 234 = .ok (.invokevirtual 156, 3) := by decide +kernel
theorem dX4_applyTo_237 : decode cX4_applyTo 237 = .ok (.pop, 1) := by decide +kernel
theorem dX4_applyTo_238 : decode cX4_applyTo 238 = .ok (.goto 57, 3) := by decide +kernel
theorem dX4_applyTo_241 : decode cX4_applyTo 241 = .ok (.aload_n 1, 1) := by decide +kernel
theorem dX4_applyTo_242 : decode cX4_applyTo 242 = .ok (.aload_n 0, 1) := by decide +kernel
theorem dX4_applyTo_243 : decode cX4_applyTo 243 = .ok (.getfield 15, 3) := by decide +kernel
theorem dX4_applyTo_246 : decode cX4_applyTo 246 = .ok (.iconst 0, 1) := by decide +kernel
theorem dX4_applyTo_247 : decode cX4_applyTo 247 = .ok (.iaload, 1) := by decide +kernel
theorem dX4_applyTo_248 : decode cX4_applyTo 248 = .ok (.aload_n 0, 1) := by decide +kernel
theorem dX4_applyTo_249 : decode cX4_applyTo 249 = .ok (.getfield 15, 3) := by decide +kernel
theorem dX4_applyTo_252 : decode cX4_applyTo 252 = .ok (.iconst 1, 1) := by decide +kernel
theorem dX4_applyTo_253 : decode cX4_applyTo 253 = .ok (.iaload, 1) := by decide +kernel
theorem dX4_applyTo_254 : decode cX4_applyTo 254 = .ok (.aload_n 0, 1) := by decide +kernel
theorem dX4_applyTo_255 : decode cX4_applyTo 255 = .ok (.getfield 15, 3) := by decide +kernel
theorem dX4_applyTo_258 : decode cX4_applyTo 258 = .ok (.iconst 2, 1) := by decide +kernel
theorem dX4_applyTo_259 : decode cX4_applyTo 259 = .ok (.iaload, 1) := by decide +kernel
theorem dX4_applyTo_260 : decode cX4_applyTo 260 = .ok (.invokevirtual 159, 3) := by decide +kernel
theorem dX4_applyTo_263 : decode cX4_applyTo 263 = .ok (.pop, 1) := by decide +kernel
theorem dX4_applyTo_264 : decode cX4_applyTo 264 = .ok (.goto 31, 3) := by decide +kernel
theorem dX4_applyTo_267 : decode cX4_applyTo 267 = .ok (.aload_n 1, 1) := by decide +kernel
theorem dX4_applyTo_268 : decode cX4_applyTo 268 = .ok (.getfield 102, 3) := by decide +kernel
theorem dX4_applyTo_271 : decode cX4_applyTo 271 = .ok (.aload_n 0, 1) := by decide +kernel
theorem dX4_applyTo_272 : decode cX4_applyTo 272 = .ok (.getfield 15, 3) := by decide +kernel
theorem dX4_applyTo_275 : decode cX4_applyTo 275 = .ok (.iconst 0, 1) := by decide +kernel
theorem dX4_applyTo_276 : decode cX4_applyTo 276 = .ok (.iaload, 1) := by decide +kernel
theorem dX4_applyTo_277 : decode cX4_applyTo 277 = .ok (.invokevirtual 162, 3) := by decide +kernel
theorem dX4_applyTo_280 : decode cX4_applyTo 280 = .ok (.pop, 1) := by decide +kernel
theorem dX4_applyTo_281 : decode cX4_applyTo 281 = .ok (.goto 14, 3) := by decide +kernel
theorem dX4_applyTo_284 : decode cX4_applyTo 284 = .ok (.aload_n 1, 1) := by decide +kernel
theorem dX4_applyTo_285 : decode cX4_applyTo 285 = .ok (.aload_n 0, 1) := by decide +kernel
theorem dX4_applyTo_286 : decode cX4_applyTo 286 = .ok (.getfield 15, 3) := by decide +kernel
theorem dX4_applyTo_289 : decode cX4_applyTo 289 = .ok (.iconst 0, 1) := by decide +kernel
theorem dX4_applyTo_290 : decode cX4_applyTo 290 = .ok (.iaload, 1) := by decide +kernel
theorem dX4_applyTo_291 : decode cX4_applyTo 291 = .ok (.invokevirtual 165, 3) := by decide +kernel
theorem dX4_applyTo_294 : decode cX4_applyTo 294 = .ok (.pop, 1) := by decide +kernel
theorem dX4_applyTo_295 : decode cX4_applyTo 295 = .ok (.return_, 1) := by decide +kernel
theorem dX5_init_0 : decode cX5_init 0 = .ok (.aload_n 0, 1) := by decide +kernel
theorem dX5_init_1 : decode cX5_init 1 = .ok (.invokespecial 3, 3) := by decide +kernel
theorem dX5_init_4 : decode cX5_init 4 = .ok (.aload_n 0, 1) := by decide +kernel
theorem dX5_init_5 : decode cX5_init 5 = .ok (.new 9, 3) := by decide +kernel
theorem dX5_init_8 : decode cX5_init 8 = .ok (.dup, 1) := by decide +kernel
theorem dX5_init_9 : decode cX5_init 9 = .ok (.invokespecial 11, 3) := by decide +kernel
theorem dX5_init_12 : decode cX5_init 12 = .ok (.putfield 12, 3) := by decide +kernel
theorem dX5_init_15 : decode cX5_init 15 = .ok (.aload_n 0, 1) := by decide +kernel
theorem dX5_init_16 : decode cX5_init 16 = .ok (.new 18, 3) := by decide +kernel
theorem dX5_init_19 : decode cX5_init 19 = .ok (.dup, 1) := by decide +kernel
theorem dX5_init_20 : decode cX5_init 20 = .ok (.invokespecial 20, 3) := by decide +kernel
theorem dX5_init_23 : decode cX5_init 23 = .ok (.putfield 21, 3) := by decide +kernel
theorem dX5_init_26 : decode cX5_init 26 = .ok (.aload_n 0, 1) := by decide +kernel
theorem dX5_init_27 : decode cX5_init 27 = .ok (.iconst 4, 1) := by decide +kernel
theorem dX5_init_28 : decode cX5_init 28 = .ok (.newarray .int, 2) := by decide +kernel
theorem dX5_init_30 : decode cX5_init 30 = .ok (.putfield 25, 3) := by decide +kernel
theorem dX5_init_33 : decode cX5_init 33 = .ok (.aload_n 0, 1) := by decide +kernel
theorem dX5_init_34 : decode cX5_init 34 = .ok (.bipush 80, 2) := by decide +kernel
theorem dX5_init_36 : decode cX5_init 36 = .ok (.putfield 29, 3) := by decide +kernel
theorem dX5_init_39 : decode cX5_init 39 = .ok (.aload_n 0, 1) := by decide +kernel
theorem dX5_init_40 : decode cX5_init 40 = .ok (.bipush 40, 2) := by decide +kernel
theorem dX5_init_42 : decode cX5_init 42 = .ok (.putfield 33, 3) := by decide +kernel
theorem dX5_init_45 : decode cX5_init 45 = .ok (.aload_n 0, 1) := by decide +kernel
theorem dX5_init_46 : decode cX5_init 46 = .ok (.getfield 25, 3) := by decide +kernel
theorem dX5_init_49 : decode cX5_init 49 = .ok (.iconst 0, 1) := by decide +kernel
theorem dX5_init_50 : decode cX5_init 50 = .ok (.bipush 20, 2) := by decide +kernel
theorem dX5_init_52 : decode cX5_init 52 = .ok (.iastore, 1) := by decide +kernel
theorem dX5_init_53 : decode cX5_init 53 = .ok (.aload_n 0, 1) := by decide +kernel
theorem dX5_init_54 : decode cX5_init 54 = .ok (.getfield 25, 3) := by decide +kernel
theorem dX5_init_57 : decode cX5_init 57 = .ok (.iconst 1, 1) := by decide +kernel
theorem dX5_init_58 : decode cX5_init 58 = .ok (.iconst 1, 1) := by decide +kernel
theorem dX5_init_59 : decode cX5_init 59 = .ok (.iastore, 1) := by decide +kernel
theorem dX5_init_60 : decode cX5_init 60 = .ok (.aload_n 0, 1) := by decide +kernel
theorem dX5_init_61 : decode cX5_init 61 = .ok (.getfield 25, 3) := by decide +kernel
theorem dX5_init_64 : decode cX5_init 64 = .ok (.iconst 2, 1) := by decide +kernel
theorem dX5_init_65 : decode cX5_init 65 = .ok (.iconst 4, 1) := by decide +kernel
theorem dX5_init_66 : decode cX5_init 66 = .ok (.iastore, 1) := by decide +kernel
theorem dX5_init_67 : decode cX5_init 67 = .ok (.aload_n 0, 1) := by decide +kernel
theorem dX5_init_68 : decode cX5_init 68 = .ok (.getfield 25, 3) := by decide +kernel
theorem dX5_init_71 : decode cX5_init 71 = .ok (.iconst 3, 1) := by decide +kernel
theorem dX5_init_72 : decode cX5_init 72 = .ok (.bipush 10, 2) := by decide +kernel
theorem dX5_init_74 : decode cX5_init 74 = .ok (.iastore, 1) := by decide +kernel
theorem dX5_init_75 : decode cX5_init 75 = .ok (.return_, 1) := by decide +kernel
theorem dX5_faultOfFrame_0 : decode cX5_faultOfFrame 0 = .ok (.iload_n 1, 1) := by decide +kernel
theorem dX5_faultOfFrame_1 : decode cX5_faultOfFrame 1 = .ok (.bipush 20, 2) := by decide +kernel
theorem dX5_faultOfFrame_3 : decode cX5_faultOfFrame 3 = .ok (.sipush 200, 3) := by decide +kernel
theorem dX5_faultOfFrame_6 : decode cX5_faultOfFrame 6 = .ok (.invokestatic 36, 3) := by decide +kernel
theorem dX5_faultOfFrame_9 : decode cX5_faultOfFrame 9 = .ok (.ifCond .eq 18, 3) := by decide +kernel
theorem dX5_faultOfFrame_12 : decode cX5_faultOfFrame 12 = .ok (.iload_n 2, 1) := by decide +kernel
theorem dX5_faultOfFrame_13 : decode cX5_faultOfFrame 13 = .ok (.bipush 10, 2) := by decide +kernel
theorem dX5_faultOfFrame_15 : decode cX5_faultOfFrame 15 = .ok (.bipush 120, 2) := by decide +kernel
theorem dX5_faultOfFrame_17 : decode cX5_faultOfFrame 17 = .ok (.invokestatic 36, 3) := by decide +kernel
theorem dX5_faultOfFrame_20 : decode cX5_faultOfFrame 20 = .ok (.ifCond .eq 7, 3) := by decide +kernel
theorem dX5_faultOfFrame_23 : decode cX5_faultOfFrame 23 = .ok (.iconst 0, 1) := by decide +kernel
theorem dX5_faultOfFrame_24 : decode cX5_faultOfFrame 24 = .ok (.goto 4, 3) := by decide +kernel
theorem dX5_faultOfFrame_27 : decode cX5_faultOfFrame 27 = .ok (.iconst 2, 1) := by decide +kernel
theorem dX5_faultOfFrame_28 : decode cX5_faultOfFrame 28 = .ok (.ireturn, 1) := by decide +kernel
theorem dX5_reframe_0 : decode cX5_reframe 0 = .ok (.aload_n 0, 1) := by decide +kernel
theorem dX5_reframe_1 : decode cX5_reframe 1 = .ok (.getfield 21, 3) := by decide +kernel
theorem dX5_reframe_4 : decode cX5_reframe 4 = .ok (.getfield 40, 3) := by decide +kernel
theorem dX5_reframe_7 : decode cX5_reframe 7 = .ok (.istore_n 3, 1) := by decide +kernel
theorem dX5_reframe_8 : decode cX5_reframe 8 = .ok (.aload_n 0, 1) := by decide +kernel
theorem dX5_reframe_9 : decode cX5_reframe 9 = .ok (.iload_n 1, 1) := by decide +kernel
theorem dX5_reframe_10 : decode cX5_reframe 10 = .ok (.putfield 29, 3) := by decide +kernel
theorem dX5_reframe_13 : decode cX5_reframe 13 = .ok (.aload_n 0, 1) := by decide +kernel
theorem dX5_reframe_14 : decode cX5_reframe 14 = .ok (.iload_n 2, 1) := by decide +kernel
theorem dX5_reframe_15 : decode cX5_reframe 15 = .ok (.putfield 33, 3) := by decide +kernel
theorem dX5_reframe_18 : decode cX5_reframe 18 = .ok (.aload_n 0, 1) := by decide +kernel
theorem dX5_reframe_19 : decode cX5_reframe 19 = .ok (.getfield 12, 3) := by decide +kernel
theorem dX5_reframe_22 : decode cX5_reframe 22 = .ok (.iconst 0, 1) := by decide +kernel
theorem dX5_reframe_23 : decode cX5_reframe 23 = .ok (.putfield 43, 3) := by decide +kernel
theorem dX5_reframe_26 : decode cX5_reframe 26 = .ok (.aload_n 0, 1) := by decide +kernel
theorem dX5_reframe_27 : decode cX5_reframe 27 = .ok (.getfield 21, 3) := by decide +kernel
theorem dX5_reframe_30 : decode cX5_reframe 30 = .ok (.invokevirtual 46, 3) := by decide +kernel
theorem dX5_reframe_33 : decode cX5_reframe 33 = .ok (.aload_n 0, 1) := by decide +kernel
theorem dX5_reframe_34 : decode cX5_reframe 34 = .ok (.iconst 0, 1) := by decide +kernel
theorem dX5_reframe_35 : decode cX5_reframe 35 = .ok (.iconst 0, 1) := by decide +kernel
theorem dX5_reframe_36 : decode cX5_reframe 36 = .ok (.iconst 0, 1) := by decide +kernel
theorem dX5_reframe_37 : decode cX5_reframe 37 = .ok (.invokevirtual 49, 3) := by decide +kernel
theorem dX5_reframe_40 : decode cX5_reframe 40 = .ok (.pop, 1) := by decide +kernel
theorem dX5_reframe_41 : decode cX5_reframe 41 = .ok (.iload_n 3, 1) := by decide +kernel
theorem dX5_reframe_42 : decode cX5_reframe 42 = .ok (.ireturn, 1) := by decide +kernel
theorem dX5_faultOfCell_0 : decode cX5_faultOfCell 0 = .ok (.iload_n 1, 1) := by decide +kernel
theorem dX5_faultOfCell_1 : decode cX5_faultOfCell 1 = .ok (.iconst 0, 1) := by decide +kernel
theorem dX5_faultOfCell_2 : decode cX5_faultOfCell 2 = .ok (.aload_n 0, 1) := by decide +kernel
theorem dX5_faultOfCell_3 : decode cX5_faultOfCell 3 = .ok (.getfield 29, 3) := by decide +kernel
theorem dX5_faultOfCell_6 : decode cX5_faultOfCell 6 = .ok (.iconst 1, 1) := by decide +kernel
theorem dX5_faultOfCell_7 : decode cX5_faultOfCell 7 = .ok (.isub, 1) := by decide +kernel
theorem dX5_faultOfCell_8 : decode cX5_faultOfCell 8 = .ok (.invokestatic 36, 3) := by decide +kernel
theorem dX5_faultOfCell_11 : decode cX5_faultOfCell 11 = .ok (.ifCond .eq 21, 3) := by decide +kernel
theorem dX5_faultOfCell_14 : decode cX5_faultOfCell 14 = .ok (.iload_n 2, 1) := by decide +kernel
theorem dX5_faultOfCell_15 : decode cX5_faultOfCell 15 = .ok (.iconst 0, 1) := by decide +kernel
theorem dX5_faultOfCell_16 : decode cX5_faultOfCell 16 = .ok (.aload_n 0, 1) := by decide +kernel
theorem dX5_faultOfCell_17 : decode cX5_faultOfCell 17 = .ok (.getfield 33, 3) := by decide +kernel
theorem dX5_faultOfCell_20 : decode cX5_faultOfCell 20 = .ok (.iconst 1, 1) := by decide +kernel
theorem dX5_faultOfCell_21 : decode cX5_faultOfCell 21 = .ok (.isub, 1) := by decide +kernel
theorem dX5_faultOfCell_22 : decode cX5_faultOfCell 22 = .ok (.invokestatic 36, 3) := by decide +kernel
theorem dX5_faultOfCell_25 : decode cX5_faultOfCell 25 = .ok (.ifCond .eq 7, 3) := by decide +kernel
theorem dX5_faultOfCell_28 : decode cX5_faultOfCell 28 = .ok (.iconst 0, 1) := by decide +kernel
theorem dX5_faultOfCell_29 : decode cX5_faultOfCell 29 = .ok (.goto 4, 3) := by decide +kernel
theorem dX5_faultOfCell_32 : decode cX5_faultOfCell 32 = .ok (.iconst 1, 1) := by decide +kernel
theorem dX5_faultOfCell_33 : decode cX5_faultOfCell 33 = .ok (.ireturn, 1) := by decide +kernel
theorem dX5_faultOfSetting_0 : decode cX5_faultOfSetting 0 = .ok (.iload_n 1, 1) := by decide +kernel
theorem dX5_faultOfSetting_1 : decode cX5_faultOfSetting 1 = .ok (.ifCond .lt 8, 3) := by decide +kernel
theorem dX5_faultOfSetting_4 : decode cX5_faultOfSetting 4 = .ok (.iload_n 1, 1) := by decide +kernel
theorem dX5_faultOfSetting_5 : decode cX5_faultOfSetting 5 = .ok (.iconst 4, 1) := by decide +kernel
theorem dX5_faultOfSetting_6 : decode cX5_faultOfSetting 6 = .ok (.if_icmp .lt 5, 3) := by decide +kernel
theorem dX5_faultOfSetting_9 : decode cX5_faultOfSetting 9 = .ok (.iconst 2, 1) := by decide +kernel
theorem dX5_faultOfSetting_10 : decode cX5_faultOfSetting 10 = .ok (.ireturn, 1) := by decide +kernel
theorem dX5_faultOfSetting_11 : decode cX5_faultOfSetting 11 = .ok (.iload_n 2, 1) := by decide +kernel
theorem dX5_faultOfSetting_12 : decode cX5_faultOfSetting 12 = .ok (.getstatic 53, 3) := by decide +kernel
theorem dX5_faultOfSetting_15 : decode cX5_faultOfSetting 15 = .ok (.iload_n 1, 1) := by decide +kernel
theorem dX5_faultOfSetting_16 : decode cX5_faultOfSetting 16 = .ok (.iaload, 1) := by decide +kernel
theorem dX5_faultOfSetting_17 : decode cX5_faultOfSetting 17 = .ok (.getstatic 56, 3) := by decide +kernel
theorem dX5_faultOfSetting_20 : decode cX5_faultOfSetting 20 = .ok (.iload_n 1, 1) := by decide +kernel
theorem dX5_faultOfSetting_21 : decode cX5_faultOfSetting 21 = .ok (.iaload, 1) := by decide +kernel
theorem dX5_faultOfSetting_22 : decode cX5_faultOfSetting 22 = .ok (.invokestatic 59, 3) := by decide +kernel
theorem dX5_faultOfSetting_25 : decode cX5_faultOfSetting 25 = .ok (.ireturn, 1) := by decide +kernel
theorem dX5_change_0 : decode cX5_change 0 = .ok (.iload_n 1, 1) := by decide +kernel
theorem dX5_change_1 : decode cX5_change 1 = .ok (.ifCond .lt 8, 3) := by decide +kernel
theorem dX5_change_4 : decode cX5_change 4 = .ok (.iload_n 1, 1) := by decide +kernel
theorem dX5_change_5 : decode cX5_change 5 = .ok (.iconst 4, 1) := by decide +kernel
theorem dX5_change_6 : decode cX5_change 6 = .ok (.if_icmp .lt 7, 3) := by decide +kernel
theorem dX5_change_9 : decode cX5_change 9 = .ok (.sipush (-1000), 3) := by decide +kernel
theorem dX5_change_12 : decode cX5_change 12 = .ok (.ireturn, 1) := by decide +kernel
theorem dX5_change_13 : decode cX5_change 13 = .ok (.aload_n 0, 1) := by decide +kernel
theorem dX5_change_14 : decode cX5_change 14 = .ok (.getfield 25, 3) := by decide +kernel
theorem dX5_change_17 : decode cX5_change 17 = .ok (.iload_n 1, 1) := by decide +kernel
theorem dX5_change_18 : decode cX5_change 18 = .ok (.iaload, 1) := by decide +kernel
theorem dX5_change_19 : decode cX5_change 19 = .ok (.istore_n 3, 1) := by decide +kernel
theorem dX5_change_20 : decode cX5_change 20 = .ok (.aload_n 0, 1) := by decide +kernel
theorem dX5_change_21 : decode cX5_change 21 = .ok (.getfield 25, 3) := by decide +kernel
theorem dX5_change_24 : decode cX5_change 24 = .ok (.iload_n 1, 1) := by decide +kernel
theorem dX5_change_25 : decode cX5_change 25 = .ok (.iload_n 2, 1) := by decide +kernel
theorem dX5_change_26 : decode cX5_change 26 = .ok (.iastore, 1) := by decide +kernel
theorem dX5_change_27 : decode cX5_change 27 = .ok (.iload_n 3, 1) := by decide +kernel
theorem dX5_change_28 : decode cX5_change 28 = .ok (.ireturn, 1) := by decide +kernel
theorem dX5_faultOfTitle_0 : decode cX5_faultOfTitle 0 = .ok (.iload_n 1, 1) := by decide +kernel
theorem dX5_faultOfTitle_1 : decode cX5_faultOfTitle 1 = .ok (.iconst 0, 1) := by decide +kernel
theorem dX5_faultOfTitle_2 : decode cX5_faultOfTitle 2 = .ok (.aload_n 0, 1) := by decide +kernel
theorem dX5_faultOfTitle_3 : decode cX5_faultOfTitle 3 = .ok (.getfield 29, 3) := by decide +kernel
theorem dX5_faultOfTitle_6 : decode cX5_faultOfTitle 6 = .ok (.iconst 1, 1) := by decide +kernel
theorem dX5_faultOfTitle_7 : decode cX5_faultOfTitle 7 = .ok (.isub, 1) := by decide +kernel
theorem dX5_faultOfTitle_8 : decode cX5_faultOfTitle 8 = .ok (.invokestatic 36, 3) := by decide +kernel
theorem dX5_faultOfTitle_11 : decode cX5_faultOfTitle 11 = .ok (.ifCond .eq 21, 3) := by decide +kernel
theorem dX5_faultOfTitle_14 : decode cX5_faultOfTitle 14 = .ok (.iload_n 2, 1) := by decide +kernel
theorem dX5_faultOfTitle_15 : decode cX5_faultOfTitle 15 = .ok (.iconst 0, 1) := by decide +kernel
theorem dX5_faultOfTitle_16 : decode cX5_faultOfTitle 16 = .ok (.aload_n 0, 1) := by decide +kernel
theorem dX5_faultOfTitle_17 : decode cX5_faultOfTitle 17 = .ok (.getfield 33, 3) := by decide +kernel
theorem dX5_faultOfTitle_20 : decode cX5_faultOfTitle 20 = .ok (.iconst 1, 1) := by decide +kernel
theorem dX5_faultOfTitle_21 : decode cX5_faultOfTitle 21 = .ok (.isub, 1) := by decide +kernel
theorem dX5_faultOfTitle_22 : decode cX5_faultOfTitle 22 = .ok (.invokestatic 36, 3) := by decide +kernel
theorem dX5_faultOfTitle_25 : decode cX5_faultOfTitle 25 = .ok (.ifCond .eq 7, 3) := by decide +kernel
theorem dX5_faultOfTitle_28 : decode cX5_faultOfTitle 28 = .ok (.iconst 1, 1) := by decide +kernel
theorem dX5_faultOfTitle_29 : decode cX5_faultOfTitle 29 = .ok (.goto 4, 3) := by decide +kernel
theorem dX5_faultOfTitle_32 : decode cX5_faultOfTitle 32 = .ok (.iconst 0, 1) := by decide +kernel
theorem dX5_faultOfTitle_33 : decode cX5_faultOfTitle 33 = .ok (.istore 4, 2) := by decide +kernel
theorem dX5_faultOfTitle_35 : decode cX5_faultOfTitle 35 = .ok (.iload 4, 2) := by decide +kernel
theorem dX5_faultOfTitle_37 : decode cX5_faultOfTitle 37 = .ok (.ifCond .eq 17, 3) := by decide +kernel
theorem dX5_faultOfTitle_40 : decode cX5_faultOfTitle 40 = .ok (.iload_n 3, 1) := by decide +kernel
theorem dX5_faultOfTitle_41 : decode cX5_faultOfTitle 41 = .ok (.iconst 1, 1) := by decide +kernel
theorem dX5_faultOfTitle_42 : decode cX5_faultOfTitle 42 = .ok (.bipush 40, 2) := by decide +kernel
theorem dX5_faultOfTitle_44 : decode cX5_faultOfTitle 44 = .ok (.invokestatic 36, 3) := by decide +kernel
theorem dX5_faultOfTitle_47 : decode cX5_faultOfTitle 47 = .ok (.ifCond .eq 7, 3) := by decide +kernel
theorem dX5_faultOfTitle_50 : decode cX5_faultOfTitle 50 = .ok (.iconst 0, 1) := by decide +kernel
theorem dX5_faultOfTitle_51 : decode cX5_faultOfTitle 51 = .ok (.goto 4, 3) := by decide +kernel
theorem dX5_faultOfTitle_54 : decode cX5_faultOfTitle 54 = .ok (.iconst 2, 1) := by decide +kernel
theorem dX5_faultOfTitle_55 : decode cX5_faultOfTitle 55 = .ok (.ireturn, 1) := by decide +kernel
theorem dX5_entitle_0 : decode cX5_entitle 0 = .ok (.aload_n 0, 1) := by decide +kernel
theorem dX5_entitle_1 : decode cX5_entitle 1 = .ok (.getfield 62, 3) := by decide +kernel
theorem dX5_entitle_4 : decode cX5_entitle 4 = .ok (.istore 4, 2) := by decide +kernel
theorem dX5_entitle_6 : decode cX5_entitle 6 = .ok (.aload_n 0, 1) := by decide +kernel
theorem dX5_entitle_7 : decode cX5_entitle 7 = .ok (.iload_n 1, 1) := by decide +kernel
theorem dX5_entitle_8 : decode cX5_entitle 8 = .ok (.putfield 65, 3) := by decide +kernel
theorem dX5_entitle_11 : decode cX5_entitle 11 = .ok (.aload_n 0, 1) := by decide +kernel
theorem dX5_entitle_12 : decode cX5_entitle 12 = .ok (.iload_n 2, 1) := by decide +kernel
theorem dX5_entitle_13 : decode cX5_entitle 13 = .ok (.putfield 68, 3) := by decide +kernel
theorem dX5_entitle_16 : decode cX5_entitle 16 = .ok (.aload_n 0, 1) := by decide +kernel
theorem dX5_entitle_17 : decode cX5_entitle 17 = .ok (.iload_n 3, 1) := by decide +kernel
theorem dX5_entitle_18 : decode cX5_entitle 18 = .ok (.putfield 62, 3) := by decide +kernel
theorem dX5_entitle_21 : decode cX5_entitle 21 = .ok (.iload 4, 2) := by decide +kernel
theorem dX5_entitle_23 : decode cX5_entitle 23 = .ok (.ireturn, 1) := by decide +kernel
theorem dX5_faultOfTicks_0 : decode cX5_faultOfTicks 0 = .ok (.iload_n 1, 1) := by decide +kernel
theorem dX5_faultOfTicks_1 : decode cX5_faultOfTicks 1 = .ok (.iconst 1, 1) := by decide +kernel
theorem dX5_faultOfTicks_2 : decode cX5_faultOfTicks 2 = .ok (.sipush 200, 3) := by decide +kernel
theorem dX5_faultOfTicks_5 : decode cX5_faultOfTicks 5 = .ok (.invokestatic 59, 3) := by decide +kernel
theorem dX5_faultOfTicks_8 : decode cX5_faultOfTicks 8 = .ok (.ireturn, 1) := by decide +kernel
theorem dX5_pass_0 : decode cX5_pass 0 = .ok (.iconst 0, 1) := by decide +kernel
theorem dX5_pass_1 : decode cX5_pass 1 = .ok (.istore_n 2, 1) := by decide +kernel
theorem dX5_pass_2 : decode cX5_pass 2 = .ok (.iload_n 2, 1) := by decide +kernel
theorem dX5_pass_3 : decode cX5_pass 3 = .ok (.iload_n 1, 1) := by decide +kernel
theorem dX5_pass_4 : decode cX5_pass 4 = .ok (.if_icmp .ge 22, 3) := by decide +kernel
theorem dX5_pass_7 : decode cX5_pass 7 = .ok (.aload_n 0, 1) := by decide +kernel
theorem dX5_pass_8 : decode cX5_pass 8 = .ok (.getfield 21, 3) := by decide +kernel
theorem dX5_pass_11 : decode cX5_pass 11 = .ok (.aload_n 0, 1) := by decide +kernel
theorem dX5_pass_12 : decode cX5_pass 12 = .ok (.getfield 25, 3) := by decide +kernel
theorem dX5_pass_15 : decode cX5_pass 15 = .ok (.iconst 1, 1) := by decide +kernel
theorem dX5_pass_16 : decode cX5_pass 16 = .ok (.iaload, 1) := by decide +kernel
theorem dX5_pass_17 : decode cX5_pass 17 = .ok (.invokevirtual 71, 3) := by decide +kernel
theorem dX5_pass_20 : decode cX5_pass 20 = .ok (.iinc 2 1, 3) := by decide +kernel
theorem dX5_pass_23 : decode cX5_pass 23 = .ok (.goto (-21), 3) := by decide +kernel
theorem dX5_pass_26 : decode cX5_pass 26 = .ok (.aload_n 0, 1) := by decide +kernel
theorem dX5_pass_27 : decode cX5_pass 27 = .ok (.getfield 21, 3) := by decide +kernel
theorem dX5_pass_30 : decode cX5_pass 30 = .ok (.getfield 40, 3) := by decide +kernel
theorem dX5_pass_33 : decode cX5_pass 33 = .ok (.ireturn, 1) := by decide +kernel
theorem dX5_copyFrom_0 : decode cX5_copyFrom 0 = .ok (.aload_n 0, 1) := by decide +kernel
theorem dX5_copyFrom_1 : decode cX5_copyFrom 1 = .ok (.getfield 12, 3) := by decide +kernel
theorem dX5_copyFrom_4 : decode cX5_copyFrom 4 = .ok (.aload_n 1, 1) := by decide +kernel
theorem dX5_copyFrom_5 : decode cX5_copyFrom 5 = .ok (.getfield 12, 3) := by decide +kernel
theorem dX5_copyFrom_8 : decode cX5_copyFrom 8 = .ok (.invokevirtual 75, 3) := by decide +kernel
theorem dX5_copyFrom_11 : decode cX5_copyFrom 11 = .ok (.aload_n 0, 1) := by decide +kernel
theorem dX5_copyFrom_12 : decode cX5_copyFrom 12 = .ok (.getfield 21, 3) := by decide +kernel
theorem dX5_copyFrom_15 : decode cX5_copyFrom 15 = .ok (.aload_n 1, 1) := by decide +kernel
theorem dX5_copyFrom_16 : decode cX5_copyFrom 16 = .ok (.getfield 21, 3) := by decide +kernel
theorem dX5_copyFrom_19 : decode cX5_copyFrom 19 = .ok (.invokevirtual 79, 3) := by decide +kernel
theorem dX5_copyFrom_22 : decode cX5_copyFrom 22 = .ok (.aload_n 1, 1) := by decide +kernel
theorem dX5_copyFrom_23 : decode cX5_copyFrom 23 = .ok (.getfield 25, 3) := by decide +kernel
theorem dX5_copyFrom_26 : decode cX5_copyFrom 26 = .ok (.aload_n 0, 1) := by decide +kernel
theorem dX5_copyFrom_27 : decode cX5_copyFrom 27 = .ok (.getfield 25, 3) := by decide +kernel
theorem dX5_copyFrom_30 : decode cX5_copyFrom 30 = .ok (.invokestatic 82, 3) := by decide +kernel
theorem dX5_copyFrom_33 : decode cX5_copyFrom 33 = .ok (.aload_n 0, 1) := by decide +kernel
theorem dX5_copyFrom_34 : decode cX5_copyFrom 34 = .ok (.aload_n 1, 1) := by decide +kernel
theorem dX5_copyFrom_35 : decode cX5_copyFrom 35 = .ok (.getfield 29, 3) := by decide +kernel
theorem dX5_copyFrom_38 : decode cX5_copyFrom 38 = .ok (.putfield 29, 3) := by decide +kernel
theorem dX5_copyFrom_41 : decode cX5_copyFrom 41 = .ok (.aload_n 0, 1) := by decide +kernel
theorem dX5_copyFrom_42 : decode cX5_copyFrom 42 = .ok (.aload_n 1, 1) := by decide +kernel
theorem dX5_copyFrom_43 : decode cX5_copyFrom 43 = .ok (.getfield 33, 3) := by decide +kernel
theorem dX5_copyFrom_46 : decode cX5_copyFrom 46 = .ok (.putfield 33, 3) := by decide +kernel
theorem dX5_copyFrom_49 : decode cX5_copyFrom 49 = .ok (.aload_n 0, 1) := by decide +kernel
theorem dX5_copyFrom_50 : decode cX5_copyFrom 50 = .ok (.aload_n 1, 1) := by decide +kernel
theorem dX5_copyFrom_51 : decode cX5_copyFrom 51 = .ok (.getfield 65, 3) := by decide +kernel
theorem dX5_copyFrom_54 : decode cX5_copyFrom 54 = .ok (.putfield 65, 3) := by decide +kernel
theorem dX5_copyFrom_57 : decode cX5_copyFrom 57 = .ok (.aload_n 0, 1) := by decide +kernel
theorem dX5_copyFrom_58 : decode cX5_copyFrom 58 = .ok (.aload_n 1, 1) := by decide +kernel
theorem dX5_copyFrom_59 : decode cX5_copyFrom 59 = .ok (.getfield 68, 3) := by decide +kernel
theorem dX5_copyFrom_62 : decode cX5_copyFrom 62 = .ok (.putfield 68, 3) := by decide +kernel
theorem dX5_copyFrom_65 : decode cX5_copyFrom 65 = .ok (.aload_n 0, 1) := by decide +kernel
theorem dX5_copyFrom_66 : decode cX5_copyFrom 66 = .ok (.aload_n 1, 1) := by decide +kernel
theorem dX5_copyFrom_67 : decode cX5_copyFrom 67 = .ok (.getfield 62, 3) := by decide +kernel
theorem dX5_copyFrom_70 : decode cX5_copyFrom 70 = .ok (.putfield 62, 3) := by decide +kernel
theorem dX5_copyFrom_73 : decode cX5_copyFrom 73 = .ok (.return_, 1) := by decide +kernel
theorem dX6_init_0 : decode cX6_init 0 = .ok (.aload_n 0, 1) := by decide +kernel
theorem dX6_init_1 : decode cX6_init 1 = .ok (.invokespecial 3, 3) := by decide +kernel
theorem dX6_init_4 : decode cX6_init 4 = .ok (.aload_n 0, 1) := by decide +kernel
theorem dX6_init_5 : decode cX6_init 5 = .ok (.bipush 20, 2) := by decide +kernel
theorem dX6_init_7 : decode cX6_init 7 = .ok (.newarray .int, 2) := by decide +kernel
theorem dX6_init_9 : decode cX6_init 9 = .ok (.putfield 9, 3) := by decide +kernel
theorem dX6_init_12 : decode cX6_init 12 = .ok (.aload_n 0, 1) := by decide +kernel
theorem dX6_init_13 : decode cX6_init 13 = .ok (.bipush 20, 2) := by decide +kernel
theorem dX6_init_15 : decode cX6_init 15 = .ok (.newarray .int, 2) := by decide +kernel
theorem dX6_init_17 : decode cX6_init 17 = .ok (.putfield 15, 3) := by decide +kernel
theorem dX6_init_20 : decode cX6_init 20 = .ok (.aload_n 0, 1) := by decide +kernel
theorem dX6_init_21 : decode cX6_init 21 = .ok (.bipush 20, 2) := by decide +kernel
theorem dX6_init_23 : decode cX6_init 23 = .ok (.newarray .int, 2) := by decide +kernel
theorem dX6_init_25 : decode cX6_init 25 = .ok (.putfield 18, 3) := by decide +kernel
theorem dX6_init_28 : decode cX6_init 28 = .ok (.aload_n 0, 1) := by decide +kernel
theorem dX6_init_29 : decode cX6_init 29 = .ok (.bipush 20, 2) := by decide +kernel
theorem dX6_init_31 : decode cX6_init 31 = .ok (.newarray .int, 2) := by decide +kernel
theorem dX6_init_33 : decode cX6_init 33 = .ok (.putfield 21, 3) := by decide +kernel
theorem dX6_init_36 : decode cX6_init 36 = .ok (.aload_n 0, 1) := by decide +kernel
theorem dX6_init_37 : decode cX6_init 37 = .ok (.bipush 20, 2) := by decide +kernel
theorem dX6_init_39 : decode cX6_init 39 = .ok (.newarray .int, 2) := by decide +kernel
theorem dX6_init_41 : decode cX6_init 41 = .ok (.putfield 24, 3) := by decide +kernel
theorem dX6_init_44 : decode cX6_init 44 = .ok (.aload_n 0, 1) := by decide +kernel
theorem dX6_init_45 : decode cX6_init 45 = .ok (.bipush 20, 2) := by decide +kernel
theorem dX6_init_47 : decode cX6_init 47 = .ok (.newarray .int, 2) := by decide +kernel
theorem dX6_init_49 : decode cX6_init 49 = .ok (.putfield 27, 3) := by decide +kernel
theorem dX6_init_52 : decode cX6_init 52 = .ok (.aload_n 0, 1) := by decide +kernel
theorem dX6_init_53 : decode cX6_init 53 = .ok (.bipush 20, 2) := by decide +kernel
theorem dX6_init_55 : decode cX6_init 55 = .ok (.newarray .int, 2) := by decide +kernel
theorem dX6_init_57 : decode cX6_init 57 = .ok (.putfield 30, 3) := by decide +kernel
theorem dX6_init_60 : decode cX6_init 60 = .ok (.aload_n 0, 1) := by decide +kernel
theorem dX6_init_61 : decode cX6_init 61 = .ok (.bipush 20, 2) := by decide +kernel
theorem dX6_init_63 : decode cX6_init 63 = .ok (.newarray .int, 2) := by decide +kernel
theorem dX6_init_65 : decode cX6_init 65 = .ok (.putfield 33, 3) := by decide +kernel
theorem dX6_init_68 : decode cX6_init 68 = .ok (.aload_n 0, 1) := by decide +kernel
theorem dX6_init_69 : decode cX6_init 69 = .ok (.bipush 20, 2) := by decide +kernel
theorem dX6_init_71 : decode cX6_init 71 = .ok (.newarray .int, 2) := by decide +kernel
theorem dX6_init_73 : decode cX6_init 73 = .ok (.putfield 36, 3) := by decide +kernel
theorem dX6_init_76 : decode cX6_init 76 = .ok (.return_, 1) := by decide +kernel
theorem dX6_has_0 : decode cX6_has 0 = .ok (.iload_n 1, 1) := by decide +kernel
theorem dX6_has_1 : decode cX6_has 1 = .ok (.ifCond .lt 21, 3) := by decide +kernel
theorem dX6_has_4 : decode cX6_has 4 = .ok (.iload_n 1, 1) := by decide +kernel
theorem dX6_has_5 : decode cX6_has 5 = .ok (.aload_n 0, 1) := by decide +kernel
theorem dX6_has_6 : decode cX6_has 6 = .ok (.getfield 39, 3) := by decide +kernel
theorem dX6_has_9 : decode cX6_has 9 = .ok (.if_icmp .ge 13, 3) := by decide +kernel
theorem dX6_has_12 : decode cX6_has 12 = .ok (.iload_n 1, 1) := by decide +kernel
theorem dX6_has_13 : decode cX6_has 13 = .ok (.bipush 20, 2) := by decide +kernel
theorem dX6_has_15 : decode cX6_has 15 = .ok (.if_icmp .ge 7, 3) := by decide +kernel
theorem dX6_has_18 : decode cX6_has 18 = .ok (.iconst 1, 1) := by decide +kernel
theorem dX6_has_19 : decode cX6_has 19 = .ok (.goto 4, 3) := by decide +kernel
theorem dX6_has_22 : decode cX6_has 22 = .ok (.iconst 0, 1) := by decide +kernel
theorem dX6_has_23 : decode cX6_has 23 = .ok (.ireturn, 1) := by decide +kernel
theorem dX6_isBox_0 : decode cX6_isBox 0 = .ok (.iload_n 1, 1) := by decide +kernel
theorem dX6_isBox_1 : decode cX6_isBox 1 = .ok (.ifCond .lt 30, 3) := by decide +kernel
theorem dX6_isBox_4 : decode cX6_isBox 4 = .ok (.iload_n 1, 1) := by decide +kernel
theorem dX6_isBox_5 : decode cX6_isBox 5 = .ok (.aload_n 0, 1) := by decide +kernel
theorem dX6_isBox_6 : decode cX6_isBox 6 = .ok (.getfield 39, 3) := by decide +kernel
theorem dX6_isBox_9 : decode cX6_isBox 9 = .ok (.if_icmp .ge 22, 3) := by decide +kernel
theorem dX6_isBox_12 : decode cX6_isBox 12 = .ok (.iload_n 1, 1) := by decide +kernel
theorem dX6_isBox_13 : decode cX6_isBox 13 = .ok (.bipush 20, 2) := by decide +kernel
theorem dX6_isBox_15 : decode cX6_isBox 15 = .ok (.if_icmp .ge 16, 3) := by decide +kernel
theorem dX6_isBox_18 : decode cX6_isBox 18 = .ok (.aload_n 0, 1) := by decide +kernel
theorem dX6_isBox_19 : decode cX6_isBox 19 = .ok (.getfield 27, 3) := by decide +kernel
theorem dX6_isBox_22 : decode cX6_isBox 22 = .ok (.iload_n 1, 1) := by decide +kernel
theorem dX6_isBox_23 : decode cX6_isBox 23 = .ok (.iaload, 1) := by decide +kernel
theorem dX6_isBox_24 : decode cX6_isBox 24 = .ok (.ifCond .le 7, 3) := by decide +kernel
theorem dX6_isBox_27 : decode cX6_isBox 27 = .ok (.iconst 1, 1) := by decide +kernel
theorem dX6_isBox_28 : decode cX6_isBox 28 = .ok (.goto 4, 3) := by decide +kernel
theorem dX6_isBox_31 : decode cX6_isBox 31 = .ok (.iconst 0, 1) := by decide +kernel
theorem dX6_isBox_32 : decode cX6_isBox 32 = .ok (.ireturn, 1) := by decide +kernel
theorem dX6_boxes_0 : decode cX6_boxes 0 = .ok (.iconst 0, 1) := by decide +kernel
theorem dX6_boxes_1 : decode cX6_boxes 1 = .ok (.istore_n 1, 1) := by decide +kernel
theorem dX6_boxes_2 : decode cX6_boxes 2 = .ok (.iconst 0, 1) := by decide +kernel
theorem dX6_boxes_3 : decode cX6_boxes 3 = .ok (.istore_n 2, 1) := by decide +kernel
theorem dX6_boxes_4 : decode cX6_boxes 4 = .ok (.iload_n 2, 1) := by decide +kernel
theorem dX6_boxes_5 : decode cX6_boxes 5 = .ok (.aload_n 0, 1) := by decide +kernel
theorem dX6_boxes_6 : decode cX6_boxes 6 = .ok (.getfield 39, 3) := by decide +kernel
theorem dX6_boxes_9 : decode cX6_boxes 9 = .ok (.if_icmp .ge 25, 3) := by decide +kernel
theorem dX6_boxes_12 : decode cX6_boxes 12 = .ok (.iload_n 1, 1) := by decide +kernel
theorem dX6_boxes_13 : decode cX6_boxes 13 = .ok (.aload_n 0, 1) := by decide +kernel
theorem dX6_boxes_14 : decode cX6_boxes 14 = .ok (.iload_n 2, 1) := by decide +kernel
theorem dX6_boxes_15 : decode cX6_boxes 15 = .ok (.invokevirtual 43, 3) := by decide +kernel
theorem dX6_boxes_18 : decode cX6_boxes 18 = .ok (.ifCond .eq 7, 3) := by decide +kernel
theorem dX6_boxes_21 : decode cX6_boxes 21 = .ok (.iconst 1, 1) := by decide +kernel
theorem dX6_boxes_22 : decode cX6_boxes 22 = .ok (.goto 4, 3) := by decide +kernel
theorem dX6_boxes_25 : decode cX6_boxes 25 = .ok (.iconst 0, 1) := by decide +kernel
theorem dX6_boxes_26 : decode cX6_boxes 26 = .ok (.iadd, 1) := by decide +kernel
theorem dX6_boxes_27 : decode cX6_boxes 27 = .ok (.istore_n 1, 1) := by decide +kernel
theorem dX6_boxes_28 : decode cX6_boxes 28 = .ok (.iinc 2 1, 3) := by decide +kernel
theorem dX6_boxes_31 : decode cX6_boxes 31 = .ok (.goto (-27), 3) := by decide +kernel
theorem dX6_boxes_34 : decode cX6_boxes 34 = .ok (.iload_n 1, 1) := by decide +kernel
theorem dX6_boxes_35 : decode cX6_boxes 35 = .ok (.ireturn, 1) := by decide +kernel
theorem dX6_children_0 : decode cX6_children 0 = .ok (.iconst 0, 1) := by decide +kernel
theorem dX6_children_1 : decode cX6_children 1 = .ok (.istore_n 2, 1) := by decide +kernel
theorem dX6_children_2 : decode cX6_children 2 = .ok (.iconst 0, 1) := by decide +kernel
theorem dX6_children_3 : decode cX6_children 3 = .ok (.istore_n 3, 1) := by decide +kernel
theorem dX6_children_4 : decode cX6_children 4 = .ok (.iload_n 3, 1) := by decide +kernel
theorem dX6_children_5 : decode cX6_children 5 = .ok (.aload_n 0, 1) := by decide +kernel
theorem dX6_children_6 : decode cX6_children 6 = .ok (.getfield 39, 3) := by decide +kernel
theorem dX6_children_9 : decode cX6_children 9 = .ok (.if_icmp .ge 33, 3) := by decide +kernel
theorem dX6_children_12 : decode cX6_children 12 = .ok (.iload_n 3, 1) := by decide +kernel
theorem dX6_children_13 : decode cX6_children 13 = .ok (.bipush 20, 2) := by decide +kernel
theorem dX6_children_15 : decode cX6_children 15 = .ok (.if_icmp .ge 27, 3) := by decide +kernel
theorem dX6_children_18 : decode cX6_children 18 = .ok (.iload_n 2, 1) := by decide +kernel
theorem dX6_children_19 : decode cX6_children 19 = .ok (.aload_n 0, 1) := by decide +kernel
theorem dX6_children_20 : decode cX6_children 20 = .ok (.getfield 9, 3) := by decide +kernel
theorem dX6_children_23 : decode cX6_children 23 = .ok (.iload_n 3, 1) := by decide +kernel
theorem dX6_children_24 : decode cX6_children 24 = .ok (.iaload, 1) := by decide +kernel
theorem dX6_children_25 : decode cX6_children 25 = .ok (.iload_n 1, 1) := by decide +kernel
theorem dX6_children_26 : decode cX6_children 26 = .ok (.if_icmp .ne 7, 3) := by decide +kernel
theorem dX6_children_29 : decode cX6_children 29 = .ok (.iconst 1, 1) := by decide +kernel
theorem dX6_children_30 : decode cX6_children 30 = .ok (.goto 4, 3) := by decide +kernel
theorem dX6_children_33 : decode cX6_children 33 = .ok (.iconst 0, 1) := by decide +kernel
theorem dX6_children_34 : decode cX6_children 34 = .ok (.iadd, 1) := by decide +kernel
theorem dX6_children_35 : decode cX6_children 35 = .ok (.istore_n 2, 1) := by decide +kernel
theorem dX6_children_36 : decode cX6_children 36 = .ok (.iinc 3 1, 3) := by decide +kernel
theorem dX6_children_39 : decode cX6_children 39 = .ok (.goto (-35), 3) := by decide +kernel
theorem dX6_children_42 : decode cX6_children 42 = .ok (.iload_n 2, 1) := by decide +kernel
theorem dX6_children_43 : decode cX6_children 43 = .ok (.ireturn, 1) := by decide +kernel
theorem dX6_faultOfNumber_0 : decode cX6_faultOfNumber 0 = .ok (.aload_n 0, 1) := by decide +kernel
theorem dX6_faultOfNumber_1 : decode cX6_faultOfNumber 1 = .ok (.iload_n 1, 1) := by decide +kernel
theorem dX6_faultOfNumber_2 : decode cX6_faultOfNumber 2 = .ok (.invokevirtual 47, 3) := by decide +kernel
theorem dX6_faultOfNumber_5 : decode cX6_faultOfNumber 5 = .ok (.ifCond .eq 7, 3) := by decide +kernel
theorem dX6_faultOfNumber_8 : decode cX6_faultOfNumber 8 = .ok (.iconst 0, 1) := by decide +kernel
theorem dX6_faultOfNumber_9 : decode cX6_faultOfNumber 9 = .ok (.goto 4, 3) := by decide +kernel
theorem dX6_faultOfNumber_12 : decode cX6_faultOfNumber 12 = .ok (.iconst 1, 1) := by decide +kernel
theorem dX6_faultOfNumber_13 : decode cX6_faultOfNumber 13 = .ok (.ireturn, 1) := by decide +kernel
theorem dX6_isCoordinate_0 : decode cX6_isCoordinate 0 = .ok (.iload_n 0, 1) := by decide +kernel
theorem dX6_isCoordinate_1 : decode cX6_isCoordinate 1 = .ok (.sipush (-200), 3) := by decide +kernel
theorem dX6_isCoordinate_4 : decode cX6_isCoordinate 4 = .ok (.if_icmp .lt 14, 3) := by decide +kernel
theorem dX6_isCoordinate_7 : decode cX6_isCoordinate 7 = .ok (.iload_n 0, 1) := by decide +kernel
theorem dX6_isCoordinate_8 : decode cX6_isCoordinate 8 = .ok (.sipush 200, 3) := by decide +kernel
theorem dX6_isCoordinate_11 : decode cX6_isCoordinate 11 = .ok (.if_icmp .gt 7, 3) := by decide +kernel
theorem dX6_isCoordinate_14 : decode cX6_isCoordinate 14 = .ok (.iconst 1, 1) := by decide +kernel
theorem dX6_isCoordinate_15 : decode cX6_isCoordinate 15 = .ok (.goto 4, 3) := by decide +kernel
theorem dX6_isCoordinate_18 : decode cX6_isCoordinate 18 = .ok (.iconst 0, 1) := by decide +kernel
theorem dX6_isCoordinate_19 : decode cX6_isCoordinate 19 = .ok (.ireturn, 1) := by decide +kernel
theorem dX6_isPlace_0 : decode cX6_isPlace 0 = .ok (.iload_n 0, 1) := by decide +kernel
theorem dX6_isPlace_1 : decode cX6_isPlace 1 = .ok (.invokestatic 50, 3) := by decide +kernel
theorem dX6_isPlace_4 : decode cX6_isPlace 4 = .ok (.ifCond .eq 21, 3) := by decide +kernel
theorem dX6_isPlace_7 : decode cX6_isPlace 7 = .ok (.iload_n 1, 1) := by decide +kernel
theorem dX6_isPlace_8 : decode cX6_isPlace 8 = .ok (.invokestatic 50, 3) := by decide +kernel
theorem dX6_isPlace_11 : decode cX6_isPlace 11 = .ok (.ifCond .eq 14, 3) := by decide +kernel
theorem dX6_isPlace_14 : decode cX6_isPlace 14 = .ok (.iload_n 2, 1) := by decide +kernel
theorem dX6_isPlace_15 : decode cX6_isPlace 15 = .ok (.invokestatic 50, 3) := by decide +kernel
theorem dX6_isPlace_18 : decode cX6_isPlace 18 = .ok (.ifCond .eq 7, 3) := by decide +kernel
theorem dX6_isPlace_21 : decode cX6_isPlace 21 = .ok (.iconst 1, 1) := by decide +kernel
theorem dX6_isPlace_22 : decode cX6_isPlace 22 = .ok (.goto 4, 3) := by decide +kernel
theorem dX6_isPlace_25 : decode cX6_isPlace 25 = .ok (.iconst 0, 1) := by decide +kernel
theorem dX6_isPlace_26 : decode cX6_isPlace 26 = .ok (.ireturn, 1) := by decide +kernel
theorem dX6_faultOfGroup_0 : decode cX6_faultOfGroup 0 = .ok (.iload_n 1, 1) := by decide +kernel
theorem dX6_faultOfGroup_1 : decode cX6_faultOfGroup 1 = .ok (.sipush (-1000), 3) := by decide +kernel
theorem dX6_faultOfGroup_4 : decode cX6_faultOfGroup 4 = .ok (.if_icmp .eq 13, 3) := by decide +kernel
theorem dX6_faultOfGroup_7 : decode cX6_faultOfGroup 7 = .ok (.aload_n 0, 1) := by decide +kernel
theorem dX6_faultOfGroup_8 : decode cX6_faultOfGroup 8 = .ok (.iload_n 1, 1) := by decide +kernel
theorem dX6_faultOfGroup_9 : decode cX6_faultOfGroup 9 = .ok (.invokevirtual 47, 3) := by decide +kernel
theorem dX6_faultOfGroup_12 : decode cX6_faultOfGroup 12 = .ok (.ifCond .ne 5, 3) := by decide +kernel
theorem dX6_faultOfGroup_15 : decode cX6_faultOfGroup 15 = .ok (.iconst 1, 1) := by decide +kernel
theorem dX6_faultOfGroup_16 : decode cX6_faultOfGroup 16 = .ok (.ireturn, 1) := by decide +kernel
theorem dX6_faultOfGroup_17 : decode cX6_faultOfGroup 17 = .ok (.aload_n 0, 1) := by decide +kernel
theorem dX6_faultOfGroup_18 : decode cX6_faultOfGroup 18 = .ok (.iload_n 1, 1) := by decide +kernel
theorem dX6_faultOfGroup_19 : decode cX6_faultOfGroup 19 = .ok (.invokevirtual 43, 3) := by decide +kernel
theorem dX6_faultOfGroup_22 : decode cX6_faultOfGroup 22 = .ok (.ifCond .ne 13, 3) := by decide +kernel
theorem dX6_faultOfGroup_25 : decode cX6_faultOfGroup 25 = .ok (.iload_n 2, 1) := by decide +kernel
theorem dX6_faultOfGroup_26 : decode cX6_faultOfGroup 26 = .ok (.iload_n 3, 1) := by decide +kernel
theorem dX6_faultOfGroup_27 : decode cX6_faultOfGroup 27 = .ok (.iload 4, 2) := by decide +kernel
theorem dX6_faultOfGroup_29 : decode cX6_faultOfGroup 29 = .ok (.invokestatic 53, 3) := by decide +kernel
theorem dX6_faultOfGroup_32 : decode cX6_faultOfGroup 32 = .ok (.ifCond .ne 5, 3) := by decide +kernel
theorem dX6_faultOfGroup_35 : decode cX6_faultOfGroup 35 = .ok (.iconst 2, 1) := by decide +kernel
theorem dX6_faultOfGroup_36 : decode cX6_faultOfGroup 36 = .ok (.ireturn, 1) := by decide +kernel
theorem dX6_faultOfGroup_37 : decode cX6_faultOfGroup 37 = .ok (.aload_n 0, 1) := by decide +kernel
theorem dX6_faultOfGroup_38 : decode cX6_faultOfGroup 38 = .ok (.getfield 39, 3) := by decide +kernel
theorem dX6_faultOfGroup_41 : decode cX6_faultOfGroup 41 = .ok (.bipush 20, 2) := by decide +kernel
theorem dX6_faultOfGroup_43 : decode cX6_faultOfGroup 43 = .ok (.if_icmp .ge 12, 3) := by decide +kernel
theorem dX6_faultOfGroup_46 : decode cX6_faultOfGroup 46 = .ok (.aload_n 0, 1) := by decide +kernel
theorem dX6_faultOfGroup_47 : decode cX6_faultOfGroup 47 = .ok (.iload_n 1, 1) := by decide +kernel
theorem dX6_faultOfGroup_48 : decode cX6_faultOfGroup 48 = .ok (.invokevirtual 57, 3) := by decide +kernel
theorem dX6_faultOfGroup_51 : decode cX6_faultOfGroup 51 = .ok (.iconst 5, 1) := by decide +kernel
theorem dX6_faultOfGroup_52 : decode cX6_faultOfGroup 52 = .ok (.if_icmp .le 7, 3) := by decide +kernel
theorem dX6_faultOfGroup_55 : decode cX6_faultOfGroup 55 = .ok (.iconst 3, 1) := by decide +kernel
theorem dX6_faultOfGroup_56 : decode cX6_faultOfGroup 56 = .ok (.goto 4, 3) := by decide +kernel
theorem dX6_faultOfGroup_59 : decode cX6_faultOfGroup 59 = .ok (.iconst 0, 1) := by decide +kernel
theorem dX6_faultOfGroup_60 : decode cX6_faultOfGroup 60 = .ok (.ireturn, 1) := by decide +kernel
theorem dX6_faultOfBox_0 : decode cX6_faultOfBox 0 = .ok (.aload_n 0, 1) := by decide +kernel
theorem dX6_faultOfBox_1 : decode cX6_faultOfBox 1 = .ok (.iload_n 1, 1) := by decide +kernel
theorem dX6_faultOfBox_2 : decode cX6_faultOfBox 2 = .ok (.iload_n 2, 1) := by decide +kernel
theorem dX6_faultOfBox_3 : decode cX6_faultOfBox 3 = .ok (.iload_n 3, 1) := by decide +kernel
theorem dX6_faultOfBox_4 : decode cX6_faultOfBox 4 = .ok (.iload 4, 2) := by decide +kernel
theorem dX6_faultOfBox_6 : decode cX6_faultOfBox 6 = .ok (.invokevirtual 61, 3) := by decide +kernel
theorem dX6_faultOfBox_9 : decode cX6_faultOfBox 9 = .ok (.istore 7, 2) := by decide +kernel
theorem dX6_faultOfBox_11 : decode cX6_faultOfBox 11 = .ok (.iload 5, 2) := by decide +kernel
theorem dX6_faultOfBox_13 : decode cX6_faultOfBox 13 = .ok (.iconst 1, 1) := by decide +kernel
theorem dX6_faultOfBox_14 : decode cX6_faultOfBox 14 = .ok (.bipush 100, 2) := by decide +kernel
theorem dX6_faultOfBox_16 : decode cX6_faultOfBox 16 = .ok (.invokestatic 65, 3) := by decide +kernel
theorem dX6_faultOfBox_19 : decode cX6_faultOfBox 19 = .ok (.ifCond .eq 18, 3) := by decide +kernel
theorem dX6_faultOfBox_22 : decode cX6_faultOfBox 22 = .ok (.iload 6, 2) := by decide +kernel
theorem dX6_faultOfBox_24 : decode cX6_faultOfBox 24 = .ok (.iconst 1, 1) := by decide +kernel
theorem dX6_faultOfBox_25 : decode cX6_faultOfBox 25 = .ok (.bipush 100, 2) := by decide +kernel
theorem dX6_faultOfBox_27 : decode cX6_faultOfBox 27 = .ok (.invokestatic 65, 3) := by decide +kernel
theorem dX6_faultOfBox_30 : decode cX6_faultOfBox 30 = .ok (.ifCond .eq 7, 3) := by decide +kernel
theorem dX6_faultOfBox_33 : decode cX6_faultOfBox 33 = .ok (.iconst 1, 1) := by decide +kernel
theorem dX6_faultOfBox_34 : decode cX6_faultOfBox 34 = .ok (.goto 4, 3) := by decide +kernel
theorem dX6_faultOfBox_37 : decode cX6_faultOfBox 37 = .ok (.iconst 0, 1) := by decide +kernel
theorem dX6_faultOfBox_38 : decode cX6_faultOfBox 38 = .ok (.istore 8, 2) := by decide +kernel
theorem dX6_faultOfBox_40 : decode cX6_faultOfBox 40 = .ok (.iload 7, 2) := by decide +kernel
theorem dX6_faultOfBox_42 : decode cX6_faultOfBox 42 = .ok (.iconst 1, 1) := by decide +kernel
theorem dX6_faultOfBox_43 : decode cX6_faultOfBox 43 = .ok (.if_icmp .eq 12, 3) := by decide +kernel
theorem dX6_faultOfBox_46 : decode cX6_faultOfBox 46 = .ok (.iload 8, 2) := by decide +kernel
theorem dX6_faultOfBox_48 : decode cX6_faultOfBox 48 = .ok (.ifCond .ne 7, 3) := by decide +kernel
theorem dX6_faultOfBox_51 : decode cX6_faultOfBox 51 = .ok (.iconst 2, 1) := by decide +kernel
theorem dX6_faultOfBox_52 : decode cX6_faultOfBox 52 = .ok (.goto 5, 3) := by decide +kernel
theorem dX6_faultOfBox_55 : decode cX6_faultOfBox 55 = .ok (.iload 7, 2) := by decide +kernel
theorem dX6_faultOfBox_57 : decode cX6_faultOfBox 57 = .ok (.ireturn, 1) := by decide +kernel
theorem dX6_faultOfPlacing_0 : decode cX6_faultOfPlacing 0 = .ok (.aload_n 0, 1) := by decide +kernel
theorem dX6_faultOfPlacing_1 : decode cX6_faultOfPlacing 1 = .ok (.iload_n 1, 1) := by decide +kernel
theorem dX6_faultOfPlacing_2 : decode cX6_faultOfPlacing 2 = .ok (.invokevirtual 47, 3) := by decide +kernel
theorem dX6_faultOfPlacing_5 : decode cX6_faultOfPlacing 5 = .ok (.ifCond .ne 5, 3) := by decide +kernel
theorem dX6_faultOfPlacing_8 : decode cX6_faultOfPlacing 8 = .ok (.iconst 1, 1) := by decide +kernel
theorem dX6_faultOfPlacing_9 : decode cX6_faultOfPlacing 9 = .ok (.ireturn, 1) := by decide +kernel
theorem dX6_faultOfPlacing_10 : decode cX6_faultOfPlacing 10 = .ok (.iload_n 2, 1) := by decide +kernel
theorem dX6_faultOfPlacing_11 : decode cX6_faultOfPlacing 11 = .ok (.iload_n 3, 1) := by decide +kernel
theorem dX6_faultOfPlacing_12 : decode cX6_faultOfPlacing 12 = .ok (.iload 4, 2) := by decide +kernel
theorem dX6_faultOfPlacing_14 : decode cX6_faultOfPlacing 14 = .ok (.invokestatic 53, 3) := by decide +kernel
theorem dX6_faultOfPlacing_17 : decode cX6_faultOfPlacing 17 = .ok (.ifCond .eq 7, 3) := by decide +kernel
theorem dX6_faultOfPlacing_20 : decode cX6_faultOfPlacing 20 = .ok (.iconst 0, 1) := by decide +kernel
theorem dX6_faultOfPlacing_21 : decode cX6_faultOfPlacing 21 = .ok (.goto 4, 3) := by decide +kernel
theorem dX6_faultOfPlacing_24 : decode cX6_faultOfPlacing 24 = .ok (.iconst 2, 1) := by decide +kernel
theorem dX6_faultOfPlacing_25 : decode cX6_faultOfPlacing 25 = .ok (.ireturn, 1) := by decide +kernel
theorem dX6_faultOfColour_0 : decode cX6_faultOfColour 0 = .ok (.aload_n 0, 1) := by decide +kernel
theorem dX6_faultOfColour_1 : decode cX6_faultOfColour 1 = .ok (.iload_n 1, 1) := by decide +kernel
theorem dX6_faultOfColour_2 : decode cX6_faultOfColour 2 = .ok (.invokevirtual 47, 3) := by decide +kernel
theorem dX6_faultOfColour_5 : decode cX6_faultOfColour 5 = .ok (.ifCond .ne 5, 3) := by decide +kernel
theorem dX6_faultOfColour_8 : decode cX6_faultOfColour 8 = .ok (.iconst 1, 1) := by decide +kernel
theorem dX6_faultOfColour_9 : decode cX6_faultOfColour 9 = .ok (.ireturn, 1) := by decide +kernel
theorem dX6_faultOfColour_10 : decode cX6_faultOfColour 10 = .ok (.aload_n 0, 1) := by decide +kernel
theorem dX6_faultOfColour_11 : decode cX6_faultOfColour 11 = .ok (.iload_n 1, 1) := by decide +kernel
theorem dX6_faultOfColour_12 : decode cX6_faultOfColour 12 = .ok (.invokevirtual 43, 3) := by decide +kernel
theorem dX6_faultOfColour_15 : decode cX6_faultOfColour 15 = .ok (.ifCond .eq 17, 3) := by decide +kernel
theorem dX6_faultOfColour_18 : decode cX6_faultOfColour 18 = .ok (.iload_n 2, 1) := by decide +kernel
theorem dX6_faultOfColour_19 : decode cX6_faultOfColour 19 = .ok (.iconst 0, 1) := by decide +kernel
theorem dX6_faultOfColour_20 : decode cX6_faultOfColour 20 = .ok (.bipush 15, 2) := by decide +kernel
theorem dX6_faultOfColour_22 : decode cX6_faultOfColour 22 = .ok (.invokestatic 65, 3) := by decide +kernel
theorem dX6_faultOfColour_25 : decode cX6_faultOfColour 25 = .ok (.ifCond .eq 7, 3) := by decide +kernel
theorem dX6_faultOfColour_28 : decode cX6_faultOfColour 28 = .ok (.iconst 0, 1) := by decide +kernel
theorem dX6_faultOfColour_29 : decode cX6_faultOfColour 29 = .ok (.goto 4, 3) := by decide +kernel
theorem dX6_faultOfColour_32 : decode cX6_faultOfColour 32 = .ok (.iconst 2, 1) := by decide +kernel
theorem dX6_faultOfColour_33 : decode cX6_faultOfColour 33 = .ok (.ireturn, 1) := by decide +kernel
theorem dX6_aroundChildOf_0 : decode cX6_aroundChildOf 0 = .ok (.aload_n 0, 1) := by decide +kernel
theorem dX6_aroundChildOf_1 : decode cX6_aroundChildOf 1 = .ok (.iload_n 1, 1) := by decide +kernel
theorem dX6_aroundChildOf_2 : decode cX6_aroundChildOf 2 = .ok (.invokevirtual 47, 3) := by decide +kernel
theorem dX6_aroundChildOf_5 : decode cX6_aroundChildOf 5 = .ok (.ifCond .eq 14, 3) := by decide +kernel
theorem dX6_aroundChildOf_8 : decode cX6_aroundChildOf 8 = .ok (.aload_n 0, 1) := by decide +kernel
theorem dX6_aroundChildOf_9 : decode cX6_aroundChildOf 9 = .ok (.getfield 15, 3) := by decide +kernel
theorem dX6_aroundChildOf_12 : decode cX6_aroundChildOf 12 = .ok (.iload_n 1, 1) := by decide +kernel
theorem dX6_aroundChildOf_13 : decode cX6_aroundChildOf 13 = .ok (.iaload, 1) := by decide +kernel
theorem dX6_aroundChildOf_14 : decode cX6_aroundChildOf 14 = .ok (.iconst 1, 1) := by decide +kernel
theorem dX6_aroundChildOf_15 : decode cX6_aroundChildOf 15 = .ok (.iadd, 1) := by decide +kernel
theorem dX6_aroundChildOf_16 : decode cX6_aroundChildOf 16 = .ok (.goto 4, 3) := by decide +kernel
theorem dX6_aroundChildOf_19 : decode cX6_aroundChildOf 19 = .ok (.iconst 0, 1) := by decide +kernel
theorem dX6_aroundChildOf_20 : decode cX6_aroundChildOf 20 = .ok (.ireturn, 1) := by decide +kernel
theorem dX6_appendGroup_0 : decode cX6_appendGroup 0 = .ok (.aload_n 0, 1) := by decide +kernel
theorem dX6_appendGroup_1 : decode cX6_appendGroup 1 = .ok (.iload_n 1, 1) := by decide +kernel
theorem dX6_appendGroup_2 : decode cX6_appendGroup 2 = .ok (.iload_n 2, 1) := by decide +kernel
theorem dX6_appendGroup_3 : decode cX6_appendGroup 3 = .ok (.iload_n 3, 1) := by decide +kernel
theorem dX6_appendGroup_4 : decode cX6_appendGroup 4 = .ok (.iload 4, 2) := by decide +kernel
theorem dX6_appendGroup_6 : decode cX6_appendGroup 6 = .ok (.iconst 0, 1) := by decide +kernel
theorem dX6_appendGroup_7 : decode cX6_appendGroup 7 = .ok (.iconst 0, 1) := by decide +kernel
theorem dX6_appendGroup_8 : decode cX6_appendGroup 8 = .ok (.invokevirtual 68, 3) := by decide +kernel
theorem dX6_appendGroup_11 : decode cX6_appendGroup 11 = .ok (.ireturn, 1) := by decide +kernel
theorem dX6_appendBox_0 : decode cX6_appendBox 0 = .ok (.aload_n 0, 1) := by decide +kernel
theorem dX6_appendBox_1 : decode cX6_appendBox 1 = .ok (.getfield 39, 3) := by decide +kernel
theorem dX6_appendBox_4 : decode cX6_appendBox 4 = .ok (.istore 7, 2) := by decide +kernel
theorem dX6_appendBox_6 : decode cX6_appendBox 6 = .ok (.iload 7, 2) := by decide +kernel
theorem dX6_appendBox_8 : decode cX6_appendBox 8 = .ok (.ifCond .lt 10, 3) := by decide +kernel
theorem dX6_appendBox_11 : decode cX6_appendBox 11 = .ok (.iload 7, 2) := by decide +kernel
theorem dX6_appendBox_13 : decode cX6_appendBox 13 = .ok (.bipush 20, 2) := by decide +kernel
theorem dX6_appendBox_15 : decode cX6_appendBox 15 = .ok (.if_icmp .lt 7, 3) := by decide +kernel
theorem dX6_appendBox_18 : decode cX6_appendBox 18 = .ok (.sipush (-1000), 3) := by decide +kernel
theorem dX6_appendBox_21 : decode cX6_appendBox 21 = .ok (.ireturn, 1) := by decide +kernel
theorem dX6_appendBox_22 : decode cX6_appendBox 22 = .ok (.aload_n 0, 1) := by decide +kernel
theorem dX6_appendBox_23 : decode cX6_appendBox 23 = .ok (.getfield 15, 3) := by decide +kernel
theorem dX6_appendBox_26 : decode cX6_appendBox 26 = .ok (.iload 7, 2) := by decide +kernel
theorem dX6_appendBox_28 : decode cX6_appendBox 28 = .ok (.aload_n 0, 1) := by decide +kernel
theorem dX6_appendBox_29 : decode cX6_appendBox 29 = .ok (.iload_n 1, 1) := by decide +kernel
theorem dX6_appendBox_30 : decode cX6_appendBox 30 = .ok (.invokevirtual 57, 3) := by decide +kernel
theorem dX6_appendBox_33 : decode cX6_appendBox 33 = .ok (.iastore, 1) := by decide +kernel
theorem dX6_appendBox_34 : decode cX6_appendBox 34 = .ok (.aload_n 0, 1) := by decide +kernel
theorem dX6_appendBox_35 : decode cX6_appendBox 35 = .ok (.getfield 9, 3) := by decide +kernel
theorem dX6_appendBox_38 : decode cX6_appendBox 38 = .ok (.iload 7, 2) := by decide +kernel
theorem dX6_appendBox_40 : decode cX6_appendBox 40 = .ok (.iload_n 1, 1) := by decide +kernel
theorem dX6_appendBox_41 : decode cX6_appendBox 41 = .ok (.iastore, 1) := by decide +kernel
theorem dX6_appendBox_42 : decode cX6_appendBox 42 = .ok (.aload_n 0, 1) := by decide +kernel
theorem dX6_appendBox_43 : decode cX6_appendBox 43 = .ok (.getfield 18, 3) := by decide +kernel
theorem dX6_appendBox_46 : decode cX6_appendBox 46 = .ok (.iload 7, 2) := by decide +kernel
theorem dX6_appendBox_48 : decode cX6_appendBox 48 = .ok (.iload_n 2, 1) := by decide +kernel
theorem dX6_appendBox_49 : decode cX6_appendBox 49 = .ok (.iastore, 1) := by decide +kernel
theorem dX6_appendBox_50 : decode cX6_appendBox 50 = .ok (.aload_n 0, 1) := by decide +kernel
theorem dX6_appendBox_51 : decode cX6_appendBox 51 = .ok (.getfield 21, 3) := by decide +kernel
theorem dX6_appendBox_54 : decode cX6_appendBox 54 = .ok (.iload 7, 2) := by decide +kernel
theorem dX6_appendBox_56 : decode cX6_appendBox 56 = .ok (.iload_n 3, 1) := by decide +kernel
theorem dX6_appendBox_57 : decode cX6_appendBox 57 = .ok (.iastore, 1) := by decide +kernel
theorem dX6_appendBox_58 : decode cX6_appendBox 58 = .ok (.aload_n 0, 1) := by decide +kernel
theorem dX6_appendBox_59 : decode cX6_appendBox 59 = .ok (.getfield 24, 3) := by decide +kernel
theorem dX6_appendBox_62 : decode cX6_appendBox 62 = .ok (.iload 7, 2) := by decide +kernel
theorem dX6_appendBox_64 : decode cX6_appendBox 64 = .ok (.iload 4, 2) := by decide +kernel
theorem dX6_appendBox_66 : decode cX6_appendBox 66 = .ok (.iastore, 1) := by decide +kernel
theorem dX6_appendBox_67 : decode cX6_appendBox 67 = .ok (.aload_n 0, 1) := by decide +kernel
theorem dX6_appendBox_68 : decode cX6_appendBox 68 = .ok (.getfield 27, 3) := by decide +kernel
theorem dX6_appendBox_71 : decode cX6_appendBox 71 = .ok (.iload 7, 2) := by decide +kernel
theorem dX6_appendBox_73 : decode cX6_appendBox 73 = .ok (.iload 5, 2) := by decide +kernel
theorem dX6_appendBox_75 : decode cX6_appendBox 75 = .ok (.iastore, 1) := by decide +kernel
theorem dX6_appendBox_76 : decode cX6_appendBox 76 = .ok (.aload_n 0, 1) := by decide +kernel
theorem dX6_appendBox_77 : decode cX6_appendBox 77 = .ok (.getfield 30, 3) := by decide +kernel
theorem dX6_appendBox_80 : decode cX6_appendBox 80 = .ok (.iload 7, 2) := by decide +kernel
theorem dX6_appendBox_82 : decode cX6_appendBox 82 = .ok (.iload 6, 2) := by decide +kernel
theorem dX6_appendBox_84 : decode cX6_appendBox 84 = .ok (.iastore, 1) := by decide +kernel
theorem dX6_appendBox_85 : decode cX6_appendBox 85 = .ok (.aload_n 0, 1) := by decide +kernel
theorem dX6_appendBox_86 : decode cX6_appendBox 86 = .ok (.getfield 33, 3) := by decide +kernel
theorem dX6_appendBox_89 : decode cX6_appendBox 89 = .ok (.iload 7, 2) := by decide +kernel
theorem dX6_appendBox_91 : decode cX6_appendBox 91 = .ok (.bipush 8, 2) := by decide +kernel
theorem dX6_appendBox_93 : decode cX6_appendBox 93 = .ok (.iastore, 1) := by decide +kernel
theorem dX6_appendBox_94 : decode cX6_appendBox 94 = .ok (.aload_n 0, 1) := by decide +kernel
theorem dX6_appendBox_95 : decode cX6_appendBox 95 = .ok (.iload 7, 2) := by decide +kernel
theorem dX6_appendBox_97 : decode cX6_appendBox 97 = .ok (.iconst 1, 1) := by decide +kernel
theorem dX6_appendBox_98 : decode cX6_appendBox 98 = .ok (.iadd, 1) := by decide +kernel
theorem dX6_appendBox_99 : decode cX6_appendBox 99 = .ok (.putfield 39, 3) := by decide +kernel
theorem dX6_appendBox_102 : decode cX6_appendBox 102 = .ok (.iload 7, 2) := by decide +kernel
theorem dX6_appendBox_104 : decode cX6_appendBox 104 = .ok (.ireturn, 1) := by decide +kernel
theorem dX6_placeAt_0 : decode cX6_placeAt 0 = .ok (.aload_n 0, 1) := by decide +kernel
theorem dX6_placeAt_1 : decode cX6_placeAt 1 = .ok (.iload_n 1, 1) := by decide +kernel
theorem dX6_placeAt_2 : decode cX6_placeAt 2 = .ok (.invokevirtual 47, 3) := by decide +kernel
theorem dX6_placeAt_5 : decode cX6_placeAt 5 = .ok (.ifCond .ne 7, 3) := by decide +kernel
theorem dX6_placeAt_8 : decode cX6_placeAt 8 = .ok (.sipush (-1000), 3) := by decide +kernel
theorem dX6_placeAt_11 : decode cX6_placeAt 11 = .ok (.ireturn, 1) := by decide +kernel
theorem dX6_placeAt_12 : decode cX6_placeAt 12 = .ok (.aload_n 0, 1) := by decide +kernel
theorem dX6_placeAt_13 : decode cX6_placeAt 13 = .ok (.getfield 24, 3) := by decide +kernel
theorem dX6_placeAt_16 : decode cX6_placeAt 16 = .ok (.iload_n 1, 1) := by decide +kernel
theorem dX6_placeAt_17 : decode cX6_placeAt 17 = .ok (.iaload, 1) := by decide +kernel
theorem dX6_placeAt_18 : decode cX6_placeAt 18 = .ok (.istore 5, 2) := by decide +kernel
theorem dX6_placeAt_20 : decode cX6_placeAt 20 = .ok (.aload_n 0, 1) := by decide +kernel
theorem dX6_placeAt_21 : decode cX6_placeAt 21 = .ok (.getfield 18, 3) := by decide +kernel
theorem dX6_placeAt_24 : decode cX6_placeAt 24 = .ok (.iload_n 1, 1) := by decide +kernel
theorem dX6_placeAt_25 : decode cX6_placeAt 25 = .ok (.iload_n 2, 1) := by decide +kernel
theorem dX6_placeAt_26 : decode cX6_placeAt 26 = .ok (.iastore, 1) := by decide +kernel
theorem dX6_placeAt_27 : decode cX6_placeAt 27 = .ok (.aload_n 0, 1) := by decide +kernel
theorem dX6_placeAt_28 : decode cX6_placeAt 28 = .ok (.getfield 21, 3) := by decide +kernel
theorem dX6_placeAt_31 : decode cX6_placeAt 31 = .ok (.iload_n 1, 1) := by decide +kernel
theorem dX6_placeAt_32 : decode cX6_placeAt 32 = .ok (.iload_n 3, 1) := by decide +kernel
theorem dX6_placeAt_33 : decode cX6_placeAt 33 = .ok (.iastore, 1) := by decide +kernel
theorem dX6_placeAt_34 : decode cX6_placeAt 34 = .ok (.aload_n 0, 1) := by decide +kernel
theorem dX6_placeAt_35 : decode cX6_placeAt 35 = .ok (.getfield 24, 3) := by decide +kernel
theorem dX6_placeAt_38 : decode cX6_placeAt 38 = .ok (.iload_n 1, 1) := by decide +kernel
theorem dX6_placeAt_39 : decode cX6_placeAt 39 = .ok (.iload 4, 2) := by decide +kernel
theorem dX6_placeAt_41 : decode cX6_placeAt 41 = .ok (.iastore, 1) := by decide +kernel
theorem dX6_placeAt_42 : decode cX6_placeAt 42 = .ok (.iload 5, 2) := by decide +kernel
theorem dX6_placeAt_44 : decode cX6_placeAt 44 = .ok (.ireturn, 1) := by decide +kernel
theorem dX6_colour_0 : decode cX6_colour 0 = .ok (.aload_n 0, 1) := by decide +kernel
theorem dX6_colour_1 : decode cX6_colour 1 = .ok (.iload_n 1, 1) := by decide +kernel
theorem dX6_colour_2 : decode cX6_colour 2 = .ok (.invokevirtual 47, 3) := by decide +kernel
theorem dX6_colour_5 : decode cX6_colour 5 = .ok (.ifCond .ne 7, 3) := by decide +kernel
theorem dX6_colour_8 : decode cX6_colour 8 = .ok (.sipush (-1000), 3) := by decide +kernel
theorem dX6_colour_11 : decode cX6_colour 11 = .ok (.ireturn, 1) := by decide +kernel
theorem dX6_colour_12 : decode cX6_colour 12 = .ok (.aload_n 0, 1) := by decide +kernel
theorem dX6_colour_13 : decode cX6_colour 13 = .ok (.getfield 33, 3) := by decide +kernel
theorem dX6_colour_16 : decode cX6_colour 16 = .ok (.iload_n 1, 1) := by decide +kernel
theorem dX6_colour_17 : decode cX6_colour 17 = .ok (.iaload, 1) := by decide +kernel
theorem dX6_colour_18 : decode cX6_colour 18 = .ok (.istore_n 3, 1) := by decide +kernel
theorem dX6_colour_19 : decode cX6_colour 19 = .ok (.aload_n 0, 1) := by decide +kernel
theorem dX6_colour_20 : decode cX6_colour 20 = .ok (.getfield 33, 3) := by decide +kernel
theorem dX6_colour_23 : decode cX6_colour 23 = .ok (.iload_n 1, 1) := by decide +kernel
theorem dX6_colour_24 : decode cX6_colour 24 = .ok (.iload_n 2, 1) := by decide +kernel
theorem dX6_colour_25 : decode cX6_colour 25 = .ok (.iastore, 1) := by decide +kernel
theorem dX6_colour_26 : decode cX6_colour 26 = .ok (.iload_n 3, 1) := by decide +kernel
theorem dX6_colour_27 : decode cX6_colour 27 = .ok (.ireturn, 1) := by decide +kernel
theorem dX6_drop_0 : decode cX6_drop 0 = .ok (.iconst 0, 1) := by decide +kernel
theorem dX6_drop_1 : decode cX6_drop 1 = .ok (.istore_n 2, 1) := by decide +kernel
theorem dX6_drop_2 : decode cX6_drop 2 = .ok (.iconst 0, 1) := by decide +kernel
theorem dX6_drop_3 : decode cX6_drop 3 = .ok (.istore_n 3, 1) := by decide +kernel
theorem dX6_drop_4 : decode cX6_drop 4 = .ok (.iload_n 3, 1) := by decide +kernel
theorem dX6_drop_5 : decode cX6_drop 5 = .ok (.aload_n 0, 1) := by decide +kernel
theorem dX6_drop_6 : decode cX6_drop 6 = .ok (.getfield 39, 3) := by decide +kernel
theorem dX6_drop_9 : decode cX6_drop 9 = .ok (.if_icmp .ge 116, 3) := by decide +kernel
theorem dX6_drop_12 : decode cX6_drop 12 = .ok (.iload_n 3, 1) := by decide +kernel
theorem dX6_drop_13 : decode cX6_drop 13 = .ok (.bipush 20, 2) := by decide +kernel
theorem dX6_drop_15 : decode cX6_drop 15 = .ok (.if_icmp .ge 110, 3) := by decide +kernel
theorem dX6_drop_18 : decode cX6_drop 18 = .ok (.aload_n 0, 1) := by decide +kernel
theorem dX6_drop_19 : decode cX6_drop 19 = .ok (.getfield 9, 3) := by decide +kernel
theorem dX6_drop_22 : decode cX6_drop 22 = .ok (.iload_n 3, 1) := by decide +kernel
theorem dX6_drop_23 : decode cX6_drop 23 = .ok (.iaload, 1) := by decide +kernel
theorem dX6_drop_24 : decode cX6_drop 24 = .ok (.istore 4, 2) := by decide +kernel
theorem dX6_drop_26 : decode cX6_drop 26 = .ok (.iload 4, 2) := by decide +kernel
theorem dX6_drop_28 : decode cX6_drop 28 = .ok (.ifCond .lt 13, 3) := by decide +kernel
theorem dX6_drop_31 : decode cX6_drop 31 = .ok (.iload 4, 2) := by decide +kernel
theorem dX6_drop_33 : decode cX6_drop 33 = .ok (.iload_n 3, 1) := by decide +kernel
theorem dX6_drop_34 : decode cX6_drop 34 = .ok (.if_icmp .ge 7, 3) := by decide +kernel
theorem dX6_drop_37 : decode cX6_drop 37 = .ok (.iconst 1, 1) := by decide +kernel
theorem dX6_drop_38 : decode cX6_drop 38 = .ok (.goto 4, 3) := by decide +kernel
theorem dX6_drop_41 : decode cX6_drop 41 = .ok (.iconst 0, 1) := by decide +kernel
theorem dX6_drop_42 : decode cX6_drop 42 = .ok (.istore 5, 2) := by decide +kernel
theorem dX6_drop_44 : decode cX6_drop 44 = .ok (.iload_n 3, 1) := by decide +kernel
theorem dX6_drop_45 : decode cX6_drop 45 = .ok (.iload_n 1, 1) := by decide +kernel
theorem dX6_drop_46 : decode cX6_drop 46 = .ok (.if_icmp .eq 21, 3) := by decide +kernel
theorem dX6_drop_49 : decode cX6_drop 49 = .ok (.iload 5, 2) := by decide +kernel
theorem dX6_drop_51 : decode cX6_drop 51 = .ok (.ifCond .eq 28, 3) := by decide +kernel
theorem dX6_drop_54 : decode cX6_drop 54 = .ok (.aload_n 0, 1) := by decide +kernel
theorem dX6_drop_55 : decode cX6_drop 55 = .ok (.getfield 36, 3) := by decide +kernel
theorem dX6_drop_58 : decode cX6_drop 58 = .ok (.iload 4, 2) := by decide +kernel
theorem dX6_drop_60 : decode cX6_drop 60 = .ok (.iaload, 1) := by decide +kernel
theorem dX6_drop_61 : decode cX6_drop 61 = .ok (.sipush (-1000), 3) := by decide +kernel
theorem dX6_drop_64 : decode cX6_drop 64 = .ok (.if_icmp .ne 15, 3) := by decide +kernel
theorem dX6_drop_67 : decode cX6_drop 67 = .ok (.aload_n 0, 1) := by decide +kernel
theorem dX6_drop_68 : decode cX6_drop 68 = .ok (.getfield 36, 3) := by decide +kernel
theorem dX6_drop_71 : decode cX6_drop 71 = .ok (.iload_n 3, 1) := by decide +kernel
theorem dX6_drop_72 : decode cX6_drop 72 = .ok (.sipush (-1000), 3) := by decide +kernel
theorem dX6_drop_75 : decode cX6_drop 75 = .ok (.iastore, 1) := by decide +kernel
theorem dX6_drop_76 : decode cX6_drop 76 = .ok (.goto 43, 3) := by decide +kernel
theorem dX6_drop_79 : decode cX6_drop 79 = .ok (.aload_n 0, 1) := by decide +kernel
theorem dX6_drop_80 : decode cX6_drop 80 = .ok (.getfield 36, 3) := by decide +kernel
theorem dX6_drop_83 : decode cX6_drop 83 = .ok (.iload_n 3, 1) := by decide +kernel
theorem dX6_drop_84 : decode cX6_drop 84 = .ok (.iload_n 2, 1) := by decide +kernel
theorem dX6_drop_85 : decode cX6_drop 85 = .ok (.iastore, 1) := by decide +kernel
theorem dX6_drop_86 : decode cX6_drop 86 = .ok (.aload_n 0, 1) := by decide +kernel
theorem dX6_drop_87 : decode cX6_drop 87 = .ok (.iload_n 3, 1) := by decide +kernel
theorem dX6_drop_88 : decode cX6_drop 88 = .ok (.iload_n 2, 1) := by decide +kernel
theorem dX6_drop_89 : decode cX6_drop 89 = .ok (.invokevirtual 72, 3) := by decide +kernel
theorem dX6_drop_92 : decode cX6_drop 92 = .ok (.aload_n 0, 1) := by decide +kernel
theorem dX6_drop_93 : decode cX6_drop 93 = .ok (.getfield 9, 3) := by decide +kernel
theorem dX6_drop_96 : decode cX6_drop 96 = .ok (.iload_n 2, 1) := by decide +kernel
theorem dX6_drop_97 : decode cX6_drop 97 = .ok (.iload 5, 2) := by decide +kernel
theorem dX6_drop_99 : decode cX6_drop 99 = .ok (.ifCond .eq 13, 3) := by decide +kernel
theorem dX6_drop_102 : decode cX6_drop 102 = .ok (.aload_n 0, 1) := by decide +kernel
theorem dX6_drop_103 : decode cX6_drop 103 = .ok (.getfield 36, 3) := by decide +kernel
theorem dX6_drop_106 : decode cX6_drop 106 = .ok (.iload 4, 2) := by decide +kernel
theorem dX6_drop_108 : decode cX6_drop 108 = .ok (.iaload, 1) := by decide +kernel
theorem dX6_drop_109 : decode cX6_drop 109 = .ok (.goto 6, 3) := by decide +kernel
theorem dX6_drop_112 : decode cX6_drop 112 = .ok (.sipush (-1000), 3) := by decide +kernel
theorem dX6_drop_115 : decode cX6_drop 115 = .ok (.iastore, 1) := by decide +kernel
theorem dX6_drop_116 : decode cX6_drop 116 = .ok (.iinc 2 1, 3) := by decide +kernel
theorem dX6_drop_119 : decode cX6_drop 119 = .ok (.iinc 3 1, 3) := by decide +kernel
theorem dX6_drop_122 : decode cX6_drop 122 = .ok (.goto (-118), 3) := by decide +kernel
theorem dX6_drop_125 : decode cX6_drop 125 = .ok (.aload_n 0, 1) := by decide +kernel
theorem dX6_drop_126 : decode cX6_drop 126 = .ok (.iload_n 2, 1) := by decide +kernel
theorem dX6_drop_127 : decode cX6_drop 127 = .ok (.putfield 39, 3) := by decide +kernel
theorem dX6_drop_130 : decode cX6_drop 130 = .ok (.iload_n 2, 1) := by decide +kernel
theorem dX6_drop_131 : decode cX6_drop 131 = .ok (.ireturn, 1) := by decide +kernel
theorem dX6_shiftDown_0 : decode cX6_shiftDown 0 = .ok (.aload_n 0, 1) := by decide +kernel
theorem dX6_shiftDown_1 : decode cX6_shiftDown 1 = .ok (.iload_n 1, 1) := by decide +kernel
theorem dX6_shiftDown_2 : decode cX6_shiftDown 2 = .ok (.invokevirtual 47, 3) := by decide +kernel
theorem dX6_shiftDown_5 : decode cX6_shiftDown 5 = .ok (.ifCond .eq 95, 3) := by decide +kernel
theorem dX6_shiftDown_8 : decode cX6_shiftDown 8 = .ok (.aload_n 0, 1) := by decide +kernel
theorem dX6_shiftDown_9 : decode cX6_shiftDown 9 = .ok (.iload_n 2, 1) := by decide +kernel
theorem dX6_shiftDown_10 : decode cX6_shiftDown 10 = .ok (.invokevirtual 47, 3) := by decide +kernel
theorem dX6_shiftDown_13 : decode cX6_shiftDown 13 = .ok (.ifCond .eq 87, 3) := by decide +kernel
theorem dX6_shiftDown_16 : decode cX6_shiftDown 16 = .ok (.aload_n 0, 1) := by decide +kernel
theorem dX6_shiftDown_17 : decode cX6_shiftDown 17 = .ok (.getfield 15, 3) := by decide +kernel
theorem dX6_shiftDown_20 : decode cX6_shiftDown 20 = .ok (.iload_n 2, 1) := by decide +kernel
theorem dX6_shiftDown_21 : decode cX6_shiftDown 21 = .ok (.aload_n 0, 1) := by decide +kernel
theorem dX6_shiftDown_22 : decode cX6_shiftDown 22 = .ok (.getfield 15, 3) := by decide +kernel
theorem dX6_shiftDown_25 : decode cX6_shiftDown 25 = .ok (.iload_n 1, 1) := by decide +kernel
theorem dX6_shiftDown_26 : decode cX6_shiftDown 26 = .ok (.iaload, 1) := by decide +kernel
theorem dX6_shiftDown_27 : decode cX6_shiftDown 27 = .ok (.iastore, 1) := by decide +kernel
theorem dX6_shiftDown_28 : decode cX6_shiftDown 28 = .ok (.aload_n 0, 1) := by decide +kernel
theorem dX6_shiftDown_29 : decode cX6_shiftDown 29 = .ok (.getfield 18, 3) := by decide +kernel
theorem dX6_shiftDown_32 : decode cX6_shiftDown 32 = .ok (.iload_n 2, 1) := by decide +kernel
theorem dX6_shiftDown_33 : decode cX6_shiftDown 33 = .ok (.aload_n 0, 1) := by decide +kernel
theorem dX6_shiftDown_34 : decode cX6_shiftDown 34 = .ok (.getfield 18, 3) := by decide +kernel
theorem dX6_shiftDown_37 : decode cX6_shiftDown 37 = .ok (.iload_n 1, 1) := by decide +kernel
theorem dX6_shiftDown_38 : decode cX6_shiftDown 38 = .ok (.iaload, 1) := by decide +kernel
theorem dX6_shiftDown_39 : decode cX6_shiftDown 39 = .ok (.iastore, 1) := by decide +kernel
theorem dX6_shiftDown_40 : decode cX6_shiftDown 40 = .ok (.aload_n 0, 1) := by decide +kernel
theorem dX6_shiftDown_41 : decode cX6_shiftDown 41 = .ok (.getfield 21, 3) := by decide +kernel
theorem dX6_shiftDown_44 : decode cX6_shiftDown 44 = .ok (.iload_n 2, 1) := by decide +kernel
theorem dX6_shiftDown_45 : decode cX6_shiftDown 45 = .ok (.aload_n 0, 1) := by decide +kernel
theorem dX6_shiftDown_46 : decode cX6_shiftDown 46 = .ok (.getfield 21, 3) := by decide +kernel
theorem dX6_shiftDown_49 : decode cX6_shiftDown 49 = .ok (.iload_n 1, 1) := by decide +kernel
theorem dX6_shiftDown_50 : decode cX6_shiftDown 50 = .ok (.iaload, 1) := by decide +kernel
theorem dX6_shiftDown_51 : decode cX6_shiftDown 51 = .ok (.iastore, 1) := by decide +kernel
theorem dX6_shiftDown_52 : decode cX6_shiftDown 52 = .ok (.aload_n 0, 1) := by decide +kernel
theorem dX6_shiftDown_53 : decode cX6_shiftDown 53 = .ok (.getfield 24, 3) := by decide +kernel
theorem dX6_shiftDown_56 : decode cX6_shiftDown 56 = .ok (.iload_n 2, 1) := by decide +kernel
theorem dX6_shiftDown_57 : decode cX6_shiftDown 57 = .ok (.aload_n 0, 1) := by decide +kernel
theorem dX6_shiftDown_58 : decode cX6_shiftDown 58 = .ok (.getfield 24, 3) := by decide +kernel
theorem dX6_shiftDown_61 : decode cX6_shiftDown 61 = .ok (.iload_n 1, 1) := by decide +kernel
theorem dX6_shiftDown_62 : decode cX6_shiftDown 62 = .ok (.iaload, 1) := by decide +kernel
theorem dX6_shiftDown_63 : decode cX6_shiftDown 63 = .ok (.iastore, 1) := by decide +kernel
theorem dX6_shiftDown_64 : decode cX6_shiftDown 64 = .ok (.aload_n 0, 1) := by decide +kernel
theorem dX6_shiftDown_65 : decode cX6_shiftDown 65 = .ok (.getfield 27, 3) := by decide +kernel
theorem dX6_shiftDown_68 : decode cX6_shiftDown 68 = .ok (.iload_n 2, 1) := by decide +kernel
theorem dX6_shiftDown_69 : decode cX6_shiftDown 69 = .ok (.aload_n 0, 1) := by decide +kernel
theorem dX6_shiftDown_70 : decode cX6_shiftDown 70 = .ok (.getfield 27, 3) := by decide +kernel
theorem dX6_shiftDown_73 : decode cX6_shiftDown 73 = .ok (.iload_n 1, 1) := by decide +kernel
theorem dX6_shiftDown_74 : decode cX6_shiftDown 74 = .ok (.iaload, 1) := by decide +kernel
theorem dX6_shiftDown_75 : decode cX6_shiftDown 75 = .ok (.iastore, 1) := by decide +kernel
theorem dX6_shiftDown_76 : decode cX6_shiftDown 76 = .ok (.aload_n 0, 1) := by decide +kernel
theorem dX6_shiftDown_77 : decode cX6_shiftDown 77 = .ok (.getfield 30, 3) := by decide +kernel
theorem dX6_shiftDown_80 : decode cX6_shiftDown 80 = .ok (.iload_n 2, 1) := by decide +kernel
theorem dX6_shiftDown_81 : decode cX6_shiftDown 81 = .ok (.aload_n 0, 1) := by decide +kernel
theorem dX6_shiftDown_82 : decode cX6_shiftDown 82 = .ok (.getfield 30, 3) := by decide +kernel
theorem dX6_shiftDown_85 : decode cX6_shiftDown 85 = .ok (.iload_n 1, 1) := by decide +kernel
theorem dX6_shiftDown_86 : decode cX6_shiftDown 86 = .ok (.iaload, 1) := by decide +kernel
theorem dX6_shiftDown_87 : decode cX6_shiftDown 87 = .ok (.iastore, 1) := by decide +kernel
theorem dX6_shiftDown_88 : decode cX6_shiftDown 88 = .ok (.aload_n 0, 1) := by decide +kernel
theorem dX6_shiftDown_89 : decode cX6_shiftDown 89 = .ok (.getfield 33, 3) := by decide +kernel
theorem dX6_shiftDown_92 : decode cX6_shiftDown 92 = .ok (.iload_n 2, 1) := by decide +kernel
theorem dX6_shiftDown_93 : decode cX6_shiftDown 93 = .ok (.aload_n 0, 1) := by decide +kernel
theorem dX6_shiftDown_94 : decode cX6_shiftDown 94 = .ok (.getfield 33, 3) := by decide +kernel
theorem dX6_shiftDown_97 : decode cX6_shiftDown 97 = .ok (.iload_n 1, 1) := by decide +kernel
theorem dX6_shiftDown_98 : decode cX6_shiftDown 98 = .ok (.iaload, 1) := by decide +kernel
theorem dX6_shiftDown_99 : decode cX6_shiftDown 99 = .ok (.iastore, 1) := by decide +kernel
theorem dX6_shiftDown_100 : decode cX6_shiftDown 100 = .ok (.return_, 1) := by decide +kernel
theorem dX6_copyFrom_0 : decode cX6_copyFrom 0 = .ok (.aload_n 0, 1) := by decide +kernel
theorem dX6_copyFrom_1 : decode cX6_copyFrom 1 = .ok (.aload_n 1, 1) := by decide +kernel
theorem dX6_copyFrom_2 : decode cX6_copyFrom 2 = .ok (.getfield 39, 3) := by decide +kernel
theorem dX6_copyFrom_5 : decode cX6_copyFrom 5 = .ok (.putfield 39, 3) := by decide +kernel
theorem dX6_copyFrom_8 : decode cX6_copyFrom 8 = .ok (.aload_n 1, 1) := by decide +kernel
theorem dX6_copyFrom_9 : decode cX6_copyFrom 9 = .ok (.getfield 9, 3) := by decide +kernel
theorem dX6_copyFrom_12 : decode cX6_copyFrom 12 = .ok (.aload_n 0, 1) := by decide +kernel
theorem dX6_copyFrom_13 : decode cX6_copyFrom 13 = .ok (.getfield 9, 3) := by decide +kernel
theorem dX6_copyFrom_16 : decode cX6_copyFrom 16 = .ok (.invokestatic 76, 3) := by decide +kernel
theorem dX6_copyFrom_19 : decode cX6_copyFrom 19 = .ok (.aload_n 1, 1) := by decide +kernel
theorem dX6_copyFrom_20 : decode cX6_copyFrom 20 = .ok (.getfield 15, 3) := by decide +kernel
theorem dX6_copyFrom_23 : decode cX6_copyFrom 23 = .ok (.aload_n 0, 1) := by decide +kernel
theorem dX6_copyFrom_24 : decode cX6_copyFrom 24 = .ok (.getfield 15, 3) := by decide +kernel
theorem dX6_copyFrom_27 : decode cX6_copyFrom 27 = .ok (.invokestatic 76, 3) := by decide +kernel
theorem dX6_copyFrom_30 : decode cX6_copyFrom 30 = .ok (.aload_n 1, 1) := by decide +kernel
theorem dX6_copyFrom_31 : decode cX6_copyFrom 31 = .ok (.getfield 18, 3) := by decide +kernel
theorem dX6_copyFrom_34 : decode cX6_copyFrom 34 = .ok (.aload_n 0, 1) := by decide +kernel
theorem dX6_copyFrom_35 : decode cX6_copyFrom 35 = .ok (.getfield 18, 3) := by decide +kernel
theorem dX6_copyFrom_38 : decode cX6_copyFrom 38 = .ok (.invokestatic 76, 3) := by decide +kernel
theorem dX6_copyFrom_41 : decode cX6_copyFrom 41 = .ok (.aload_n 1, 1) := by decide +kernel
theorem dX6_copyFrom_42 : decode cX6_copyFrom 42 = .ok (.getfield 21, 3) := by decide +kernel
theorem dX6_copyFrom_45 : decode cX6_copyFrom 45 = .ok (.aload_n 0, 1) := by decide +kernel
theorem dX6_copyFrom_46 : decode cX6_copyFrom 46 = .ok (.getfield 21, 3) := by decide +kernel
theorem dX6_copyFrom_49 : decode cX6_copyFrom 49 = .ok (.invokestatic 76, 3) := by decide +kernel
theorem dX6_copyFrom_52 : decode cX6_copyFrom 52 = .ok (.aload_n 1, 1) := by decide +kernel
theorem dX6_copyFrom_53 : decode cX6_copyFrom 53 = .ok (.getfield 24, 3) := by decide +kernel
theorem dX6_copyFrom_56 : decode cX6_copyFrom 56 = .ok (.aload_n 0, 1) := by decide +kernel
theorem dX6_copyFrom_57 : decode cX6_copyFrom 57 = .ok (.getfield 24, 3) := by decide +kernel
theorem dX6_copyFrom_60 : decode cX6_copyFrom 60 = .ok (.invokestatic 76, 3) := by decide +kernel
theorem dX6_copyFrom_63 : decode cX6_copyFrom 63 = .ok (.aload_n 1, 1) := by decide +kernel
theorem dX6_copyFrom_64 : decode cX6_copyFrom 64 = .ok (.getfield 27, 3) := by decide +kernel
theorem dX6_copyFrom_67 : decode cX6_copyFrom 67 = .ok (.aload_n 0, 1) := by decide +kernel
theorem dX6_copyFrom_68 : decode cX6_copyFrom 68 = .ok (.getfield 27, 3) := by decide +kernel
theorem dX6_copyFrom_71 : decode cX6_copyFrom 71 = .ok (.invokestatic 76, 3) := by decide +kernel
theorem dX6_copyFrom_74 : decode cX6_copyFrom 74 = .ok (.aload_n 1, 1) := by decide +kernel
theorem dX6_copyFrom_75 : decode cX6_copyFrom 75 = .ok (.getfield 30, 3) := by decide +kernel
theorem dX6_copyFrom_78 : decode cX6_copyFrom 78 = .ok (.aload_n 0, 1) := by decide +kernel
theorem dX6_copyFrom_79 : decode cX6_copyFrom 79 = .ok (.getfield 30, 3) := by decide +kernel
theorem dX6_copyFrom_82 : decode cX6_copyFrom 82 = .ok (.invokestatic 76, 3) := by decide +kernel
theorem dX6_copyFrom_85 : decode cX6_copyFrom 85 = .ok (.aload_n 1, 1) := by decide +kernel
theorem dX6_copyFrom_86 : decode cX6_copyFrom 86 = .ok (.getfield 33, 3) := by decide +kernel
theorem dX6_copyFrom_89 : decode cX6_copyFrom 89 = .ok (.aload_n 0, 1) := by decide +kernel
theorem dX6_copyFrom_90 : decode cX6_copyFrom 90 = .ok (.getfield 33, 3) := by decide +kernel
theorem dX6_copyFrom_93 : decode cX6_copyFrom 93 = .ok (.invokestatic 76, 3) := by decide +kernel
theorem dX6_copyFrom_96 : decode cX6_copyFrom 96 = .ok (.return_, 1) := by decide +kernel
theorem dX7_init_0 : decode cX7_init 0 = .ok (.aload_n 0, 1) := by decide +kernel
theorem dX7_init_1 : decode cX7_init 1 = .ok (.invokespecial 3, 3) := by decide +kernel
theorem dX7_init_4 : decode cX7_init 4 = .ok (.aload_n 0, 1) := by decide +kernel
theorem dX7_init_5 : decode cX7_init 5 = .ok (.new 9, 3) := by decide +kernel
theorem dX7_init_8 : decode cX7_init 8 = .ok (.dup, 1) := by decide +kernel
theorem dX7_init_9 : decode cX7_init 9 = .ok (.invokespecial 11, 3) := by decide +kernel
theorem dX7_init_12 : decode cX7_init 12 = .ok (.putfield 12, 3) := by decide +kernel
theorem dX7_init_15 : decode cX7_init 15 = .ok (.aload_n 0, 1) := by decide +kernel
theorem dX7_init_16 : decode cX7_init 16 = .ok (.aload_n 0, 1) := by decide +kernel
theorem dX7_init_17 : decode cX7_init 17 = .ok (.getfield 12, 3) := by decide +kernel
theorem dX7_init_20 : decode cX7_init 20 = .ok (.getfield 18, 3) := by decide +kernel
theorem dX7_init_23 : decode cX7_init 23 = .ok (.putfield 22, 3) := by decide +kernel
theorem dX7_init_26 : decode cX7_init 26 = .ok (.aload_n 0, 1) := by decide +kernel
theorem dX7_init_27 : decode cX7_init 27 = .ok (.aload_n 0, 1) := by decide +kernel
theorem dX7_init_28 : decode cX7_init 28 = .ok (.getfield 22, 3) := by decide +kernel
theorem dX7_init_31 : decode cX7_init 31 = .ok (.getfield 23, 3) := by decide +kernel
theorem dX7_init_34 : decode cX7_init 34 = .ok (.putfield 29, 3) := by decide +kernel
theorem dX7_init_37 : decode cX7_init 37 = .ok (.aload_n 0, 1) := by decide +kernel
theorem dX7_init_38 : decode cX7_init 38 = .ok (.sipush 200, 3) := by decide +kernel
theorem dX7_init_41 : decode cX7_init 41 = .ok (.newarray .int, 2) := by decide +kernel
theorem dX7_init_43 : decode cX7_init 43 = .ok (.putfield 30, 3) := by decide +kernel
theorem dX7_init_46 : decode cX7_init 46 = .ok (.aload_n 0, 1) := by decide +kernel
theorem dX7_init_47 : decode cX7_init 47 = .ok (.sipush 200, 3) := by decide +kernel
theorem dX7_init_50 : decode cX7_init 50 = .ok (.newarray .int, 2) := by decide +kernel
theorem dX7_init_52 : decode cX7_init 52 = .ok (.putfield 34, 3) := by decide +kernel
theorem dX7_init_55 : decode cX7_init 55 = .ok (.return_, 1) := by decide +kernel
theorem dX7_measure_0 : decode cX7_measure 0 = .ok (.aload_n 0, 1) := by decide +kernel
theorem dX7_measure_1 : decode cX7_measure 1 = .ok (.sipush (-1000), 3) := by decide +kernel
theorem dX7_measure_4 : decode cX7_measure 4 = .ok (.putfield 37, 3) := by decide +kernel
theorem dX7_measure_7 : decode cX7_measure 7 = .ok (.aload_n 0, 1) := by decide +kernel
theorem dX7_measure_8 : decode cX7_measure 8 = .ok (.getfield 12, 3) := by decide +kernel
theorem dX7_measure_11 : decode cX7_measure 11 = .ok (.invokevirtual 41, 3) := by decide +kernel
theorem dX7_measure_14 : decode cX7_measure 14 = .ok (.aload_n 0, 1) := by decide +kernel
theorem dX7_measure_15 : decode cX7_measure 15 = .ok (.aload_n 0, 1) := by decide +kernel
theorem dX7_measure_16 : decode cX7_measure 16 = .ok (.iconst 1, 1) := by decide +kernel
theorem dX7_measure_17 : decode cX7_measure 17 = .ok (.invokevirtual 44, 3) := by decide +kernel
theorem dX7_measure_20 : decode cX7_measure 20 = .ok (.putfield 48, 3) := by decide +kernel
theorem dX7_measure_23 : decode cX7_measure 23 = .ok (.aload_n 0, 1) := by decide +kernel
theorem dX7_measure_24 : decode cX7_measure 24 = .ok (.aload_n 0, 1) := by decide +kernel
theorem dX7_measure_25 : decode cX7_measure 25 = .ok (.iconst 0, 1) := by decide +kernel
theorem dX7_measure_26 : decode cX7_measure 26 = .ok (.invokevirtual 44, 3) := by decide +kernel
theorem dX7_measure_29 : decode cX7_measure 29 = .ok (.putfield 51, 3) := by decide +kernel
theorem dX7_measure_32 : decode cX7_measure 32 = .ok (.aload_n 0, 1) := by decide +kernel
theorem dX7_measure_33 : decode cX7_measure 33 = .ok (.invokevirtual 54, 3) := by decide +kernel
theorem dX7_measure_36 : decode cX7_measure 36 = .ok (.return_, 1) := by decide +kernel
theorem dX7_windowShift_0 : decode cX7_windowShift 0 = .ok (.iconst 0, 1) := by decide +kernel
theorem dX7_windowShift_1 : decode cX7_windowShift 1 = .ok (.istore_n 2, 1) := by decide +kernel
theorem dX7_windowShift_2 : decode cX7_windowShift 2 = .ok (.iconst 0, 1) := by decide +kernel
theorem dX7_windowShift_3 : decode cX7_windowShift 3 = .ok (.istore_n 3, 1) := by decide +kernel
theorem dX7_windowShift_4 : decode cX7_windowShift 4 = .ok (.iload_n 3, 1) := by decide +kernel
theorem dX7_windowShift_5 : decode cX7_windowShift 5 = .ok (.bipush 20, 2) := by decide +kernel
theorem dX7_windowShift_7 : decode cX7_windowShift 7 = .ok (.if_icmp .gt 28, 3) := by decide +kernel
theorem dX7_windowShift_10 : decode cX7_windowShift 10 = .ok (.aload_n 0, 1) := by decide +kernel
theorem dX7_windowShift_11 : decode cX7_windowShift 11 = .ok (.iload_n 1, 1) := by decide +kernel
theorem dX7_windowShift_12 : decode cX7_windowShift 12 = .ok (.iload_n 2, 1) := by decide +kernel
theorem dX7_windowShift_13 : decode cX7_windowShift 13 = .ok (.invokevirtual 57, 3) := by decide +kernel
theorem dX7_windowShift_16 : decode cX7_windowShift 16 = .ok (.istore 4, 2) := by decide +kernel
theorem dX7_windowShift_18 : decode cX7_windowShift 18 = .ok (.iload 4, 2) := by decide +kernel
theorem dX7_windowShift_20 : decode cX7_windowShift 20 = .ok (.iload_n 2, 1) := by decide +kernel
theorem dX7_windowShift_21 : decode cX7_windowShift 21 = .ok (.if_icmp .ne 5, 3) := by decide +kernel
theorem dX7_windowShift_24 : decode cX7_windowShift 24 = .ok (.iload_n 2, 1) := by decide +kernel
theorem dX7_windowShift_25 : decode cX7_windowShift 25 = .ok (.ireturn, 1) := by decide +kernel
theorem dX7_windowShift_26 : decode cX7_windowShift 26 = .ok (.iload 4, 2) := by decide +kernel
theorem dX7_windowShift_28 : decode cX7_windowShift 28 = .ok (.istore_n 2, 1) := by decide +kernel
theorem dX7_windowShift_29 : decode cX7_windowShift 29 = .ok (.iinc 3 1, 3) := by decide +kernel
theorem dX7_windowShift_32 : decode cX7_windowShift 32 = .ok (.goto (-28), 3) := by decide +kernel
theorem dX7_windowShift_35 : decode cX7_windowShift 35 = .ok (.iload_n 2, 1) := by decide +kernel
theorem dX7_windowShift_36 : decode cX7_windowShift 36 = .ok (.ireturn, 1) := by decide +kernel
theorem dX7_greatestCut_0 : decode cX7_greatestCut 0 = .ok (.iload_n 2, 1) := by decide +kernel
theorem dX7_greatestCut_1 : decode cX7_greatestCut 1 = .ok (.istore_n 3, 1) := by decide +kernel
theorem dX7_greatestCut_2 : decode cX7_greatestCut 2 = .ok (.iconst 0, 1) := by decide +kernel
theorem dX7_greatestCut_3 : decode cX7_greatestCut 3 = .ok (.istore 4, 2) := by decide +kernel
theorem dX7_greatestCut_5 : decode cX7_greatestCut 5 = .ok (.iload 4, 2) := by decide +kernel
theorem dX7_greatestCut_7 : decode cX7_greatestCut 7 = .ok (.aload_n 0, 1) := by decide +kernel
theorem dX7_greatestCut_8 : decode cX7_greatestCut 8 = .ok (.getfield 29, 3) := by decide +kernel
theorem dX7_greatestCut_11 : decode cX7_greatestCut 11 = .ok (.getfield 61, 3) := by decide +kernel
theorem dX7_greatestCut_14 : decode cX7_greatestCut 14 = .ok (.if_icmp .ge 52, 3) := by decide +kernel
theorem dX7_greatestCut_17 : decode cX7_greatestCut 17 = .ok (.iload 4, 2) := by decide +kernel
theorem dX7_greatestCut_19 : decode cX7_greatestCut 19 = .ok (.bipush 20, 2) := by decide +kernel
theorem dX7_greatestCut_21 : decode cX7_greatestCut 21 = .ok (.if_icmp .ge 45, 3) := by decide +kernel
theorem dX7_greatestCut_24 : decode cX7_greatestCut 24 = .ok (.aload_n 0, 1) := by decide +kernel
theorem dX7_greatestCut_25 : decode cX7_greatestCut 25 = .ok (.getfield 12, 3) := by decide +kernel
theorem dX7_greatestCut_28 : decode cX7_greatestCut 28 = .ok (.getfield 66, 3) := by decide +kernel
theorem dX7_greatestCut_31 : decode cX7_greatestCut 31 = .ok (.iload 4, 2) := by decide +kernel
theorem dX7_greatestCut_33 : decode cX7_greatestCut 33 = .ok (.iaload, 1) := by decide +kernel
theorem dX7_greatestCut_34 : decode cX7_greatestCut 34 = .ok (.iload_n 3, 1) := by decide +kernel
theorem dX7_greatestCut_35 : decode cX7_greatestCut 35 = .ok (.if_icmp .le 25, 3) := by decide +kernel
theorem dX7_greatestCut_38 : decode cX7_greatestCut 38 = .ok (.aload_n 0, 1) := by decide +kernel
theorem dX7_greatestCut_39 : decode cX7_greatestCut 39 = .ok (.iload_n 1, 1) := by decide +kernel
theorem dX7_greatestCut_40 : decode cX7_greatestCut 40 = .ok (.iload 4, 2) := by decide +kernel
theorem dX7_greatestCut_42 : decode cX7_greatestCut 42 = .ok (.iload_n 2, 1) := by decide +kernel
theorem dX7_greatestCut_43 : decode cX7_greatestCut 43 = .ok (.invokevirtual 69, 3) := by decide +kernel
theorem dX7_greatestCut_46 : decode cX7_greatestCut 46 = .ok (.ifCond .eq 14, 3) := by decide +kernel
theorem dX7_greatestCut_49 : decode cX7_greatestCut 49 = .ok (.aload_n 0, 1) := by decide +kernel
theorem dX7_greatestCut_50 : decode cX7_greatestCut 50 = .ok (.getfield 12, 3) := by decide +kernel
theorem dX7_greatestCut_53 : decode cX7_greatestCut 53 = .ok (.getfield 66, 3) := by decide +kernel
theorem dX7_greatestCut_56 : decode cX7_greatestCut 56 = .ok (.iload 4, 2) := by decide +kernel
theorem dX7_greatestCut_58 : decode cX7_greatestCut 58 = .ok (.iaload, 1) := by decide +kernel
theorem dX7_greatestCut_59 : decode cX7_greatestCut 59 = .ok (.istore_n 3, 1) := by decide +kernel
theorem dX7_greatestCut_60 : decode cX7_greatestCut 60 = .ok (.iinc 4 1, 3) := by decide +kernel
theorem dX7_greatestCut_63 : decode cX7_greatestCut 63 = .ok (.goto (-58), 3) := by decide +kernel
theorem dX7_greatestCut_66 : decode cX7_greatestCut 66 = .ok (.iload_n 3, 1) := by decide +kernel
theorem dX7_greatestCut_67 : decode cX7_greatestCut 67 = .ok (.ireturn, 1) := by decide +kernel
theorem dX7_isCut_0 : decode cX7_isCut 0 = .ok (.aload_n 0, 1) := by decide +kernel
theorem dX7_isCut_1 : decode cX7_isCut 1 = .ok (.getfield 12, 3) := by decide +kernel
theorem dX7_isCut_4 : decode cX7_isCut 4 = .ok (.iload_n 2, 1) := by decide +kernel
theorem dX7_isCut_5 : decode cX7_isCut 5 = .ok (.invokevirtual 73, 3) := by decide +kernel
theorem dX7_isCut_8 : decode cX7_isCut 8 = .ok (.ifCond .ne 5, 3) := by decide +kernel
theorem dX7_isCut_11 : decode cX7_isCut 11 = .ok (.iconst 0, 1) := by decide +kernel
theorem dX7_isCut_12 : decode cX7_isCut 12 = .ok (.ireturn, 1) := by decide +kernel
theorem dX7_isCut_13 : decode cX7_isCut 13 = .ok (.aload_n 0, 1) := by decide +kernel
theorem dX7_isCut_14 : decode cX7_isCut 14 = .ok (.getfield 12, 3) := by decide +kernel
theorem dX7_isCut_17 : decode cX7_isCut 17 = .ok (.getfield 77, 3) := by decide +kernel
theorem dX7_isCut_20 : decode cX7_isCut 20 = .ok (.iload_n 2, 1) := by decide +kernel
theorem dX7_isCut_21 : decode cX7_isCut 21 = .ok (.iaload, 1) := by decide +kernel
theorem dX7_isCut_22 : decode cX7_isCut 22 = .ok (.istore 4, 2) := by decide +kernel
theorem dX7_isCut_24 : decode cX7_isCut 24 = .ok (.aload_n 0, 1) := by decide +kernel
theorem dX7_isCut_25 : decode cX7_isCut 25 = .ok (.getfield 12, 3) := by decide +kernel
theorem dX7_isCut_28 : decode cX7_isCut 28 = .ok (.getfield 80, 3) := by decide +kernel
theorem dX7_isCut_31 : decode cX7_isCut 31 = .ok (.iload_n 2, 1) := by decide +kernel
theorem dX7_isCut_32 : decode cX7_isCut 32 = .ok (.iaload, 1) := by decide +kernel
theorem dX7_isCut_33 : decode cX7_isCut 33 = .ok (.istore 5, 2) := by decide +kernel
theorem dX7_isCut_35 : decode cX7_isCut 35 = .ok (.aload_n 0, 1) := by decide +kernel
theorem dX7_isCut_36 : decode cX7_isCut 36 = .ok (.getfield 29, 3) := by decide +kernel
theorem dX7_isCut_39 : decode cX7_isCut 39 = .ok (.getfield 83, 3) := by decide +kernel
theorem dX7_isCut_42 : decode cX7_isCut 42 = .ok (.iload_n 2, 1) := by decide +kernel
theorem dX7_isCut_43 : decode cX7_isCut 43 = .ok (.iaload, 1) := by decide +kernel
theorem dX7_isCut_44 : decode cX7_isCut 44 = .ok (.istore 6, 2) := by decide +kernel
theorem dX7_isCut_46 : decode cX7_isCut 46 = .ok (.iload_n 1, 1) := by decide +kernel
theorem dX7_isCut_47 : decode cX7_isCut 47 = .ok (.ifCond .eq 31, 3) := by decide +kernel
theorem dX7_isCut_50 : decode cX7_isCut 50 = .ok (.iload 4, 2) := by decide +kernel
theorem dX7_isCut_52 : decode cX7_isCut 52 = .ok (.iload 6, 2) := by decide +kernel
theorem dX7_isCut_54 : decode cX7_isCut 54 = .ok (.iload_n 3, 1) := by decide +kernel
theorem dX7_isCut_55 : decode cX7_isCut 55 = .ok (.invokestatic 86, 3) := by decide +kernel
theorem dX7_isCut_58 : decode cX7_isCut 58 = .ok (.ifCond .ne 14, 3) := by decide +kernel
theorem dX7_isCut_61 : decode cX7_isCut 61 = .ok (.iload 5, 2) := by decide +kernel
theorem dX7_isCut_63 : decode cX7_isCut 63 = .ok (.iload 6, 2) := by decide +kernel
theorem dX7_isCut_65 : decode cX7_isCut 65 = .ok (.iconst 0, 1) := by decide +kernel
theorem dX7_isCut_66 : decode cX7_isCut 66 = .ok (.invokestatic 86, 3) := by decide +kernel
theorem dX7_isCut_69 : decode cX7_isCut 69 = .ok (.ifCond .eq 7, 3) := by decide +kernel
theorem dX7_isCut_72 : decode cX7_isCut 72 = .ok (.iconst 1, 1) := by decide +kernel
theorem dX7_isCut_73 : decode cX7_isCut 73 = .ok (.goto 4, 3) := by decide +kernel
theorem dX7_isCut_76 : decode cX7_isCut 76 = .ok (.iconst 0, 1) := by decide +kernel
theorem dX7_isCut_77 : decode cX7_isCut 77 = .ok (.ireturn, 1) := by decide +kernel
theorem dX7_isCut_78 : decode cX7_isCut 78 = .ok (.iload 4, 2) := by decide +kernel
theorem dX7_isCut_80 : decode cX7_isCut 80 = .ok (.iload 6, 2) := by decide +kernel
theorem dX7_isCut_82 : decode cX7_isCut 82 = .ok (.aload_n 0, 1) := by decide +kernel
theorem dX7_isCut_83 : decode cX7_isCut 83 = .ok (.getfield 22, 3) := by decide +kernel
theorem dX7_isCut_86 : decode cX7_isCut 86 = .ok (.getfield 90, 3) := by decide +kernel
theorem dX7_isCut_89 : decode cX7_isCut 89 = .ok (.invokestatic 86, 3) := by decide +kernel
theorem dX7_isCut_92 : decode cX7_isCut 92 = .ok (.ifCond .ne 22, 3) := by decide +kernel
theorem dX7_isCut_95 : decode cX7_isCut 95 = .ok (.iload 5, 2) := by decide +kernel
theorem dX7_isCut_97 : decode cX7_isCut 97 = .ok (.iload 6, 2) := by decide +kernel
theorem dX7_isCut_99 : decode cX7_isCut 99 = .ok (.aload_n 0, 1) := by decide +kernel
theorem dX7_isCut_100 : decode cX7_isCut 100 = .ok (.getfield 22, 3) := by decide +kernel
theorem dX7_isCut_103 : decode cX7_isCut 103 = .ok (.getfield 90, 3) := by decide +kernel
theorem dX7_isCut_106 : decode cX7_isCut 106 = .ok (.iload_n 3, 1) := by decide +kernel
theorem dX7_isCut_107 : decode cX7_isCut 107 = .ok (.isub, 1) := by decide +kernel
theorem dX7_isCut_108 : decode cX7_isCut 108 = .ok (.invokestatic 86, 3) := by decide +kernel
theorem dX7_isCut_111 : decode cX7_isCut 111 = .ok (.ifCond .eq 7, 3) := by decide +kernel
theorem dX7_isCut_114 : decode cX7_isCut 114 = .ok (.iconst 1, 1) := by decide +kernel
theorem dX7_isCut_115 : decode cX7_isCut 115 = .ok (.goto 4, 3) := by decide +kernel
theorem dX7_isCut_118 : decode cX7_isCut 118 = .ok (.iconst 0, 1) := by decide +kernel
theorem dX7_isCut_119 : decode cX7_isCut 119 = .ok (.ireturn, 1) := by decide +kernel
theorem dX7_crosses_0 : decode cX7_crosses 0 = .ok (.iload_n 0, 1) := by decide +kernel
theorem dX7_crosses_1 : decode cX7_crosses 1 = .ok (.iload_n 2, 1) := by decide +kernel
theorem dX7_crosses_2 : decode cX7_crosses 2 = .ok (.if_icmp .ge 14, 3) := by decide +kernel
theorem dX7_crosses_5 : decode cX7_crosses 5 = .ok (.iload_n 0, 1) := by decide +kernel
theorem dX7_crosses_6 : decode cX7_crosses 6 = .ok (.iload_n 1, 1) := by decide +kernel
theorem dX7_crosses_7 : decode cX7_crosses 7 = .ok (.iadd, 1) := by decide +kernel
theorem dX7_crosses_8 : decode cX7_crosses 8 = .ok (.iload_n 2, 1) := by decide +kernel
theorem dX7_crosses_9 : decode cX7_crosses 9 = .ok (.if_icmp .le 7, 3) := by decide +kernel
theorem dX7_crosses_12 : decode cX7_crosses 12 = .ok (.iconst 1, 1) := by decide +kernel
theorem dX7_crosses_13 : decode cX7_crosses 13 = .ok (.goto 4, 3) := by decide +kernel
theorem dX7_crosses_16 : decode cX7_crosses 16 = .ok (.iconst 0, 1) := by decide +kernel
theorem dX7_crosses_17 : decode cX7_crosses 17 = .ok (.ireturn, 1) := by decide +kernel
theorem dX7_findTitle_0 : decode cX7_findTitle 0 = .ok (.aload_n 0, 1) := by decide +kernel
theorem dX7_findTitle_1 : decode cX7_findTitle 1 = .ok (.sipush (-1000), 3) := by decide +kernel
theorem dX7_findTitle_4 : decode cX7_findTitle 4 = .ok (.putfield 92, 3) := by decide +kernel
theorem dX7_findTitle_7 : decode cX7_findTitle 7 = .ok (.aload_n 0, 1) := by decide +kernel
theorem dX7_findTitle_8 : decode cX7_findTitle 8 = .ok (.sipush (-1000), 3) := by decide +kernel
theorem dX7_findTitle_11 : decode cX7_findTitle 11 = .ok (.putfield 95, 3) := by decide +kernel
theorem dX7_findTitle_14 : decode cX7_findTitle 14 = .ok (.aload_n 0, 1) := by decide +kernel
theorem dX7_findTitle_15 : decode cX7_findTitle 15 = .ok (.getfield 22, 3) := by decide +kernel
theorem dX7_findTitle_18 : decode cX7_findTitle 18 = .ok (.getfield 98, 3) := by decide +kernel
theorem dX7_findTitle_21 : decode cX7_findTitle 21 = .ok (.ifCond .ne 4, 3) := by decide +kernel
theorem dX7_findTitle_24 : decode cX7_findTitle 24 = .ok (.return_, 1) := by decide +kernel
theorem dX7_findTitle_25 : decode cX7_findTitle 25 = .ok (.aload_n 0, 1) := by decide +kernel
theorem dX7_findTitle_26 : decode cX7_findTitle 26 = .ok (.getfield 22, 3) := by decide +kernel
theorem dX7_findTitle_29 : decode cX7_findTitle 29 = .ok (.getfield 101, 3) := by decide +kernel
theorem dX7_findTitle_32 : decode cX7_findTitle 32 = .ok (.istore_n 1, 1) := by decide +kernel
theorem dX7_findTitle_33 : decode cX7_findTitle 33 = .ok (.iload_n 1, 1) := by decide +kernel
theorem dX7_findTitle_34 : decode cX7_findTitle 34 = .ok (.ifCond .lt 62, 3) := by decide +kernel
theorem dX7_findTitle_37 : decode cX7_findTitle 37 = .ok (.iconst 0, 1) := by decide +kernel
theorem dX7_findTitle_38 : decode cX7_findTitle 38 = .ok (.istore_n 2, 1) := by decide +kernel
theorem dX7_findTitle_39 : decode cX7_findTitle 39 = .ok (.iload_n 2, 1) := by decide +kernel
theorem dX7_findTitle_40 : decode cX7_findTitle 40 = .ok (.aload_n 0, 1) := by decide +kernel
theorem dX7_findTitle_41 : decode cX7_findTitle 41 = .ok (.getfield 22, 3) := by decide +kernel
theorem dX7_findTitle_44 : decode cX7_findTitle 44 = .ok (.getfield 104, 3) := by decide +kernel
theorem dX7_findTitle_47 : decode cX7_findTitle 47 = .ok (.getfield 108, 3) := by decide +kernel
theorem dX7_findTitle_50 : decode cX7_findTitle 50 = .ok (.if_icmp .gt 40, 3) := by decide +kernel
theorem dX7_findTitle_53 : decode cX7_findTitle 53 = .ok (.aload_n 0, 1) := by decide +kernel
theorem dX7_findTitle_54 : decode cX7_findTitle 54 = .ok (.iconst 1, 1) := by decide +kernel
theorem dX7_findTitle_55 : decode cX7_findTitle 55 = .ok (.iload_n 1, 1) := by decide +kernel
theorem dX7_findTitle_56 : decode cX7_findTitle 56 = .ok (.iload_n 2, 1) := by decide +kernel
theorem dX7_findTitle_57 : decode cX7_findTitle 57 = .ok (.invokevirtual 113, 3) := by decide +kernel
theorem dX7_findTitle_60 : decode cX7_findTitle 60 = .ok (.ifCond .eq 24, 3) := by decide +kernel
theorem dX7_findTitle_63 : decode cX7_findTitle 63 = .ok (.aload_n 0, 1) := by decide +kernel
theorem dX7_findTitle_64 : decode cX7_findTitle 64 = .ok (.iconst 0, 1) := by decide +kernel
theorem dX7_findTitle_65 : decode cX7_findTitle 65 = .ok (.iload_n 1, 1) := by decide +kernel
theorem dX7_findTitle_66 : decode cX7_findTitle 66 = .ok (.iload_n 2, 1) := by decide +kernel
theorem dX7_findTitle_67 : decode cX7_findTitle 67 = .ok (.invokevirtual 113, 3) := by decide +kernel
theorem dX7_findTitle_70 : decode cX7_findTitle 70 = .ok (.ifCond .eq 14, 3) := by decide +kernel
theorem dX7_findTitle_73 : decode cX7_findTitle 73 = .ok (.aload_n 0, 1) := by decide +kernel
theorem dX7_findTitle_74 : decode cX7_findTitle 74 = .ok (.iload_n 1, 1) := by decide +kernel
theorem dX7_findTitle_75 : decode cX7_findTitle 75 = .ok (.putfield 92, 3) := by decide +kernel
theorem dX7_findTitle_78 : decode cX7_findTitle 78 = .ok (.aload_n 0, 1) := by decide +kernel
theorem dX7_findTitle_79 : decode cX7_findTitle 79 = .ok (.iload_n 2, 1) := by decide +kernel
theorem dX7_findTitle_80 : decode cX7_findTitle 80 = .ok (.putfield 95, 3) := by decide +kernel
theorem dX7_findTitle_83 : decode cX7_findTitle 83 = .ok (.return_, 1) := by decide +kernel
theorem dX7_findTitle_84 : decode cX7_findTitle 84 = .ok (.iinc 2 1, 3) := by decide +kernel
theorem dX7_findTitle_87 : decode cX7_findTitle 87 = .ok (.goto (-48), 3) := by decide +kernel
theorem dX7_findTitle_90 : decode cX7_findTitle 90 = .ok (.iinc 1 (-1), 3) := by decide +kernel
theorem dX7_findTitle_93 : decode cX7_findTitle 93 = .ok (.goto (-60), 3) := by decide +kernel
theorem dX7_findTitle_96 : decode cX7_findTitle 96 = .ok (.return_, 1) := by decide +kernel
theorem dX7_titleCanStand_0 : decode cX7_titleCanStand 0 = .ok (.iload_n 1, 1) := by decide +kernel
theorem dX7_titleCanStand_1 : decode cX7_titleCanStand 1 = .ok (.aload_n 0, 1) := by decide +kernel
theorem dX7_titleCanStand_2 : decode cX7_titleCanStand 2 = .ok (.getfield 22, 3) := by decide +kernel
theorem dX7_titleCanStand_5 : decode cX7_titleCanStand 5 = .ok (.getfield 116, 3) := by decide +kernel
theorem dX7_titleCanStand_8 : decode cX7_titleCanStand 8 = .ok (.iload_n 3, 1) := by decide +kernel
theorem dX7_titleCanStand_9 : decode cX7_titleCanStand 9 = .ok (.invokestatic 119, 3) := by decide +kernel
theorem dX7_titleCanStand_12 : decode cX7_titleCanStand 12 = .ok (.istore 4, 2) := by decide +kernel
theorem dX7_titleCanStand_14 : decode cX7_titleCanStand 14 = .ok (.iload 4, 2) := by decide +kernel
theorem dX7_titleCanStand_16 : decode cX7_titleCanStand 16 = .ok (.aload_n 0, 1) := by decide +kernel
theorem dX7_titleCanStand_17 : decode cX7_titleCanStand 17 = .ok (.getfield 22, 3) := by decide +kernel
theorem dX7_titleCanStand_20 : decode cX7_titleCanStand 20 = .ok (.getfield 98, 3) := by decide +kernel
theorem dX7_titleCanStand_23 : decode cX7_titleCanStand 23 = .ok (.iadd, 1) := by decide +kernel
theorem dX7_titleCanStand_24 : decode cX7_titleCanStand 24 = .ok (.istore 5, 2) := by decide +kernel
theorem dX7_titleCanStand_26 : decode cX7_titleCanStand 26 = .ok (.iload 4, 2) := by decide +kernel
theorem dX7_titleCanStand_28 : decode cX7_titleCanStand 28 = .ok (.aload_n 0, 1) := by decide +kernel
theorem dX7_titleCanStand_29 : decode cX7_titleCanStand 29 = .ok (.iload_n 1, 1) := by decide +kernel
theorem dX7_titleCanStand_30 : decode cX7_titleCanStand 30 = .ok (.invokevirtual 123, 3) := by decide +kernel
theorem dX7_titleCanStand_33 : decode cX7_titleCanStand 33 = .ok (.if_icmp .lt 13, 3) := by decide +kernel
theorem dX7_titleCanStand_36 : decode cX7_titleCanStand 36 = .ok (.iload 5, 2) := by decide +kernel
theorem dX7_titleCanStand_38 : decode cX7_titleCanStand 38 = .ok (.aload_n 0, 1) := by decide +kernel
theorem dX7_titleCanStand_39 : decode cX7_titleCanStand 39 = .ok (.iload_n 1, 1) := by decide +kernel
theorem dX7_titleCanStand_40 : decode cX7_titleCanStand 40 = .ok (.invokevirtual 126, 3) := by decide +kernel
theorem dX7_titleCanStand_43 : decode cX7_titleCanStand 43 = .ok (.if_icmp .le 5, 3) := by decide +kernel
theorem dX7_titleCanStand_46 : decode cX7_titleCanStand 46 = .ok (.iconst 0, 1) := by decide +kernel
theorem dX7_titleCanStand_47 : decode cX7_titleCanStand 47 = .ok (.ireturn, 1) := by decide +kernel
theorem dX7_titleCanStand_48 : decode cX7_titleCanStand 48 = .ok (.iconst 0, 1) := by decide +kernel
theorem dX7_titleCanStand_49 : decode cX7_titleCanStand 49 = .ok (.istore 6, 2) := by decide +kernel
theorem dX7_titleCanStand_51 : decode cX7_titleCanStand 51 = .ok (.iload 6, 2) := by decide +kernel
theorem dX7_titleCanStand_53 : decode cX7_titleCanStand 53 = .ok (.aload_n 0, 1) := by decide +kernel
theorem dX7_titleCanStand_54 : decode cX7_titleCanStand 54 = .ok (.getfield 29, 3) := by decide +kernel
theorem dX7_titleCanStand_57 : decode cX7_titleCanStand 57 = .ok (.getfield 61, 3) := by decide +kernel
theorem dX7_titleCanStand_60 : decode cX7_titleCanStand 60 = .ok (.if_icmp .ge 82, 3) := by decide +kernel
theorem dX7_titleCanStand_63 : decode cX7_titleCanStand 63 = .ok (.iload 6, 2) := by decide +kernel
theorem dX7_titleCanStand_65 : decode cX7_titleCanStand 65 = .ok (.bipush 20, 2) := by decide +kernel
theorem dX7_titleCanStand_67 : decode cX7_titleCanStand 67 = .ok (.if_icmp .ge 75, 3) := by decide +kernel
theorem dX7_titleCanStand_70 : decode cX7_titleCanStand 70 = .ok (.aload_n 0, 1) := by decide +kernel
theorem dX7_titleCanStand_71 : decode cX7_titleCanStand 71 = .ok (.getfield 12, 3) := by decide +kernel
theorem dX7_titleCanStand_74 : decode cX7_titleCanStand 74 = .ok (.getfield 66, 3) := by decide +kernel
theorem dX7_titleCanStand_77 : decode cX7_titleCanStand 77 = .ok (.iload 6, 2) := by decide +kernel
theorem dX7_titleCanStand_79 : decode cX7_titleCanStand 79 = .ok (.iaload, 1) := by decide +kernel
theorem dX7_titleCanStand_80 : decode cX7_titleCanStand 80 = .ok (.iload_n 3, 1) := by decide +kernel
theorem dX7_titleCanStand_81 : decode cX7_titleCanStand 81 = .ok (.if_icmp .lt 55, 3) := by decide +kernel
theorem dX7_titleCanStand_84 : decode cX7_titleCanStand 84 = .ok (.aload_n 0, 1) := by decide +kernel
theorem dX7_titleCanStand_85 : decode cX7_titleCanStand 85 = .ok (.getfield 12, 3) := by decide +kernel
theorem dX7_titleCanStand_88 : decode cX7_titleCanStand 88 = .ok (.iload 6, 2) := by decide +kernel
theorem dX7_titleCanStand_90 : decode cX7_titleCanStand 90 = .ok (.iload_n 2, 1) := by decide +kernel
theorem dX7_titleCanStand_91 : decode cX7_titleCanStand 91 = .ok (.invokevirtual 129, 3) := by decide +kernel
theorem dX7_titleCanStand_94 : decode cX7_titleCanStand 94 = .ok (.ifCond .eq 42, 3) := by decide +kernel
theorem dX7_titleCanStand_97 : decode cX7_titleCanStand 97 = .ok (.aload_n 0, 1) := by decide +kernel
theorem dX7_titleCanStand_98 : decode cX7_titleCanStand 98 = .ok (.getfield 12, 3) := by decide +kernel
theorem dX7_titleCanStand_101 : decode cX7_titleCanStand 101 = .ok (.iload_n 1, 1) := by decide +kernel
theorem dX7_titleCanStand_102 : decode cX7_titleCanStand 102 = .ok (.iload 6, 2) := by decide +kernel
theorem dX7_titleCanStand_104 : decode cX7_titleCanStand 104 = .ok (.invokevirtual 133, 3) := by decide +kernel
theorem dX7_titleCanStand_107 : decode cX7_titleCanStand 107 = .ok (.istore 7, 2) := by decide +kernel
theorem dX7_titleCanStand_109 : decode cX7_titleCanStand 109 = .ok (.iload 7, 2) := by decide +kernel
theorem dX7_titleCanStand_111 : decode cX7_titleCanStand 111 = .ok (.iload 5, 2) := by decide +kernel
theorem dX7_titleCanStand_113 : decode cX7_titleCanStand 113 = .ok (.if_icmp .ge 23, 3) := by decide +kernel
theorem dX7_titleCanStand_116 : decode cX7_titleCanStand 116 = .ok (.iload 7, 2) := by decide +kernel
theorem dX7_titleCanStand_118 : decode cX7_titleCanStand 118 = .ok (.aload_n 0, 1) := by decide +kernel
theorem dX7_titleCanStand_119 : decode cX7_titleCanStand 119 = .ok (.getfield 29, 3) := by decide +kernel
theorem dX7_titleCanStand_122 : decode cX7_titleCanStand 122 = .ok (.getfield 83, 3) := by decide +kernel
theorem dX7_titleCanStand_125 : decode cX7_titleCanStand 125 = .ok (.iload 6, 2) := by decide +kernel
theorem dX7_titleCanStand_127 : decode cX7_titleCanStand 127 = .ok (.iaload, 1) := by decide +kernel
theorem dX7_titleCanStand_128 : decode cX7_titleCanStand 128 = .ok (.iadd, 1) := by decide +kernel
theorem dX7_titleCanStand_129 : decode cX7_titleCanStand 129 = .ok (.iload 4, 2) := by decide +kernel
theorem dX7_titleCanStand_131 : decode cX7_titleCanStand 131 = .ok (.if_icmp .le 5, 3) := by decide +kernel
theorem dX7_titleCanStand_134 : decode cX7_titleCanStand 134 = .ok (.iconst 0, 1) := by decide +kernel
theorem dX7_titleCanStand_135 : decode cX7_titleCanStand 135 = .ok (.ireturn, 1) := by decide +kernel
theorem dX7_titleCanStand_136 : decode cX7_titleCanStand 136 = .ok (.iinc 6 1, 3) := by decide +kernel
theorem dX7_titleCanStand_139 : decode cX7_titleCanStand 139 = .ok (.goto (-88), 3) := by decide +kernel
theorem dX7_titleCanStand_142 : decode cX7_titleCanStand 142 = .ok (.iconst 1, 1) := by decide +kernel
theorem dX7_titleCanStand_143 : decode cX7_titleCanStand 143 = .ok (.ireturn, 1) := by decide +kernel
theorem dX7_firstOpen_0 : decode cX7_firstOpen 0 = .ok (.iload_n 1, 1) := by decide +kernel
theorem dX7_firstOpen_1 : decode cX7_firstOpen 1 = .ok (.ifCond .eq 10, 3) := by decide +kernel
theorem dX7_firstOpen_4 : decode cX7_firstOpen 4 = .ok (.aload_n 0, 1) := by decide +kernel
theorem dX7_firstOpen_5 : decode cX7_firstOpen 5 = .ok (.getfield 48, 3) := by decide +kernel
theorem dX7_firstOpen_8 : decode cX7_firstOpen 8 = .ok (.goto 4, 3) := by decide +kernel
theorem dX7_firstOpen_11 : decode cX7_firstOpen 11 = .ok (.iconst 0, 1) := by decide +kernel
theorem dX7_firstOpen_12 : decode cX7_firstOpen 12 = .ok (.ireturn, 1) := by decide +kernel
theorem dX7_endOfOpen_0 : decode cX7_endOfOpen 0 = .ok (.iload_n 1, 1) := by decide +kernel
theorem dX7_endOfOpen_1 : decode cX7_endOfOpen 1 = .ok (.ifCond .eq 13, 3) := by decide +kernel
theorem dX7_endOfOpen_4 : decode cX7_endOfOpen 4 = .ok (.aload_n 0, 1) := by decide +kernel
theorem dX7_endOfOpen_5 : decode cX7_endOfOpen 5 = .ok (.getfield 22, 3) := by decide +kernel
theorem dX7_endOfOpen_8 : decode cX7_endOfOpen 8 = .ok (.getfield 90, 3) := by decide +kernel
theorem dX7_endOfOpen_11 : decode cX7_endOfOpen 11 = .ok (.goto 15, 3) := by decide +kernel
theorem dX7_endOfOpen_14 : decode cX7_endOfOpen 14 = .ok (.aload_n 0, 1) := by decide +kernel
theorem dX7_endOfOpen_15 : decode cX7_endOfOpen 15 = .ok (.getfield 22, 3) := by decide +kernel
theorem dX7_endOfOpen_18 : decode cX7_endOfOpen 18 = .ok (.getfield 90, 3) := by decide +kernel
theorem dX7_endOfOpen_21 : decode cX7_endOfOpen 21 = .ok (.aload_n 0, 1) := by decide +kernel
theorem dX7_endOfOpen_22 : decode cX7_endOfOpen 22 = .ok (.getfield 51, 3) := by decide +kernel
theorem dX7_endOfOpen_25 : decode cX7_endOfOpen 25 = .ok (.isub, 1) := by decide +kernel
theorem dX7_endOfOpen_26 : decode cX7_endOfOpen 26 = .ok (.ireturn, 1) := by decide +kernel
theorem dX7_titleColumn_0 : decode cX7_titleColumn 0 = .ok (.aload_n 0, 1) := by decide +kernel
theorem dX7_titleColumn_1 : decode cX7_titleColumn 1 = .ok (.getfield 92, 3) := by decide +kernel
theorem dX7_titleColumn_4 : decode cX7_titleColumn 4 = .ok (.ifCond .ge 9, 3) := by decide +kernel
theorem dX7_titleColumn_7 : decode cX7_titleColumn 7 = .ok (.sipush (-1000), 3) := by decide +kernel
theorem dX7_titleColumn_10 : decode cX7_titleColumn 10 = .ok (.goto 18, 3) := by decide +kernel
theorem dX7_titleColumn_13 : decode cX7_titleColumn 13 = .ok (.iload_n 1, 1) := by decide +kernel
theorem dX7_titleColumn_14 : decode cX7_titleColumn 14 = .ok (.aload_n 0, 1) := by decide +kernel
theorem dX7_titleColumn_15 : decode cX7_titleColumn 15 = .ok (.getfield 22, 3) := by decide +kernel
theorem dX7_titleColumn_18 : decode cX7_titleColumn 18 = .ok (.getfield 116, 3) := by decide +kernel
theorem dX7_titleColumn_21 : decode cX7_titleColumn 21 = .ok (.aload_n 0, 1) := by decide +kernel
theorem dX7_titleColumn_22 : decode cX7_titleColumn 22 = .ok (.getfield 95, 3) := by decide +kernel
theorem dX7_titleColumn_25 : decode cX7_titleColumn 25 = .ok (.invokestatic 119, 3) := by decide +kernel
theorem dX7_titleColumn_28 : decode cX7_titleColumn 28 = .ok (.ireturn, 1) := by decide +kernel
theorem dX7_titleValue_0 : decode cX7_titleValue 0 = .ok (.aload_n 0, 1) := by decide +kernel
theorem dX7_titleValue_1 : decode cX7_titleValue 1 = .ok (.getfield 22, 3) := by decide +kernel
theorem dX7_titleValue_4 : decode cX7_titleValue 4 = .ok (.getfield 98, 3) := by decide +kernel
theorem dX7_titleValue_7 : decode cX7_titleValue 7 = .ok (.ifCond .ne 7, 3) := by decide +kernel
theorem dX7_titleValue_10 : decode cX7_titleValue 10 = .ok (.sipush (-1000), 3) := by decide +kernel
theorem dX7_titleValue_13 : decode cX7_titleValue 13 = .ok (.ireturn, 1) := by decide +kernel
theorem dX7_titleValue_14 : decode cX7_titleValue 14 = .ok (.iload_n 1, 1) := by decide +kernel
theorem dX7_titleValue_15 : decode cX7_titleValue 15 = .ok (.tableswitch 67 0 4 #[33, 41, 49, 57, 62], 33) := by decide +kernel
theorem dX7_titleValue_48 : decode cX7_titleValue 48 = .ok (.aload_n 0, 1) := by decide +kernel
theorem dX7_titleValue_49 : decode cX7_titleValue 49 = .ok (.getfield 22, 3) := by decide +kernel
theorem dX7_titleValue_52 : decode cX7_titleValue 52 = .ok (.getfield 116, 3) := by decide +kernel
theorem dX7_titleValue_55 : decode cX7_titleValue 55 = .ok (.ireturn, 1) := by decide +kernel
theorem dX7_titleValue_56 : decode cX7_titleValue 56 = .ok (.aload_n 0, 1) := by decide +kernel
theorem dX7_titleValue_57 : decode cX7_titleValue 57 = .ok (.getfield 22, 3) := by decide +kernel
theorem dX7_titleValue_60 : decode cX7_titleValue 60 = .ok (.getfield 101, 3) := by decide +kernel
theorem dX7_titleValue_63 : decode cX7_titleValue 63 = .ok (.ireturn, 1) := by decide +kernel
theorem dX7_titleValue_64 : decode cX7_titleValue 64 = .ok (.aload_n 0, 1) := by decide +kernel
theorem dX7_titleValue_65 : decode cX7_titleValue 65 = .ok (.getfield 22, 3) := by decide +kernel
theorem dX7_titleValue_68 : decode cX7_titleValue 68 = .ok (.getfield 98, 3) := by decide +kernel
theorem dX7_titleValue_71 : decode cX7_titleValue 71 = .ok (.ireturn, 1) := by decide +kernel
theorem dX7_titleValue_72 : decode cX7_titleValue 72 = .ok (.aload_n 0, 1) := by decide +kernel
theorem dX7_titleValue_73 : decode cX7_titleValue 73 = .ok (.getfield 92, 3) := by decide +kernel
theorem dX7_titleValue_76 : decode cX7_titleValue 76 = .ok (.ireturn, 1) := by decide +kernel
theorem dX7_titleValue_77 : decode cX7_titleValue 77 = .ok (.aload_n 0, 1) := by decide +kernel
theorem dX7_titleValue_78 : decode cX7_titleValue 78 = .ok (.getfield 95, 3) := by decide +kernel
theorem dX7_titleValue_81 : decode cX7_titleValue 81 = .ok (.ireturn, 1) := by decide +kernel
theorem dX7_titleValue_82 : decode cX7_titleValue 82 = .ok (.aload_n 0, 1) := by decide +kernel
theorem dX7_titleValue_83 : decode cX7_titleValue 83 = .ok (.iload_n 1, 1) := by decide +kernel
theorem dX7_titleValue_84 : decode cX7_titleValue 84 = .ok (.iconst 5, 1) := by decide +kernel
theorem dX7_titleValue_85 : decode cX7_titleValue 85 = .ok (.if_icmp .ne 7, 3) := by decide +kernel
theorem dX7_titleValue_88 : decode cX7_titleValue 88 = .ok (.iconst 1, 1) := by decide +kernel
theorem dX7_titleValue_89 : decode cX7_titleValue 89 = .ok (.goto 4, 3) := by decide +kernel
theorem dX7_titleValue_92 : decode cX7_titleValue 92 = .ok (.iconst 0, 1) := by decide +kernel
theorem dX7_titleValue_93 : decode cX7_titleValue 93 = .ok (.invokevirtual 136, 3) := by decide +kernel
theorem dX7_titleValue_96 : decode cX7_titleValue 96 = .ok (.ireturn, 1) := by decide +kernel
theorem dX7_wholeValue_0 : decode cX7_wholeValue 0 = .ok (.iload_n 1, 1) := by decide +kernel
theorem dX7_wholeValue_1 : decode cX7_wholeValue 1 = .ok (.tableswitch 210 0 14 #[75, 83, 91, 99, 107, 118, 129, 140, 151, 162, 170, 175, 180, 190, 200], 75) := by decide +kernel
theorem dX7_wholeValue_76 : decode cX7_wholeValue 76 = .ok (.aload_n 0, 1) := by decide +kernel
theorem dX7_wholeValue_77 : decode cX7_wholeValue 77 = .ok (.getfield 22, 3) := by decide +kernel
theorem dX7_wholeValue_80 : decode cX7_wholeValue 80 = .ok (.getfield 90, 3) := by decide +kernel
theorem dX7_wholeValue_83 : decode cX7_wholeValue 83 = .ok (.ireturn, 1) := by decide +kernel
theorem dX7_wholeValue_84 : decode cX7_wholeValue 84 = .ok (.aload_n 0, 1) := by decide +kernel
theorem dX7_wholeValue_85 : decode cX7_wholeValue 85 = .ok (.getfield 22, 3) := by decide +kernel
theorem dX7_wholeValue_88 : decode cX7_wholeValue 88 = .ok (.getfield 139, 3) := by decide +kernel
theorem dX7_wholeValue_91 : decode cX7_wholeValue 91 = .ok (.ireturn, 1) := by decide +kernel
theorem dX7_wholeValue_92 : decode cX7_wholeValue 92 = .ok (.aload_n 0, 1) := by decide +kernel
theorem dX7_wholeValue_93 : decode cX7_wholeValue 93 = .ok (.getfield 29, 3) := by decide +kernel
theorem dX7_wholeValue_96 : decode cX7_wholeValue 96 = .ok (.getfield 61, 3) := by decide +kernel
theorem dX7_wholeValue_99 : decode cX7_wholeValue 99 = .ok (.ireturn, 1) := by decide +kernel
theorem dX7_wholeValue_100 : decode cX7_wholeValue 100 = .ok (.aload_n 0, 1) := by decide +kernel
theorem dX7_wholeValue_101 : decode cX7_wholeValue 101 = .ok (.getfield 29, 3) := by decide +kernel
theorem dX7_wholeValue_104 : decode cX7_wholeValue 104 = .ok (.invokevirtual 142, 3) := by decide +kernel
theorem dX7_wholeValue_107 : decode cX7_wholeValue 107 = .ok (.ireturn, 1) := by decide +kernel
theorem dX7_wholeValue_108 : decode cX7_wholeValue 108 = .ok (.aload_n 0, 1) := by decide +kernel
theorem dX7_wholeValue_109 : decode cX7_wholeValue 109 = .ok (.getfield 22, 3) := by decide +kernel
theorem dX7_wholeValue_112 : decode cX7_wholeValue 112 = .ok (.getfield 104, 3) := by decide +kernel
theorem dX7_wholeValue_115 : decode cX7_wholeValue 115 = .ok (.getfield 146, 3) := by decide +kernel
theorem dX7_wholeValue_118 : decode cX7_wholeValue 118 = .ok (.ireturn, 1) := by decide +kernel
theorem dX7_wholeValue_119 : decode cX7_wholeValue 119 = .ok (.aload_n 0, 1) := by decide +kernel
theorem dX7_wholeValue_120 : decode cX7_wholeValue 120 = .ok (.getfield 22, 3) := by decide +kernel
theorem dX7_wholeValue_123 : decode cX7_wholeValue 123 = .ok (.getfield 104, 3) := by decide +kernel
theorem dX7_wholeValue_126 : decode cX7_wholeValue 126 = .ok (.getfield 147, 3) := by decide +kernel
theorem dX7_wholeValue_129 : decode cX7_wholeValue 129 = .ok (.ireturn, 1) := by decide +kernel
theorem dX7_wholeValue_130 : decode cX7_wholeValue 130 = .ok (.aload_n 0, 1) := by decide +kernel
theorem dX7_wholeValue_131 : decode cX7_wholeValue 131 = .ok (.getfield 22, 3) := by decide +kernel
theorem dX7_wholeValue_134 : decode cX7_wholeValue 134 = .ok (.getfield 104, 3) := by decide +kernel
theorem dX7_wholeValue_137 : decode cX7_wholeValue 137 = .ok (.invokevirtual 150, 3) := by decide +kernel
theorem dX7_wholeValue_140 : decode cX7_wholeValue 140 = .ok (.ireturn, 1) := by decide +kernel
theorem dX7_wholeValue_141 : decode cX7_wholeValue 141 = .ok (.aload_n 0, 1) := by decide +kernel
theorem dX7_wholeValue_142 : decode cX7_wholeValue 142 = .ok (.getfield 22, 3) := by decide +kernel
theorem dX7_wholeValue_145 : decode cX7_wholeValue 145 = .ok (.getfield 104, 3) := by decide +kernel
theorem dX7_wholeValue_148 : decode cX7_wholeValue 148 = .ok (.getfield 153, 3) := by decide +kernel
theorem dX7_wholeValue_151 : decode cX7_wholeValue 151 = .ok (.ireturn, 1) := by decide +kernel
theorem dX7_wholeValue_152 : decode cX7_wholeValue 152 = .ok (.aload_n 0, 1) := by decide +kernel
theorem dX7_wholeValue_153 : decode cX7_wholeValue 153 = .ok (.getfield 22, 3) := by decide +kernel
theorem dX7_wholeValue_156 : decode cX7_wholeValue 156 = .ok (.getfield 104, 3) := by decide +kernel
theorem dX7_wholeValue_159 : decode cX7_wholeValue 159 = .ok (.getfield 108, 3) := by decide +kernel
theorem dX7_wholeValue_162 : decode cX7_wholeValue 162 = .ok (.ireturn, 1) := by decide +kernel
theorem dX7_wholeValue_163 : decode cX7_wholeValue 163 = .ok (.aload_n 0, 1) := by decide +kernel
theorem dX7_wholeValue_164 : decode cX7_wholeValue 164 = .ok (.getfield 12, 3) := by decide +kernel
theorem dX7_wholeValue_167 : decode cX7_wholeValue 167 = .ok (.getfield 156, 3) := by decide +kernel
theorem dX7_wholeValue_170 : decode cX7_wholeValue 170 = .ok (.ireturn, 1) := by decide +kernel
theorem dX7_wholeValue_171 : decode cX7_wholeValue 171 = .ok (.aload_n 0, 1) := by decide +kernel
theorem dX7_wholeValue_172 : decode cX7_wholeValue 172 = .ok (.getfield 48, 3) := by decide +kernel
theorem dX7_wholeValue_175 : decode cX7_wholeValue 175 = .ok (.ireturn, 1) := by decide +kernel
theorem dX7_wholeValue_176 : decode cX7_wholeValue 176 = .ok (.aload_n 0, 1) := by decide +kernel
theorem dX7_wholeValue_177 : decode cX7_wholeValue 177 = .ok (.getfield 51, 3) := by decide +kernel
theorem dX7_wholeValue_180 : decode cX7_wholeValue 180 = .ok (.ireturn, 1) := by decide +kernel
theorem dX7_wholeValue_181 : decode cX7_wholeValue 181 = .ok (.aload_n 0, 1) := by decide +kernel
theorem dX7_wholeValue_182 : decode cX7_wholeValue 182 = .ok (.getfield 22, 3) := by decide +kernel
theorem dX7_wholeValue_185 : decode cX7_wholeValue 185 = .ok (.getfield 159, 3) := by decide +kernel
theorem dX7_wholeValue_188 : decode cX7_wholeValue 188 = .ok (.iconst 0, 1) := by decide +kernel
theorem dX7_wholeValue_189 : decode cX7_wholeValue 189 = .ok (.iaload, 1) := by decide +kernel
theorem dX7_wholeValue_190 : decode cX7_wholeValue 190 = .ok (.ireturn, 1) := by decide +kernel
theorem dX7_wholeValue_191 : decode cX7_wholeValue 191 = .ok (.aload_n 0, 1) := by decide +kernel
theorem dX7_wholeValue_192 : decode cX7_wholeValue 192 = .ok (.getfield 22, 3) := by decide +kernel
theorem dX7_wholeValue_195 : decode cX7_wholeValue 195 = .ok (.getfield 159, 3) := by decide +kernel
theorem dX7_wholeValue_198 : decode cX7_wholeValue 198 = .ok (.iconst 1, 1) := by decide +kernel
theorem dX7_wholeValue_199 : decode cX7_wholeValue 199 = .ok (.iaload, 1) := by decide +kernel
theorem dX7_wholeValue_200 : decode cX7_wholeValue 200 = .ok (.ireturn, 1) := by decide +kernel
theorem dX7_wholeValue_201 : decode cX7_wholeValue 201 = .ok (.aload_n 0, 1) := by decide +kernel
theorem dX7_wholeValue_202 : decode cX7_wholeValue 202 = .ok (.getfield 22, 3) := by decide +kernel
theorem dX7_wholeValue_205 : decode cX7_wholeValue 205 = .ok (.getfield 159, 3) := by decide +kernel
theorem dX7_wholeValue_208 : decode cX7_wholeValue 208 = .ok (.iconst 2, 1) := by decide +kernel
theorem dX7_wholeValue_209 : decode cX7_wholeValue 209 = .ok (.iaload, 1) := by decide +kernel
theorem dX7_wholeValue_210 : decode cX7_wholeValue 210 = .ok (.ireturn, 1) := by decide +kernel
theorem dX7_wholeValue_211 : decode cX7_wholeValue 211 = .ok (.aload_n 0, 1) := by decide +kernel
theorem dX7_wholeValue_212 : decode cX7_wholeValue 212 = .ok (.getfield 22, 3) := by decide +kernel
theorem dX7_wholeValue_215 : decode cX7_wholeValue 215 = .ok (.getfield 159, 3) := by decide +kernel
theorem dX7_wholeValue_218 : decode cX7_wholeValue 218 = .ok (.iconst 3, 1) := by decide +kernel
theorem dX7_wholeValue_219 : decode cX7_wholeValue 219 = .ok (.iaload, 1) := by decide +kernel
theorem dX7_wholeValue_220 : decode cX7_wholeValue 220 = .ok (.ireturn, 1) := by decide +kernel
theorem dX7_shadeAt_0 : decode cX7_shadeAt 0 = .ok (.iload_n 2, 1) := by decide +kernel
theorem dX7_shadeAt_1 : decode cX7_shadeAt 1 = .ok (.aload_n 0, 1) := by decide +kernel
theorem dX7_shadeAt_2 : decode cX7_shadeAt 2 = .ok (.iload_n 1, 1) := by decide +kernel
theorem dX7_shadeAt_3 : decode cX7_shadeAt 3 = .ok (.invokevirtual 123, 3) := by decide +kernel
theorem dX7_shadeAt_6 : decode cX7_shadeAt 6 = .ok (.if_icmp .lt 12, 3) := by decide +kernel
theorem dX7_shadeAt_9 : decode cX7_shadeAt 9 = .ok (.iload_n 2, 1) := by decide +kernel
theorem dX7_shadeAt_10 : decode cX7_shadeAt 10 = .ok (.aload_n 0, 1) := by decide +kernel
theorem dX7_shadeAt_11 : decode cX7_shadeAt 11 = .ok (.iload_n 1, 1) := by decide +kernel
theorem dX7_shadeAt_12 : decode cX7_shadeAt 12 = .ok (.invokevirtual 126, 3) := by decide +kernel
theorem dX7_shadeAt_15 : decode cX7_shadeAt 15 = .ok (.if_icmp .lt 5, 3) := by decide +kernel
theorem dX7_shadeAt_18 : decode cX7_shadeAt 18 = .ok (.iconst 0, 1) := by decide +kernel
theorem dX7_shadeAt_19 : decode cX7_shadeAt 19 = .ok (.ireturn, 1) := by decide +kernel
theorem dX7_shadeAt_20 : decode cX7_shadeAt 20 = .ok (.aload_n 0, 1) := by decide +kernel
theorem dX7_shadeAt_21 : decode cX7_shadeAt 21 = .ok (.iload_n 1, 1) := by decide +kernel
theorem dX7_shadeAt_22 : decode cX7_shadeAt 22 = .ok (.invokevirtual 136, 3) := by decide +kernel
theorem dX7_shadeAt_25 : decode cX7_shadeAt 25 = .ok (.istore 4, 2) := by decide +kernel
theorem dX7_shadeAt_27 : decode cX7_shadeAt 27 = .ok (.iload_n 3, 1) := by decide +kernel
theorem dX7_shadeAt_28 : decode cX7_shadeAt 28 = .ok (.aload_n 0, 1) := by decide +kernel
theorem dX7_shadeAt_29 : decode cX7_shadeAt 29 = .ok (.getfield 92, 3) := by decide +kernel
theorem dX7_shadeAt_32 : decode cX7_shadeAt 32 = .ok (.if_icmp .ne 26, 3) := by decide +kernel
theorem dX7_shadeAt_35 : decode cX7_shadeAt 35 = .ok (.iload 4, 2) := by decide +kernel
theorem dX7_shadeAt_37 : decode cX7_shadeAt 37 = .ok (.iload_n 2, 1) := by decide +kernel
theorem dX7_shadeAt_38 : decode cX7_shadeAt 38 = .ok (.if_icmp .gt 20, 3) := by decide +kernel
theorem dX7_shadeAt_41 : decode cX7_shadeAt 41 = .ok (.iload_n 2, 1) := by decide +kernel
theorem dX7_shadeAt_42 : decode cX7_shadeAt 42 = .ok (.iload 4, 2) := by decide +kernel
theorem dX7_shadeAt_44 : decode cX7_shadeAt 44 = .ok (.aload_n 0, 1) := by decide +kernel
theorem dX7_shadeAt_45 : decode cX7_shadeAt 45 = .ok (.getfield 22, 3) := by decide +kernel
theorem dX7_shadeAt_48 : decode cX7_shadeAt 48 = .ok (.getfield 98, 3) := by decide +kernel
theorem dX7_shadeAt_51 : decode cX7_shadeAt 51 = .ok (.iadd, 1) := by decide +kernel
theorem dX7_shadeAt_52 : decode cX7_shadeAt 52 = .ok (.if_icmp .ge 6, 3) := by decide +kernel
theorem dX7_shadeAt_55 : decode cX7_shadeAt 55 = .ok (.bipush 15, 2) := by decide +kernel
theorem dX7_shadeAt_57 : decode cX7_shadeAt 57 = .ok (.ireturn, 1) := by decide +kernel
theorem dX7_shadeAt_58 : decode cX7_shadeAt 58 = .ok (.aload_n 0, 1) := by decide +kernel
theorem dX7_shadeAt_59 : decode cX7_shadeAt 59 = .ok (.getfield 12, 3) := by decide +kernel
theorem dX7_shadeAt_62 : decode cX7_shadeAt 62 = .ok (.iload_n 1, 1) := by decide +kernel
theorem dX7_shadeAt_63 : decode cX7_shadeAt 63 = .ok (.iload_n 2, 1) := by decide +kernel
theorem dX7_shadeAt_64 : decode cX7_shadeAt 64 = .ok (.iload_n 3, 1) := by decide +kernel
theorem dX7_shadeAt_65 : decode cX7_shadeAt 65 = .ok (.invokevirtual 162, 3) := by decide +kernel
theorem dX7_shadeAt_68 : decode cX7_shadeAt 68 = .ok (.istore 5, 2) := by decide +kernel
theorem dX7_shadeAt_70 : decode cX7_shadeAt 70 = .ok (.aload_n 0, 1) := by decide +kernel
theorem dX7_shadeAt_71 : decode cX7_shadeAt 71 = .ok (.getfield 29, 3) := by decide +kernel
theorem dX7_shadeAt_74 : decode cX7_shadeAt 74 = .ok (.iload 5, 2) := by decide +kernel
theorem dX7_shadeAt_76 : decode cX7_shadeAt 76 = .ok (.invokevirtual 165, 3) := by decide +kernel
theorem dX7_shadeAt_79 : decode cX7_shadeAt 79 = .ok (.ifCond .eq 16, 3) := by decide +kernel
theorem dX7_shadeAt_82 : decode cX7_shadeAt 82 = .ok (.aload_n 0, 1) := by decide +kernel
theorem dX7_shadeAt_83 : decode cX7_shadeAt 83 = .ok (.getfield 29, 3) := by decide +kernel
theorem dX7_shadeAt_86 : decode cX7_shadeAt 86 = .ok (.getfield 168, 3) := by decide +kernel
theorem dX7_shadeAt_89 : decode cX7_shadeAt 89 = .ok (.iload 5, 2) := by decide +kernel
theorem dX7_shadeAt_91 : decode cX7_shadeAt 91 = .ok (.iaload, 1) := by decide +kernel
theorem dX7_shadeAt_92 : decode cX7_shadeAt 92 = .ok (.goto 12, 3) := by decide +kernel
theorem dX7_shadeAt_95 : decode cX7_shadeAt 95 = .ok (.aload_n 0, 1) := by decide +kernel
theorem dX7_shadeAt_96 : decode cX7_shadeAt 96 = .ok (.getfield 22, 3) := by decide +kernel
theorem dX7_shadeAt_99 : decode cX7_shadeAt 99 = .ok (.getfield 159, 3) := by decide +kernel
theorem dX7_shadeAt_102 : decode cX7_shadeAt 102 = .ok (.iconst 2, 1) := by decide +kernel
theorem dX7_shadeAt_103 : decode cX7_shadeAt 103 = .ok (.iaload, 1) := by decide +kernel
theorem dX7_shadeAt_104 : decode cX7_shadeAt 104 = .ok (.ireturn, 1) := by decide +kernel
theorem dX7_ghostAt_0 : decode cX7_ghostAt 0 = .ok (.aload_n 0, 1) := by decide +kernel
theorem dX7_ghostAt_1 : decode cX7_ghostAt 1 = .ok (.aload_n 0, 1) := by decide +kernel
theorem dX7_ghostAt_2 : decode cX7_ghostAt 2 = .ok (.iconst 1, 1) := by decide +kernel
theorem dX7_ghostAt_3 : decode cX7_ghostAt 3 = .ok (.iload_n 1, 1) := by decide +kernel
theorem dX7_ghostAt_4 : decode cX7_ghostAt 4 = .ok (.iload_n 2, 1) := by decide +kernel
theorem dX7_ghostAt_5 : decode cX7_ghostAt 5 = .ok (.invokevirtual 171, 3) := by decide +kernel
theorem dX7_ghostAt_8 : decode cX7_ghostAt 8 = .ok (.aload_n 0, 1) := by decide +kernel
theorem dX7_ghostAt_9 : decode cX7_ghostAt 9 = .ok (.iconst 0, 1) := by decide +kernel
theorem dX7_ghostAt_10 : decode cX7_ghostAt 10 = .ok (.iload_n 1, 1) := by decide +kernel
theorem dX7_ghostAt_11 : decode cX7_ghostAt 11 = .ok (.iload_n 2, 1) := by decide +kernel
theorem dX7_ghostAt_12 : decode cX7_ghostAt 12 = .ok (.invokevirtual 171, 3) := by decide +kernel
theorem dX7_ghostAt_15 : decode cX7_ghostAt 15 = .ok (.invokevirtual 174, 3) := by decide +kernel
theorem dX7_ghostAt_18 : decode cX7_ghostAt 18 = .ok (.ireturn, 1) := by decide +kernel
theorem dX7_ghostOf_0 : decode cX7_ghostOf 0 = .ok (.aload_n 0, 1) := by decide +kernel
theorem dX7_ghostOf_1 : decode cX7_ghostOf 1 = .ok (.getfield 22, 3) := by decide +kernel
theorem dX7_ghostOf_4 : decode cX7_ghostOf 4 = .ok (.getfield 159, 3) := by decide +kernel
theorem dX7_ghostOf_7 : decode cX7_ghostOf 7 = .ok (.iconst 3, 1) := by decide +kernel
theorem dX7_ghostOf_8 : decode cX7_ghostOf 8 = .ok (.iaload, 1) := by decide +kernel
theorem dX7_ghostOf_9 : decode cX7_ghostOf 9 = .ok (.iload_n 1, 1) := by decide +kernel
theorem dX7_ghostOf_10 : decode cX7_ghostOf 10 = .ok (.iload_n 2, 1) := by decide +kernel
theorem dX7_ghostOf_11 : decode cX7_ghostOf 11 = .ok (.isub, 1) := by decide +kernel
theorem dX7_ghostOf_12 : decode cX7_ghostOf 12 = .ok (.invokestatic 178, 3) := by decide +kernel
theorem dX7_ghostOf_15 : decode cX7_ghostOf 15 = .ok (.imul, 1) := by decide +kernel
theorem dX7_ghostOf_16 : decode cX7_ghostOf 16 = .ok (.bipush 100, 2) := by decide +kernel
theorem dX7_ghostOf_18 : decode cX7_ghostOf 18 = .ok (.idiv, 1) := by decide +kernel
theorem dX7_ghostOf_19 : decode cX7_ghostOf 19 = .ok (.ireturn, 1) := by decide +kernel
theorem dX7_countGhosts_0 : decode cX7_countGhosts 0 = .ok (.iconst 0, 1) := by decide +kernel
theorem dX7_countGhosts_1 : decode cX7_countGhosts 1 = .ok (.istore_n 2, 1) := by decide +kernel
theorem dX7_countGhosts_2 : decode cX7_countGhosts 2 = .ok (.iconst 0, 1) := by decide +kernel
theorem dX7_countGhosts_3 : decode cX7_countGhosts 3 = .ok (.istore_n 3, 1) := by decide +kernel
theorem dX7_countGhosts_4 : decode cX7_countGhosts 4 = .ok (.iconst 0, 1) := by decide +kernel
theorem dX7_countGhosts_5 : decode cX7_countGhosts 5 = .ok (.istore 4, 2) := by decide +kernel
theorem dX7_countGhosts_7 : decode cX7_countGhosts 7 = .ok (.iload 4, 2) := by decide +kernel
theorem dX7_countGhosts_9 : decode cX7_countGhosts 9 = .ok (.aload_n 0, 1) := by decide +kernel
theorem dX7_countGhosts_10 : decode cX7_countGhosts 10 = .ok (.getfield 22, 3) := by decide +kernel
theorem dX7_countGhosts_13 : decode cX7_countGhosts 13 = .ok (.getfield 139, 3) := by decide +kernel
theorem dX7_countGhosts_16 : decode cX7_countGhosts 16 = .ok (.if_icmp .ge 37, 3) := by decide +kernel
theorem dX7_countGhosts_19 : decode cX7_countGhosts 19 = .ok (.aload_n 0, 1) := by decide +kernel
theorem dX7_countGhosts_20 : decode cX7_countGhosts 20 = .ok (.iload 4, 2) := by decide +kernel
theorem dX7_countGhosts_22 : decode cX7_countGhosts 22 = .ok (.invokevirtual 184, 3) := by decide +kernel
theorem dX7_countGhosts_25 : decode cX7_countGhosts 25 = .ok (.istore 5, 2) := by decide +kernel
theorem dX7_countGhosts_27 : decode cX7_countGhosts 27 = .ok (.iload 5, 2) := by decide +kernel
theorem dX7_countGhosts_29 : decode cX7_countGhosts 29 = .ok (.ifCond .ne 8, 3) := by decide +kernel
theorem dX7_countGhosts_32 : decode cX7_countGhosts 32 = .ok (.iload 4, 2) := by decide +kernel
theorem dX7_countGhosts_34 : decode cX7_countGhosts 34 = .ok (.ifCond .ne 9, 3) := by decide +kernel
theorem dX7_countGhosts_37 : decode cX7_countGhosts 37 = .ok (.aload_n 0, 1) := by decide +kernel
theorem dX7_countGhosts_38 : decode cX7_countGhosts 38 = .ok (.iload_n 1, 1) := by decide +kernel
theorem dX7_countGhosts_39 : decode cX7_countGhosts 39 = .ok (.invokevirtual 187, 3) := by decide +kernel
theorem dX7_countGhosts_42 : decode cX7_countGhosts 42 = .ok (.istore_n 3, 1) := by decide +kernel
theorem dX7_countGhosts_43 : decode cX7_countGhosts 43 = .ok (.iload_n 2, 1) := by decide +kernel
theorem dX7_countGhosts_44 : decode cX7_countGhosts 44 = .ok (.iload_n 3, 1) := by decide +kernel
theorem dX7_countGhosts_45 : decode cX7_countGhosts 45 = .ok (.iadd, 1) := by decide +kernel
theorem dX7_countGhosts_46 : decode cX7_countGhosts 46 = .ok (.istore_n 2, 1) := by decide +kernel
theorem dX7_countGhosts_47 : decode cX7_countGhosts 47 = .ok (.iinc 4 1, 3) := by decide +kernel
theorem dX7_countGhosts_50 : decode cX7_countGhosts 50 = .ok (.goto (-43), 3) := by decide +kernel
theorem dX7_countGhosts_53 : decode cX7_countGhosts 53 = .ok (.iload_n 2, 1) := by decide +kernel
theorem dX7_countGhosts_54 : decode cX7_countGhosts 54 = .ok (.ireturn, 1) := by decide +kernel
theorem dX7_countInHeldRow_0 : decode cX7_countInHeldRow 0 = .ok (.iconst 0, 1) := by decide +kernel
theorem dX7_countInHeldRow_1 : decode cX7_countInHeldRow 1 = .ok (.istore_n 2, 1) := by decide +kernel
theorem dX7_countInHeldRow_2 : decode cX7_countInHeldRow 2 = .ok (.iconst 0, 1) := by decide +kernel
theorem dX7_countInHeldRow_3 : decode cX7_countInHeldRow 3 = .ok (.istore_n 3, 1) := by decide +kernel
theorem dX7_countInHeldRow_4 : decode cX7_countInHeldRow 4 = .ok (.iload_n 3, 1) := by decide +kernel
theorem dX7_countInHeldRow_5 : decode cX7_countInHeldRow 5 = .ok (.aload_n 0, 1) := by decide +kernel
theorem dX7_countInHeldRow_6 : decode cX7_countInHeldRow 6 = .ok (.getfield 22, 3) := by decide +kernel
theorem dX7_countInHeldRow_9 : decode cX7_countInHeldRow 9 = .ok (.getfield 90, 3) := by decide +kernel
theorem dX7_countInHeldRow_12 : decode cX7_countInHeldRow 12 = .ok (.if_icmp .ge 44, 3) := by decide +kernel
theorem dX7_countInHeldRow_15 : decode cX7_countInHeldRow 15 = .ok (.iload_n 3, 1) := by decide +kernel
theorem dX7_countInHeldRow_16 : decode cX7_countInHeldRow 16 = .ok (.sipush 200, 3) := by decide +kernel
theorem dX7_countInHeldRow_19 : decode cX7_countInHeldRow 19 = .ok (.if_icmp .ge 37, 3) := by decide +kernel
theorem dX7_countInHeldRow_22 : decode cX7_countInHeldRow 22 = .ok (.iload_n 2, 1) := by decide +kernel
theorem dX7_countInHeldRow_23 : decode cX7_countInHeldRow 23 = .ok (.aload_n 0, 1) := by decide +kernel
theorem dX7_countInHeldRow_24 : decode cX7_countInHeldRow 24 = .ok (.aload_n 0, 1) := by decide +kernel
theorem dX7_countInHeldRow_25 : decode cX7_countInHeldRow 25 = .ok (.getfield 30, 3) := by decide +kernel
theorem dX7_countInHeldRow_28 : decode cX7_countInHeldRow 28 = .ok (.iload_n 3, 1) := by decide +kernel
theorem dX7_countInHeldRow_29 : decode cX7_countInHeldRow 29 = .ok (.iaload, 1) := by decide +kernel
theorem dX7_countInHeldRow_30 : decode cX7_countInHeldRow 30 = .ok (.aload_n 0, 1) := by decide +kernel
theorem dX7_countInHeldRow_31 : decode cX7_countInHeldRow 31 = .ok (.getfield 34, 3) := by decide +kernel
theorem dX7_countInHeldRow_34 : decode cX7_countInHeldRow 34 = .ok (.iload_n 3, 1) := by decide +kernel
theorem dX7_countInHeldRow_35 : decode cX7_countInHeldRow 35 = .ok (.iaload, 1) := by decide +kernel
theorem dX7_countInHeldRow_36 : decode cX7_countInHeldRow 36 = .ok (.invokevirtual 174, 3) := by decide +kernel
theorem dX7_countInHeldRow_39 : decode cX7_countInHeldRow 39 = .ok (.iload_n 1, 1) := by decide +kernel
theorem dX7_countInHeldRow_40 : decode cX7_countInHeldRow 40 = .ok (.if_icmp .lt 7, 3) := by decide +kernel
theorem dX7_countInHeldRow_43 : decode cX7_countInHeldRow 43 = .ok (.iconst 1, 1) := by decide +kernel
theorem dX7_countInHeldRow_44 : decode cX7_countInHeldRow 44 = .ok (.goto 4, 3) := by decide +kernel
theorem dX7_countInHeldRow_47 : decode cX7_countInHeldRow 47 = .ok (.iconst 0, 1) := by decide +kernel
theorem dX7_countInHeldRow_48 : decode cX7_countInHeldRow 48 = .ok (.iadd, 1) := by decide +kernel
theorem dX7_countInHeldRow_49 : decode cX7_countInHeldRow 49 = .ok (.istore_n 2, 1) := by decide +kernel
theorem dX7_countInHeldRow_50 : decode cX7_countInHeldRow 50 = .ok (.iinc 3 1, 3) := by decide +kernel
theorem dX7_countInHeldRow_53 : decode cX7_countInHeldRow 53 = .ok (.goto (-49), 3) := by decide +kernel
theorem dX7_countInHeldRow_56 : decode cX7_countInHeldRow 56 = .ok (.iload_n 2, 1) := by decide +kernel
theorem dX7_countInHeldRow_57 : decode cX7_countInHeldRow 57 = .ok (.ireturn, 1) := by decide +kernel
theorem dX7_sumOfGhosts_0 : decode cX7_sumOfGhosts 0 = .ok (.aload_n 0, 1) := by decide +kernel
theorem dX7_sumOfGhosts_1 : decode cX7_sumOfGhosts 1 = .ok (.iload_n 1, 1) := by decide +kernel
theorem dX7_sumOfGhosts_2 : decode cX7_sumOfGhosts 2 = .ok (.invokevirtual 184, 3) := by decide +kernel
theorem dX7_sumOfGhosts_5 : decode cX7_sumOfGhosts 5 = .ok (.pop, 1) := by decide +kernel
theorem dX7_sumOfGhosts_6 : decode cX7_sumOfGhosts 6 = .ok (.iconst 0, 1) := by decide +kernel
theorem dX7_sumOfGhosts_7 : decode cX7_sumOfGhosts 7 = .ok (.istore_n 2, 1) := by decide +kernel
theorem dX7_sumOfGhosts_8 : decode cX7_sumOfGhosts 8 = .ok (.iconst 0, 1) := by decide +kernel
theorem dX7_sumOfGhosts_9 : decode cX7_sumOfGhosts 9 = .ok (.istore_n 3, 1) := by decide +kernel
theorem dX7_sumOfGhosts_10 : decode cX7_sumOfGhosts 10 = .ok (.iload_n 3, 1) := by decide +kernel
theorem dX7_sumOfGhosts_11 : decode cX7_sumOfGhosts 11 = .ok (.aload_n 0, 1) := by decide +kernel
theorem dX7_sumOfGhosts_12 : decode cX7_sumOfGhosts 12 = .ok (.getfield 22, 3) := by decide +kernel
theorem dX7_sumOfGhosts_15 : decode cX7_sumOfGhosts 15 = .ok (.getfield 90, 3) := by decide +kernel
theorem dX7_sumOfGhosts_18 : decode cX7_sumOfGhosts 18 = .ok (.if_icmp .ge 35, 3) := by decide +kernel
theorem dX7_sumOfGhosts_21 : decode cX7_sumOfGhosts 21 = .ok (.iload_n 3, 1) := by decide +kernel
theorem dX7_sumOfGhosts_22 : decode cX7_sumOfGhosts 22 = .ok (.sipush 200, 3) := by decide +kernel
theorem dX7_sumOfGhosts_25 : decode cX7_sumOfGhosts 25 = .ok (.if_icmp .ge 28, 3) := by decide +kernel
theorem dX7_sumOfGhosts_28 : decode cX7_sumOfGhosts 28 = .ok (.iload_n 2, 1) := by decide +kernel
theorem dX7_sumOfGhosts_29 : decode cX7_sumOfGhosts 29 = .ok (.aload_n 0, 1) := by decide +kernel
theorem dX7_sumOfGhosts_30 : decode cX7_sumOfGhosts 30 = .ok (.aload_n 0, 1) := by decide +kernel
theorem dX7_sumOfGhosts_31 : decode cX7_sumOfGhosts 31 = .ok (.getfield 30, 3) := by decide +kernel
theorem dX7_sumOfGhosts_34 : decode cX7_sumOfGhosts 34 = .ok (.iload_n 3, 1) := by decide +kernel
theorem dX7_sumOfGhosts_35 : decode cX7_sumOfGhosts 35 = .ok (.iaload, 1) := by decide +kernel
theorem dX7_sumOfGhosts_36 : decode cX7_sumOfGhosts 36 = .ok (.aload_n 0, 1) := by decide +kernel
theorem dX7_sumOfGhosts_37 : decode cX7_sumOfGhosts 37 = .ok (.getfield 34, 3) := by decide +kernel
theorem dX7_sumOfGhosts_40 : decode cX7_sumOfGhosts 40 = .ok (.iload_n 3, 1) := by decide +kernel
theorem dX7_sumOfGhosts_41 : decode cX7_sumOfGhosts 41 = .ok (.iaload, 1) := by decide +kernel
theorem dX7_sumOfGhosts_42 : decode cX7_sumOfGhosts 42 = .ok (.invokevirtual 174, 3) := by decide +kernel
theorem dX7_sumOfGhosts_45 : decode cX7_sumOfGhosts 45 = .ok (.iadd, 1) := by decide +kernel
theorem dX7_sumOfGhosts_46 : decode cX7_sumOfGhosts 46 = .ok (.istore_n 2, 1) := by decide +kernel
theorem dX7_sumOfGhosts_47 : decode cX7_sumOfGhosts 47 = .ok (.iinc 3 1, 3) := by decide +kernel
theorem dX7_sumOfGhosts_50 : decode cX7_sumOfGhosts 50 = .ok (.goto (-40), 3) := by decide +kernel
theorem dX7_sumOfGhosts_53 : decode cX7_sumOfGhosts 53 = .ok (.iload_n 2, 1) := by decide +kernel
theorem dX7_sumOfGhosts_54 : decode cX7_sumOfGhosts 54 = .ok (.ireturn, 1) := by decide +kernel
theorem dX7_holdRow_0 : decode cX7_holdRow 0 = .ok (.iload_n 1, 1) := by decide +kernel
theorem dX7_holdRow_1 : decode cX7_holdRow 1 = .ok (.aload_n 0, 1) := by decide +kernel
theorem dX7_holdRow_2 : decode cX7_holdRow 2 = .ok (.getfield 37, 3) := by decide +kernel
theorem dX7_holdRow_5 : decode cX7_holdRow 5 = .ok (.if_icmp .eq 21, 3) := by decide +kernel
theorem dX7_holdRow_8 : decode cX7_holdRow 8 = .ok (.iload_n 1, 1) := by decide +kernel
theorem dX7_holdRow_9 : decode cX7_holdRow 9 = .ok (.aload_n 0, 1) := by decide +kernel
theorem dX7_holdRow_10 : decode cX7_holdRow 10 = .ok (.getfield 37, 3) := by decide +kernel
theorem dX7_holdRow_13 : decode cX7_holdRow 13 = .ok (.iconst 1, 1) := by decide +kernel
theorem dX7_holdRow_14 : decode cX7_holdRow 14 = .ok (.iadd, 1) := by decide +kernel
theorem dX7_holdRow_15 : decode cX7_holdRow 15 = .ok (.if_icmp .ne 15, 3) := by decide +kernel
theorem dX7_holdRow_18 : decode cX7_holdRow 18 = .ok (.aload_n 0, 1) := by decide +kernel
theorem dX7_holdRow_19 : decode cX7_holdRow 19 = .ok (.iload_n 1, 1) := by decide +kernel
theorem dX7_holdRow_20 : decode cX7_holdRow 20 = .ok (.invokevirtual 192, 3) := by decide +kernel
theorem dX7_holdRow_23 : decode cX7_holdRow 23 = .ok (.ifCond .eq 7, 3) := by decide +kernel
theorem dX7_holdRow_26 : decode cX7_holdRow 26 = .ok (.iconst 1, 1) := by decide +kernel
theorem dX7_holdRow_27 : decode cX7_holdRow 27 = .ok (.goto 4, 3) := by decide +kernel
theorem dX7_holdRow_30 : decode cX7_holdRow 30 = .ok (.iconst 0, 1) := by decide +kernel
theorem dX7_holdRow_31 : decode cX7_holdRow 31 = .ok (.istore_n 2, 1) := by decide +kernel
theorem dX7_holdRow_32 : decode cX7_holdRow 32 = .ok (.aload_n 0, 1) := by decide +kernel
theorem dX7_holdRow_33 : decode cX7_holdRow 33 = .ok (.iload_n 1, 1) := by decide +kernel
theorem dX7_holdRow_34 : decode cX7_holdRow 34 = .ok (.putfield 37, 3) := by decide +kernel
theorem dX7_holdRow_37 : decode cX7_holdRow 37 = .ok (.iload_n 2, 1) := by decide +kernel
theorem dX7_holdRow_38 : decode cX7_holdRow 38 = .ok (.ifCond .ne 23, 3) := by decide +kernel
theorem dX7_holdRow_41 : decode cX7_holdRow 41 = .ok (.aload_n 0, 1) := by decide +kernel
theorem dX7_holdRow_42 : decode cX7_holdRow 42 = .ok (.iconst 1, 1) := by decide +kernel
theorem dX7_holdRow_43 : decode cX7_holdRow 43 = .ok (.iload_n 1, 1) := by decide +kernel
theorem dX7_holdRow_44 : decode cX7_holdRow 44 = .ok (.aload_n 0, 1) := by decide +kernel
theorem dX7_holdRow_45 : decode cX7_holdRow 45 = .ok (.getfield 30, 3) := by decide +kernel
theorem dX7_holdRow_48 : decode cX7_holdRow 48 = .ok (.invokevirtual 195, 3) := by decide +kernel
theorem dX7_holdRow_51 : decode cX7_holdRow 51 = .ok (.aload_n 0, 1) := by decide +kernel
theorem dX7_holdRow_52 : decode cX7_holdRow 52 = .ok (.iconst 0, 1) := by decide +kernel
theorem dX7_holdRow_53 : decode cX7_holdRow 53 = .ok (.iload_n 1, 1) := by decide +kernel
theorem dX7_holdRow_54 : decode cX7_holdRow 54 = .ok (.aload_n 0, 1) := by decide +kernel
theorem dX7_holdRow_55 : decode cX7_holdRow 55 = .ok (.getfield 34, 3) := by decide +kernel
theorem dX7_holdRow_58 : decode cX7_holdRow 58 = .ok (.invokevirtual 195, 3) := by decide +kernel
theorem dX7_holdRow_61 : decode cX7_holdRow 61 = .ok (.iload_n 2, 1) := by decide +kernel
theorem dX7_holdRow_62 : decode cX7_holdRow 62 = .ok (.ifCond .ne 7, 3) := by decide +kernel
theorem dX7_holdRow_65 : decode cX7_holdRow 65 = .ok (.iconst 1, 1) := by decide +kernel
theorem dX7_holdRow_66 : decode cX7_holdRow 66 = .ok (.goto 4, 3) := by decide +kernel
theorem dX7_holdRow_69 : decode cX7_holdRow 69 = .ok (.iconst 0, 1) := by decide +kernel
theorem dX7_holdRow_70 : decode cX7_holdRow 70 = .ok (.ireturn, 1) := by decide +kernel
theorem dX7_isLikeAbove_0 : decode cX7_isLikeAbove 0 = .ok (.iload_n 1, 1) := by decide +kernel
theorem dX7_isLikeAbove_1 : decode cX7_isLikeAbove 1 = .ok (.aload_n 0, 1) := by decide +kernel
theorem dX7_isLikeAbove_2 : decode cX7_isLikeAbove 2 = .ok (.getfield 92, 3) := by decide +kernel
theorem dX7_isLikeAbove_5 : decode cX7_isLikeAbove 5 = .ok (.if_icmp .eq 13, 3) := by decide +kernel
theorem dX7_isLikeAbove_8 : decode cX7_isLikeAbove 8 = .ok (.iload_n 1, 1) := by decide +kernel
theorem dX7_isLikeAbove_9 : decode cX7_isLikeAbove 9 = .ok (.iconst 1, 1) := by decide +kernel
theorem dX7_isLikeAbove_10 : decode cX7_isLikeAbove 10 = .ok (.isub, 1) := by decide +kernel
theorem dX7_isLikeAbove_11 : decode cX7_isLikeAbove 11 = .ok (.aload_n 0, 1) := by decide +kernel
theorem dX7_isLikeAbove_12 : decode cX7_isLikeAbove 12 = .ok (.getfield 92, 3) := by decide +kernel
theorem dX7_isLikeAbove_15 : decode cX7_isLikeAbove 15 = .ok (.if_icmp .ne 5, 3) := by decide +kernel
theorem dX7_isLikeAbove_18 : decode cX7_isLikeAbove 18 = .ok (.iconst 0, 1) := by decide +kernel
theorem dX7_isLikeAbove_19 : decode cX7_isLikeAbove 19 = .ok (.ireturn, 1) := by decide +kernel
theorem dX7_isLikeAbove_20 : decode cX7_isLikeAbove 20 = .ok (.iconst 0, 1) := by decide +kernel
theorem dX7_isLikeAbove_21 : decode cX7_isLikeAbove 21 = .ok (.istore_n 2, 1) := by decide +kernel
theorem dX7_isLikeAbove_22 : decode cX7_isLikeAbove 22 = .ok (.iload_n 2, 1) := by decide +kernel
theorem dX7_isLikeAbove_23 : decode cX7_isLikeAbove 23 = .ok (.aload_n 0, 1) := by decide +kernel
theorem dX7_isLikeAbove_24 : decode cX7_isLikeAbove 24 = .ok (.getfield 29, 3) := by decide +kernel
theorem dX7_isLikeAbove_27 : decode cX7_isLikeAbove 27 = .ok (.getfield 61, 3) := by decide +kernel
theorem dX7_isLikeAbove_30 : decode cX7_isLikeAbove 30 = .ok (.if_icmp .ge 40, 3) := by decide +kernel
theorem dX7_isLikeAbove_33 : decode cX7_isLikeAbove 33 = .ok (.iload_n 2, 1) := by decide +kernel
theorem dX7_isLikeAbove_34 : decode cX7_isLikeAbove 34 = .ok (.bipush 20, 2) := by decide +kernel
theorem dX7_isLikeAbove_36 : decode cX7_isLikeAbove 36 = .ok (.if_icmp .ge 34, 3) := by decide +kernel
theorem dX7_isLikeAbove_39 : decode cX7_isLikeAbove 39 = .ok (.aload_n 0, 1) := by decide +kernel
theorem dX7_isLikeAbove_40 : decode cX7_isLikeAbove 40 = .ok (.getfield 12, 3) := by decide +kernel
theorem dX7_isLikeAbove_43 : decode cX7_isLikeAbove 43 = .ok (.iload_n 2, 1) := by decide +kernel
theorem dX7_isLikeAbove_44 : decode cX7_isLikeAbove 44 = .ok (.iload_n 1, 1) := by decide +kernel
theorem dX7_isLikeAbove_45 : decode cX7_isLikeAbove 45 = .ok (.invokevirtual 129, 3) := by decide +kernel
theorem dX7_isLikeAbove_48 : decode cX7_isLikeAbove 48 = .ok (.aload_n 0, 1) := by decide +kernel
theorem dX7_isLikeAbove_49 : decode cX7_isLikeAbove 49 = .ok (.getfield 12, 3) := by decide +kernel
theorem dX7_isLikeAbove_52 : decode cX7_isLikeAbove 52 = .ok (.iload_n 2, 1) := by decide +kernel
theorem dX7_isLikeAbove_53 : decode cX7_isLikeAbove 53 = .ok (.iload_n 1, 1) := by decide +kernel
theorem dX7_isLikeAbove_54 : decode cX7_isLikeAbove 54 = .ok (.iconst 1, 1) := by decide +kernel
theorem dX7_isLikeAbove_55 : decode cX7_isLikeAbove 55 = .ok (.isub, 1) := by decide +kernel
theorem dX7_isLikeAbove_56 : decode cX7_isLikeAbove 56 = .ok (.invokevirtual 129, 3) := by decide +kernel
theorem dX7_isLikeAbove_59 : decode cX7_isLikeAbove 59 = .ok (.if_icmp .eq 5, 3) := by decide +kernel
theorem dX7_isLikeAbove_62 : decode cX7_isLikeAbove 62 = .ok (.iconst 0, 1) := by decide +kernel
theorem dX7_isLikeAbove_63 : decode cX7_isLikeAbove 63 = .ok (.ireturn, 1) := by decide +kernel
theorem dX7_isLikeAbove_64 : decode cX7_isLikeAbove 64 = .ok (.iinc 2 1, 3) := by decide +kernel
theorem dX7_isLikeAbove_67 : decode cX7_isLikeAbove 67 = .ok (.goto (-45), 3) := by decide +kernel
theorem dX7_isLikeAbove_70 : decode cX7_isLikeAbove 70 = .ok (.iconst 1, 1) := by decide +kernel
theorem dX7_isLikeAbove_71 : decode cX7_isLikeAbove 71 = .ok (.ireturn, 1) := by decide +kernel
theorem dX7_paintRow_0 : decode cX7_paintRow 0 = .ok (.aload_n 0, 1) := by decide +kernel
theorem dX7_paintRow_1 : decode cX7_paintRow 1 = .ok (.aload_n 3, 1) := by decide +kernel
theorem dX7_paintRow_2 : decode cX7_paintRow 2 = .ok (.iconst 0, 1) := by decide +kernel
theorem dX7_paintRow_3 : decode cX7_paintRow 3 = .ok (.aload_n 0, 1) := by decide +kernel
theorem dX7_paintRow_4 : decode cX7_paintRow 4 = .ok (.getfield 22, 3) := by decide +kernel
theorem dX7_paintRow_7 : decode cX7_paintRow 7 = .ok (.getfield 90, 3) := by decide +kernel
theorem dX7_paintRow_10 : decode cX7_paintRow 10 = .ok (.aload_n 0, 1) := by decide +kernel
theorem dX7_paintRow_11 : decode cX7_paintRow 11 = .ok (.getfield 22, 3) := by decide +kernel
theorem dX7_paintRow_14 : decode cX7_paintRow 14 = .ok (.getfield 159, 3) := by decide +kernel
theorem dX7_paintRow_17 : decode cX7_paintRow 17 = .ok (.iconst 2, 1) := by decide +kernel
theorem dX7_paintRow_18 : decode cX7_paintRow 18 = .ok (.iaload, 1) := by decide +kernel
theorem dX7_paintRow_19 : decode cX7_paintRow 19 = .ok (.invokevirtual 199, 3) := by decide +kernel
theorem dX7_paintRow_22 : decode cX7_paintRow 22 = .ok (.iconst 0, 1) := by decide +kernel
theorem dX7_paintRow_23 : decode cX7_paintRow 23 = .ok (.istore 4, 2) := by decide +kernel
theorem dX7_paintRow_25 : decode cX7_paintRow 25 = .ok (.iload 4, 2) := by decide +kernel
theorem dX7_paintRow_27 : decode cX7_paintRow 27 = .ok (.aload_n 0, 1) := by decide +kernel
theorem dX7_paintRow_28 : decode cX7_paintRow 28 = .ok (.getfield 12, 3) := by decide +kernel
theorem dX7_paintRow_31 : decode cX7_paintRow 31 = .ok (.getfield 203, 3) := by decide +kernel
theorem dX7_paintRow_34 : decode cX7_paintRow 34 = .ok (.if_icmp .ge 75, 3) := by decide +kernel
theorem dX7_paintRow_37 : decode cX7_paintRow 37 = .ok (.aload_n 0, 1) := by decide +kernel
theorem dX7_paintRow_38 : decode cX7_paintRow 38 = .ok (.getfield 12, 3) := by decide +kernel
theorem dX7_paintRow_41 : decode cX7_paintRow 41 = .ok (.iload 4, 2) := by decide +kernel
theorem dX7_paintRow_43 : decode cX7_paintRow 43 = .ok (.invokevirtual 205, 3) := by decide +kernel
theorem dX7_paintRow_46 : decode cX7_paintRow 46 = .ok (.istore 5, 2) := by decide +kernel
theorem dX7_paintRow_48 : decode cX7_paintRow 48 = .ok (.aload_n 0, 1) := by decide +kernel
theorem dX7_paintRow_49 : decode cX7_paintRow 49 = .ok (.getfield 12, 3) := by decide +kernel
theorem dX7_paintRow_52 : decode cX7_paintRow 52 = .ok (.iload 5, 2) := by decide +kernel
theorem dX7_paintRow_54 : decode cX7_paintRow 54 = .ok (.iload_n 2, 1) := by decide +kernel
theorem dX7_paintRow_55 : decode cX7_paintRow 55 = .ok (.invokevirtual 129, 3) := by decide +kernel
theorem dX7_paintRow_58 : decode cX7_paintRow 58 = .ok (.ifCond .eq 45, 3) := by decide +kernel
theorem dX7_paintRow_61 : decode cX7_paintRow 61 = .ok (.aload_n 0, 1) := by decide +kernel
theorem dX7_paintRow_62 : decode cX7_paintRow 62 = .ok (.getfield 12, 3) := by decide +kernel
theorem dX7_paintRow_65 : decode cX7_paintRow 65 = .ok (.iload_n 1, 1) := by decide +kernel
theorem dX7_paintRow_66 : decode cX7_paintRow 66 = .ok (.iload 5, 2) := by decide +kernel
theorem dX7_paintRow_68 : decode cX7_paintRow 68 = .ok (.invokevirtual 133, 3) := by decide +kernel
theorem dX7_paintRow_71 : decode cX7_paintRow 71 = .ok (.istore 6, 2) := by decide +kernel
theorem dX7_paintRow_73 : decode cX7_paintRow 73 = .ok (.aload_n 0, 1) := by decide +kernel
theorem dX7_paintRow_74 : decode cX7_paintRow 74 = .ok (.aload_n 3, 1) := by decide +kernel
theorem dX7_paintRow_75 : decode cX7_paintRow 75 = .ok (.iload 6, 2) := by decide +kernel
theorem dX7_paintRow_77 : decode cX7_paintRow 77 = .ok (.iload 6, 2) := by decide +kernel
theorem dX7_paintRow_79 : decode cX7_paintRow 79 = .ok (.aload_n 0, 1) := by decide +kernel
theorem dX7_paintRow_80 : decode cX7_paintRow 80 = .ok (.getfield 29, 3) := by decide +kernel
theorem dX7_paintRow_83 : decode cX7_paintRow 83 = .ok (.getfield 83, 3) := by decide +kernel
theorem dX7_paintRow_86 : decode cX7_paintRow 86 = .ok (.iload 5, 2) := by decide +kernel
theorem dX7_paintRow_88 : decode cX7_paintRow 88 = .ok (.iaload, 1) := by decide +kernel
theorem dX7_paintRow_89 : decode cX7_paintRow 89 = .ok (.iadd, 1) := by decide +kernel
theorem dX7_paintRow_90 : decode cX7_paintRow 90 = .ok (.aload_n 0, 1) := by decide +kernel
theorem dX7_paintRow_91 : decode cX7_paintRow 91 = .ok (.getfield 29, 3) := by decide +kernel
theorem dX7_paintRow_94 : decode cX7_paintRow 94 = .ok (.getfield 168, 3) := by decide +kernel
theorem dX7_paintRow_97 : decode cX7_paintRow 97 = .ok (.iload 5, 2) := by decide +kernel
theorem dX7_paintRow_99 : decode cX7_paintRow 99 = .ok (.iaload, 1) := by decide +kernel
theorem dX7_paintRow_100 : decode cX7_paintRow 100 = .ok (.invokevirtual 199, 3) := by decide +kernel
theorem dX7_paintRow_103 : decode cX7_paintRow 103 = .ok (.iinc 4 1, 3) := by decide +kernel
theorem dX7_paintRow_106 : decode cX7_paintRow 106 = .ok (.goto (-81), 3) := by decide +kernel
theorem dX7_paintRow_109 : decode cX7_paintRow 109 = .ok (.iload_n 2, 1) := by decide +kernel
theorem dX7_paintRow_110 : decode cX7_paintRow 110 = .ok (.aload_n 0, 1) := by decide +kernel
theorem dX7_paintRow_111 : decode cX7_paintRow 111 = .ok (.getfield 92, 3) := by decide +kernel
theorem dX7_paintRow_114 : decode cX7_paintRow 114 = .ok (.if_icmp .ne 29, 3) := by decide +kernel
theorem dX7_paintRow_117 : decode cX7_paintRow 117 = .ok (.aload_n 0, 1) := by decide +kernel
theorem dX7_paintRow_118 : decode cX7_paintRow 118 = .ok (.iload_n 1, 1) := by decide +kernel
theorem dX7_paintRow_119 : decode cX7_paintRow 119 = .ok (.invokevirtual 136, 3) := by decide +kernel
theorem dX7_paintRow_122 : decode cX7_paintRow 122 = .ok (.istore 4, 2) := by decide +kernel
theorem dX7_paintRow_124 : decode cX7_paintRow 124 = .ok (.aload_n 0, 1) := by decide +kernel
theorem dX7_paintRow_125 : decode cX7_paintRow 125 = .ok (.aload_n 3, 1) := by decide +kernel
theorem dX7_paintRow_126 : decode cX7_paintRow 126 = .ok (.iload 4, 2) := by decide +kernel
theorem dX7_paintRow_128 : decode cX7_paintRow 128 = .ok (.iload 4, 2) := by decide +kernel
theorem dX7_paintRow_130 : decode cX7_paintRow 130 = .ok (.aload_n 0, 1) := by decide +kernel
theorem dX7_paintRow_131 : decode cX7_paintRow 131 = .ok (.getfield 22, 3) := by decide +kernel
theorem dX7_paintRow_134 : decode cX7_paintRow 134 = .ok (.getfield 98, 3) := by decide +kernel
theorem dX7_paintRow_137 : decode cX7_paintRow 137 = .ok (.iadd, 1) := by decide +kernel
theorem dX7_paintRow_138 : decode cX7_paintRow 138 = .ok (.bipush 15, 2) := by decide +kernel
theorem dX7_paintRow_140 : decode cX7_paintRow 140 = .ok (.invokevirtual 199, 3) := by decide +kernel
theorem dX7_paintRow_143 : decode cX7_paintRow 143 = .ok (.aload_n 0, 1) := by decide +kernel
theorem dX7_paintRow_144 : decode cX7_paintRow 144 = .ok (.aload_n 3, 1) := by decide +kernel
theorem dX7_paintRow_145 : decode cX7_paintRow 145 = .ok (.iconst 0, 1) := by decide +kernel
theorem dX7_paintRow_146 : decode cX7_paintRow 146 = .ok (.aload_n 0, 1) := by decide +kernel
theorem dX7_paintRow_147 : decode cX7_paintRow 147 = .ok (.iload_n 1, 1) := by decide +kernel
theorem dX7_paintRow_148 : decode cX7_paintRow 148 = .ok (.invokevirtual 123, 3) := by decide +kernel
theorem dX7_paintRow_151 : decode cX7_paintRow 151 = .ok (.iconst 0, 1) := by decide +kernel
theorem dX7_paintRow_152 : decode cX7_paintRow 152 = .ok (.invokevirtual 199, 3) := by decide +kernel
theorem dX7_paintRow_155 : decode cX7_paintRow 155 = .ok (.aload_n 0, 1) := by decide +kernel
theorem dX7_paintRow_156 : decode cX7_paintRow 156 = .ok (.aload_n 3, 1) := by decide +kernel
theorem dX7_paintRow_157 : decode cX7_paintRow 157 = .ok (.aload_n 0, 1) := by decide +kernel
theorem dX7_paintRow_158 : decode cX7_paintRow 158 = .ok (.iload_n 1, 1) := by decide +kernel
theorem dX7_paintRow_159 : decode cX7_paintRow 159 = .ok (.invokevirtual 126, 3) := by decide +kernel
theorem dX7_paintRow_162 : decode cX7_paintRow 162 = .ok (.aload_n 0, 1) := by decide +kernel
theorem dX7_paintRow_163 : decode cX7_paintRow 163 = .ok (.getfield 22, 3) := by decide +kernel
theorem dX7_paintRow_166 : decode cX7_paintRow 166 = .ok (.getfield 90, 3) := by decide +kernel
theorem dX7_paintRow_169 : decode cX7_paintRow 169 = .ok (.iconst 0, 1) := by decide +kernel
theorem dX7_paintRow_170 : decode cX7_paintRow 170 = .ok (.invokevirtual 199, 3) := by decide +kernel
theorem dX7_paintRow_173 : decode cX7_paintRow 173 = .ok (.return_, 1) := by decide +kernel
theorem dX7_fill_0 : decode cX7_fill 0 = .ok (.iload_n 3, 1) := by decide +kernel
theorem dX7_fill_1 : decode cX7_fill 1 = .ok (.aload_n 0, 1) := by decide +kernel
theorem dX7_fill_2 : decode cX7_fill 2 = .ok (.getfield 22, 3) := by decide +kernel
theorem dX7_fill_5 : decode cX7_fill 5 = .ok (.getfield 90, 3) := by decide +kernel
theorem dX7_fill_8 : decode cX7_fill 8 = .ok (.aload_n 1, 1) := by decide +kernel
theorem dX7_fill_9 : decode cX7_fill 9 = .ok (.arraylength, 1) := by decide +kernel
theorem dX7_fill_10 : decode cX7_fill 10 = .ok (.invokestatic 208, 3) := by decide +kernel
theorem dX7_fill_13 : decode cX7_fill 13 = .ok (.invokestatic 208, 3) := by decide +kernel
theorem dX7_fill_16 : decode cX7_fill 16 = .ok (.istore 5, 2) := by decide +kernel
theorem dX7_fill_18 : decode cX7_fill 18 = .ok (.iload_n 2, 1) := by decide +kernel
theorem dX7_fill_19 : decode cX7_fill 19 = .ok (.iconst 0, 1) := by decide +kernel
theorem dX7_fill_20 : decode cX7_fill 20 = .ok (.invokestatic 211, 3) := by decide +kernel
theorem dX7_fill_23 : decode cX7_fill 23 = .ok (.istore 6, 2) := by decide +kernel
theorem dX7_fill_25 : decode cX7_fill 25 = .ok (.iload 6, 2) := by decide +kernel
theorem dX7_fill_27 : decode cX7_fill 27 = .ok (.iload 5, 2) := by decide +kernel
theorem dX7_fill_29 : decode cX7_fill 29 = .ok (.if_icmp .ge 15, 3) := by decide +kernel
theorem dX7_fill_32 : decode cX7_fill 32 = .ok (.aload_n 1, 1) := by decide +kernel
theorem dX7_fill_33 : decode cX7_fill 33 = .ok (.iload 6, 2) := by decide +kernel
theorem dX7_fill_35 : decode cX7_fill 35 = .ok (.iload 4, 2) := by decide +kernel
theorem dX7_fill_37 : decode cX7_fill 37 = .ok (.iastore, 1) := by decide +kernel
theorem dX7_fill_38 : decode cX7_fill 38 = .ok (.iinc 6 1, 3) := by decide +kernel
theorem dX7_fill_41 : decode cX7_fill 41 = .ok (.goto (-16), 3) := by decide +kernel
theorem dX7_fill_44 : decode cX7_fill 44 = .ok (.return_, 1) := by decide +kernel
theorem dX9_init_0 : decode cX9_init 0 = .ok (.aload_n 0, 1) := by decide +kernel
theorem dX9_init_1 : decode cX9_init 1 = .ok (.invokespecial 1, 3) := by decide +kernel
theorem dX9_init_4 : decode cX9_init 4 = .ok (.aload_n 0, 1) := by decide +kernel
theorem dX9_init_5 : decode cX9_init 5 = .ok (.new 7, 3) := by decide +kernel
theorem dX9_init_8 : decode cX9_init 8 = .ok (.dup, 1) := by decide +kernel
theorem dX9_init_9 : decode cX9_init 9 = .ok (.invokespecial 9, 3) := by decide +kernel
theorem dX9_init_12 : decode cX9_init 12 = .ok (.putfield 10, 3) := by decide +kernel
theorem dX9_init_15 : decode cX9_init 15 = .ok (.aload_n 0, 1) := by decide +kernel
theorem dX9_init_16 : decode cX9_init 16 = .ok (.aload_n 0, 1) := by decide +kernel
theorem dX9_init_17 : decode cX9_init 17 = .ok (.getfield 10, 3) := by decide +kernel
theorem dX9_init_20 : decode cX9_init 20 = .ok (.getfield 16, 3) := by decide +kernel
theorem dX9_init_23 : decode cX9_init 23 = .ok (.putfield 20, 3) := by decide +kernel
theorem dX9_init_26 : decode cX9_init 26 = .ok (.aload_n 0, 1) := by decide +kernel
theorem dX9_init_27 : decode cX9_init 27 = .ok (.new 7, 3) := by decide +kernel
theorem dX9_init_30 : decode cX9_init 30 = .ok (.dup, 1) := by decide +kernel
theorem dX9_init_31 : decode cX9_init 31 = .ok (.invokespecial 9, 3) := by decide +kernel
theorem dX9_init_34 : decode cX9_init 34 = .ok (.putfield 21, 3) := by decide +kernel
theorem dX9_init_37 : decode cX9_init 37 = .ok (.aload_n 0, 1) := by decide +kernel
theorem dX9_init_38 : decode cX9_init 38 = .ok (.aload_n 0, 1) := by decide +kernel
theorem dX9_init_39 : decode cX9_init 39 = .ok (.getfield 21, 3) := by decide +kernel
theorem dX9_init_42 : decode cX9_init 42 = .ok (.getfield 16, 3) := by decide +kernel
theorem dX9_init_45 : decode cX9_init 45 = .ok (.putfield 24, 3) := by decide +kernel
theorem dX9_init_48 : decode cX9_init 48 = .ok (.aload_n 0, 1) := by decide +kernel
theorem dX9_init_49 : decode cX9_init 49 = .ok (.new 27, 3) := by decide +kernel
theorem dX9_init_52 : decode cX9_init 52 = .ok (.dup, 1) := by decide +kernel
theorem dX9_init_53 : decode cX9_init 53 = .ok (.invokespecial 29, 3) := by decide +kernel
theorem dX9_init_56 : decode cX9_init 56 = .ok (.putfield 30, 3) := by decide +kernel
theorem dX9_init_59 : decode cX9_init 59 = .ok (.aload_n 0, 1) := by decide +kernel
theorem dX9_init_60 : decode cX9_init 60 = .ok (.new 34, 3) := by decide +kernel
theorem dX9_init_63 : decode cX9_init 63 = .ok (.dup, 1) := by decide +kernel
theorem dX9_init_64 : decode cX9_init 64 = .ok (.invokespecial 36, 3) := by decide +kernel
theorem dX9_init_67 : decode cX9_init 67 = .ok (.putfield 37, 3) := by decide +kernel
theorem dX9_init_70 : decode cX9_init 70 = .ok (.aload_n 0, 1) := by decide +kernel
theorem dX9_init_71 : decode cX9_init 71 = .ok (.iconst 1, 1) := by decide +kernel
theorem dX9_init_72 : decode cX9_init 72 = .ok (.putfield 41, 3) := by decide +kernel
theorem dX9_init_75 : decode cX9_init 75 = .ok (.return_, 1) := by decide +kernel
theorem dX9_begin_0 : decode cX9_begin 0 = .ok (.aload_n 0, 1) := by decide +kernel
theorem dX9_begin_1 : decode cX9_begin 1 = .ok (.getfield 20, 3) := by decide +kernel
theorem dX9_begin_4 : decode cX9_begin 4 = .ok (.iload_n 1, 1) := by decide +kernel
theorem dX9_begin_5 : decode cX9_begin 5 = .ok (.iload_n 2, 1) := by decide +kernel
theorem dX9_begin_6 : decode cX9_begin 6 = .ok (.invokevirtual 45, 3) := by decide +kernel
theorem dX9_begin_9 : decode cX9_begin 9 = .ok (.invokestatic 51, 3) := by decide +kernel
theorem dX9_begin_12 : decode cX9_begin 12 = .ok (.aload_n 0, 1) := by decide +kernel
theorem dX9_begin_13 : decode cX9_begin 13 = .ok (.invokevirtual 55, 3) := by decide +kernel
theorem dX9_begin_16 : decode cX9_begin 16 = .ok (.aload_n 0, 1) := by decide +kernel
theorem dX9_begin_17 : decode cX9_begin 17 = .ok (.getfield 20, 3) := by decide +kernel
theorem dX9_begin_20 : decode cX9_begin 20 = .ok (.iload_n 1, 1) := by decide +kernel
theorem dX9_begin_21 : decode cX9_begin 21 = .ok (.iload_n 2, 1) := by decide +kernel
theorem dX9_begin_22 : decode cX9_begin 22 = .ok (.invokevirtual 58, 3) := by decide +kernel
theorem dX9_begin_25 : decode cX9_begin 25 = .ok (.ireturn, 1) := by decide +kernel
theorem dX9_addGroup_0 : decode cX9_addGroup 0 = .ok (.aload_n 0, 1) := by decide +kernel
theorem dX9_addGroup_1 : decode cX9_addGroup 1 = .ok (.getfield 20, 3) := by decide +kernel
theorem dX9_addGroup_4 : decode cX9_addGroup 4 = .ok (.getfield 61, 3) := by decide +kernel
theorem dX9_addGroup_7 : decode cX9_addGroup 7 = .ok (.iload_n 1, 1) := by decide +kernel
theorem dX9_addGroup_8 : decode cX9_addGroup 8 = .ok (.iload_n 2, 1) := by decide +kernel
theorem dX9_addGroup_9 : decode cX9_addGroup 9 = .ok (.iload_n 3, 1) := by decide +kernel
theorem dX9_addGroup_10 : decode cX9_addGroup 10 = .ok (.iload 4, 2) := by decide +kernel
theorem dX9_addGroup_12 : decode cX9_addGroup 12 = .ok (.invokevirtual 65, 3) := by decide +kernel
theorem dX9_addGroup_15 : decode cX9_addGroup 15 = .ok (.invokestatic 51, 3) := by decide +kernel
theorem dX9_addGroup_18 : decode cX9_addGroup 18 = .ok (.aload_n 0, 1) := by decide +kernel
theorem dX9_addGroup_19 : decode cX9_addGroup 19 = .ok (.invokevirtual 55, 3) := by decide +kernel
theorem dX9_addGroup_22 : decode cX9_addGroup 22 = .ok (.aload_n 0, 1) := by decide +kernel
theorem dX9_addGroup_23 : decode cX9_addGroup 23 = .ok (.getfield 20, 3) := by decide +kernel
theorem dX9_addGroup_26 : decode cX9_addGroup 26 = .ok (.getfield 61, 3) := by decide +kernel
theorem dX9_addGroup_29 : decode cX9_addGroup 29 = .ok (.iload_n 1, 1) := by decide +kernel
theorem dX9_addGroup_30 : decode cX9_addGroup 30 = .ok (.iload_n 2, 1) := by decide +kernel
theorem dX9_addGroup_31 : decode cX9_addGroup 31 = .ok (.iload_n 3, 1) := by decide +kernel
theorem dX9_addGroup_32 : decode cX9_addGroup 32 = .ok (.iload 4, 2) := by decide +kernel
theorem dX9_addGroup_34 : decode cX9_addGroup 34 = .ok (.invokevirtual 71, 3) := by decide +kernel
theorem dX9_addGroup_37 : decode cX9_addGroup 37 = .ok (.ireturn, 1) := by decide +kernel
theorem dX9_addBox_0 : decode cX9_addBox 0 = .ok (.aload_n 0, 1) := by decide +kernel
theorem dX9_addBox_1 : decode cX9_addBox 1 = .ok (.getfield 20, 3) := by decide +kernel
theorem dX9_addBox_4 : decode cX9_addBox 4 = .ok (.getfield 61, 3) := by decide +kernel
theorem dX9_addBox_7 : decode cX9_addBox 7 = .ok (.iload_n 1, 1) := by decide +kernel
theorem dX9_addBox_8 : decode cX9_addBox 8 = .ok (.iload_n 2, 1) := by decide +kernel
theorem dX9_addBox_9 : decode cX9_addBox 9 = .ok (.iload_n 3, 1) := by decide +kernel
theorem dX9_addBox_10 : decode cX9_addBox 10 = .ok (.iload 4, 2) := by decide +kernel
theorem dX9_addBox_12 : decode cX9_addBox 12 = .ok (.iload 5, 2) := by decide +kernel
theorem dX9_addBox_14 : decode cX9_addBox 14 = .ok (.iload 6, 2) := by decide +kernel
theorem dX9_addBox_16 : decode cX9_addBox 16 = .ok (.invokevirtual 74, 3) := by decide +kernel
theorem dX9_addBox_19 : decode cX9_addBox 19 = .ok (.invokestatic 51, 3) := by decide +kernel
theorem dX9_addBox_22 : decode cX9_addBox 22 = .ok (.aload_n 0, 1) := by decide +kernel
theorem dX9_addBox_23 : decode cX9_addBox 23 = .ok (.invokevirtual 55, 3) := by decide +kernel
theorem dX9_addBox_26 : decode cX9_addBox 26 = .ok (.aload_n 0, 1) := by decide +kernel
theorem dX9_addBox_27 : decode cX9_addBox 27 = .ok (.getfield 20, 3) := by decide +kernel
theorem dX9_addBox_30 : decode cX9_addBox 30 = .ok (.getfield 61, 3) := by decide +kernel
theorem dX9_addBox_33 : decode cX9_addBox 33 = .ok (.iload_n 1, 1) := by decide +kernel
theorem dX9_addBox_34 : decode cX9_addBox 34 = .ok (.iload_n 2, 1) := by decide +kernel
theorem dX9_addBox_35 : decode cX9_addBox 35 = .ok (.iload_n 3, 1) := by decide +kernel
theorem dX9_addBox_36 : decode cX9_addBox 36 = .ok (.iload 4, 2) := by decide +kernel
theorem dX9_addBox_38 : decode cX9_addBox 38 = .ok (.iload 5, 2) := by decide +kernel
theorem dX9_addBox_40 : decode cX9_addBox 40 = .ok (.iload 6, 2) := by decide +kernel
theorem dX9_addBox_42 : decode cX9_addBox 42 = .ok (.invokevirtual 78, 3) := by decide +kernel
theorem dX9_addBox_45 : decode cX9_addBox 45 = .ok (.ireturn, 1) := by decide +kernel
theorem dX9_move_0 : decode cX9_move 0 = .ok (.aload_n 0, 1) := by decide +kernel
theorem dX9_move_1 : decode cX9_move 1 = .ok (.getfield 20, 3) := by decide +kernel
theorem dX9_move_4 : decode cX9_move 4 = .ok (.getfield 61, 3) := by decide +kernel
theorem dX9_move_7 : decode cX9_move 7 = .ok (.iload_n 1, 1) := by decide +kernel
theorem dX9_move_8 : decode cX9_move 8 = .ok (.iload_n 2, 1) := by decide +kernel
theorem dX9_move_9 : decode cX9_move 9 = .ok (.iload_n 3, 1) := by decide +kernel
theorem dX9_move_10 : decode cX9_move 10 = .ok (.iload 4, 2) := by decide +kernel
theorem dX9_move_12 : decode cX9_move 12 = .ok (.invokevirtual 81, 3) := by decide +kernel
theorem dX9_move_15 : decode cX9_move 15 = .ok (.invokestatic 51, 3) := by decide +kernel
theorem dX9_move_18 : decode cX9_move 18 = .ok (.aload_n 0, 1) := by decide +kernel
theorem dX9_move_19 : decode cX9_move 19 = .ok (.invokevirtual 55, 3) := by decide +kernel
theorem dX9_move_22 : decode cX9_move 22 = .ok (.aload_n 0, 1) := by decide +kernel
theorem dX9_move_23 : decode cX9_move 23 = .ok (.getfield 20, 3) := by decide +kernel
theorem dX9_move_26 : decode cX9_move 26 = .ok (.getfield 61, 3) := by decide +kernel
theorem dX9_move_29 : decode cX9_move 29 = .ok (.iload_n 1, 1) := by decide +kernel
theorem dX9_move_30 : decode cX9_move 30 = .ok (.iload_n 2, 1) := by decide +kernel
theorem dX9_move_31 : decode cX9_move 31 = .ok (.iload_n 3, 1) := by decide +kernel
theorem dX9_move_32 : decode cX9_move 32 = .ok (.iload 4, 2) := by decide +kernel
theorem dX9_move_34 : decode cX9_move 34 = .ok (.invokevirtual 84, 3) := by decide +kernel
theorem dX9_move_37 : decode cX9_move 37 = .ok (.ireturn, 1) := by decide +kernel
theorem dX9_setShade_0 : decode cX9_setShade 0 = .ok (.aload_n 0, 1) := by decide +kernel
theorem dX9_setShade_1 : decode cX9_setShade 1 = .ok (.getfield 20, 3) := by decide +kernel
theorem dX9_setShade_4 : decode cX9_setShade 4 = .ok (.getfield 61, 3) := by decide +kernel
theorem dX9_setShade_7 : decode cX9_setShade 7 = .ok (.iload_n 1, 1) := by decide +kernel
theorem dX9_setShade_8 : decode cX9_setShade 8 = .ok (.iload_n 2, 1) := by decide +kernel
theorem dX9_setShade_9 : decode cX9_setShade 9 = .ok (.invokevirtual 87, 3) := by decide +kernel
theorem dX9_setShade_12 : decode cX9_setShade 12 = .ok (.invokestatic 51, 3) := by decide +kernel
theorem dX9_setShade_15 : decode cX9_setShade 15 = .ok (.aload_n 0, 1) := by decide +kernel
theorem dX9_setShade_16 : decode cX9_setShade 16 = .ok (.invokevirtual 55, 3) := by decide +kernel
theorem dX9_setShade_19 : decode cX9_setShade 19 = .ok (.aload_n 0, 1) := by decide +kernel
theorem dX9_setShade_20 : decode cX9_setShade 20 = .ok (.getfield 20, 3) := by decide +kernel
theorem dX9_setShade_23 : decode cX9_setShade 23 = .ok (.getfield 61, 3) := by decide +kernel
theorem dX9_setShade_26 : decode cX9_setShade 26 = .ok (.iload_n 1, 1) := by decide +kernel
theorem dX9_setShade_27 : decode cX9_setShade 27 = .ok (.iload_n 2, 1) := by decide +kernel
theorem dX9_setShade_28 : decode cX9_setShade 28 = .ok (.invokevirtual 90, 3) := by decide +kernel
theorem dX9_setShade_31 : decode cX9_setShade 31 = .ok (.ireturn, 1) := by decide +kernel
theorem dX9_removeNode_0 : decode cX9_removeNode 0 = .ok (.aload_n 0, 1) := by decide +kernel
theorem dX9_removeNode_1 : decode cX9_removeNode 1 = .ok (.getfield 20, 3) := by decide +kernel
theorem dX9_removeNode_4 : decode cX9_removeNode 4 = .ok (.getfield 61, 3) := by decide +kernel
theorem dX9_removeNode_7 : decode cX9_removeNode 7 = .ok (.iload_n 1, 1) := by decide +kernel
theorem dX9_removeNode_8 : decode cX9_removeNode 8 = .ok (.invokevirtual 93, 3) := by decide +kernel
theorem dX9_removeNode_11 : decode cX9_removeNode 11 = .ok (.invokestatic 51, 3) := by decide +kernel
theorem dX9_removeNode_14 : decode cX9_removeNode 14 = .ok (.aload_n 0, 1) := by decide +kernel
theorem dX9_removeNode_15 : decode cX9_removeNode 15 = .ok (.invokevirtual 55, 3) := by decide +kernel
theorem dX9_removeNode_18 : decode cX9_removeNode 18 = .ok (.aload_n 0, 1) := by decide +kernel
theorem dX9_removeNode_19 : decode cX9_removeNode 19 = .ok (.getfield 20, 3) := by decide +kernel
theorem dX9_removeNode_22 : decode cX9_removeNode 22 = .ok (.getfield 61, 3) := by decide +kernel
theorem dX9_removeNode_25 : decode cX9_removeNode 25 = .ok (.iload_n 1, 1) := by decide +kernel
theorem dX9_removeNode_26 : decode cX9_removeNode 26 = .ok (.invokevirtual 97, 3) := by decide +kernel
theorem dX9_removeNode_29 : decode cX9_removeNode 29 = .ok (.ireturn, 1) := by decide +kernel
theorem dX9_addScene_0 : decode cX9_addScene 0 = .ok (.aload_n 0, 1) := by decide +kernel
theorem dX9_addScene_1 : decode cX9_addScene 1 = .ok (.getfield 20, 3) := by decide +kernel
theorem dX9_addScene_4 : decode cX9_addScene 4 = .ok (.getfield 100, 3) := by decide +kernel
theorem dX9_addScene_7 : decode cX9_addScene 7 = .ok (.iload_n 1, 1) := by decide +kernel
theorem dX9_addScene_8 : decode cX9_addScene 8 = .ok (.iload_n 2, 1) := by decide +kernel
theorem dX9_addScene_9 : decode cX9_addScene 9 = .ok (.iload_n 3, 1) := by decide +kernel
theorem dX9_addScene_10 : decode cX9_addScene 10 = .ok (.invokevirtual 104, 3) := by decide +kernel
theorem dX9_addScene_13 : decode cX9_addScene 13 = .ok (.invokestatic 51, 3) := by decide +kernel
theorem dX9_addScene_16 : decode cX9_addScene 16 = .ok (.aload_n 0, 1) := by decide +kernel
theorem dX9_addScene_17 : decode cX9_addScene 17 = .ok (.invokevirtual 55, 3) := by decide +kernel
theorem dX9_addScene_20 : decode cX9_addScene 20 = .ok (.aload_n 0, 1) := by decide +kernel
theorem dX9_addScene_21 : decode cX9_addScene 21 = .ok (.getfield 20, 3) := by decide +kernel
theorem dX9_addScene_24 : decode cX9_addScene 24 = .ok (.getfield 100, 3) := by decide +kernel
theorem dX9_addScene_27 : decode cX9_addScene 27 = .ok (.iload_n 1, 1) := by decide +kernel
theorem dX9_addScene_28 : decode cX9_addScene 28 = .ok (.iload_n 2, 1) := by decide +kernel
theorem dX9_addScene_29 : decode cX9_addScene 29 = .ok (.iload_n 3, 1) := by decide +kernel
theorem dX9_addScene_30 : decode cX9_addScene 30 = .ok (.invokevirtual 110, 3) := by decide +kernel
theorem dX9_addScene_33 : decode cX9_addScene 33 = .ok (.ireturn, 1) := by decide +kernel
theorem dX9_set_0 : decode cX9_set 0 = .ok (.aload_n 0, 1) := by decide +kernel
theorem dX9_set_1 : decode cX9_set 1 = .ok (.getfield 20, 3) := by decide +kernel
theorem dX9_set_4 : decode cX9_set 4 = .ok (.iload_n 1, 1) := by decide +kernel
theorem dX9_set_5 : decode cX9_set 5 = .ok (.iload_n 2, 1) := by decide +kernel
theorem dX9_set_6 : decode cX9_set 6 = .ok (.invokevirtual 113, 3) := by decide +kernel
theorem dX9_set_9 : decode cX9_set 9 = .ok (.invokestatic 51, 3) := by decide +kernel
theorem dX9_set_12 : decode cX9_set 12 = .ok (.aload_n 0, 1) := by decide +kernel
theorem dX9_set_13 : decode cX9_set 13 = .ok (.invokevirtual 55, 3) := by decide +kernel
theorem dX9_set_16 : decode cX9_set 16 = .ok (.aload_n 0, 1) := by decide +kernel
theorem dX9_set_17 : decode cX9_set 17 = .ok (.getfield 20, 3) := by decide +kernel
theorem dX9_set_20 : decode cX9_set 20 = .ok (.iload_n 1, 1) := by decide +kernel
theorem dX9_set_21 : decode cX9_set 21 = .ok (.iload_n 2, 1) := by decide +kernel
theorem dX9_set_22 : decode cX9_set 22 = .ok (.invokevirtual 116, 3) := by decide +kernel
theorem dX9_set_25 : decode cX9_set 25 = .ok (.ireturn, 1) := by decide +kernel
theorem dX9_setTitle_0 : decode cX9_setTitle 0 = .ok (.aload_n 0, 1) := by decide +kernel
theorem dX9_setTitle_1 : decode cX9_setTitle 1 = .ok (.getfield 20, 3) := by decide +kernel
theorem dX9_setTitle_4 : decode cX9_setTitle 4 = .ok (.iload_n 1, 1) := by decide +kernel
theorem dX9_setTitle_5 : decode cX9_setTitle 5 = .ok (.iload_n 2, 1) := by decide +kernel
theorem dX9_setTitle_6 : decode cX9_setTitle 6 = .ok (.iload_n 3, 1) := by decide +kernel
theorem dX9_setTitle_7 : decode cX9_setTitle 7 = .ok (.invokevirtual 119, 3) := by decide +kernel
theorem dX9_setTitle_10 : decode cX9_setTitle 10 = .ok (.invokestatic 51, 3) := by decide +kernel
theorem dX9_setTitle_13 : decode cX9_setTitle 13 = .ok (.aload_n 0, 1) := by decide +kernel
theorem dX9_setTitle_14 : decode cX9_setTitle 14 = .ok (.invokevirtual 55, 3) := by decide +kernel
theorem dX9_setTitle_17 : decode cX9_setTitle 17 = .ok (.aload_n 0, 1) := by decide +kernel
theorem dX9_setTitle_18 : decode cX9_setTitle 18 = .ok (.getfield 20, 3) := by decide +kernel
theorem dX9_setTitle_21 : decode cX9_setTitle 21 = .ok (.iload_n 1, 1) := by decide +kernel
theorem dX9_setTitle_22 : decode cX9_setTitle 22 = .ok (.iload_n 2, 1) := by decide +kernel
theorem dX9_setTitle_23 : decode cX9_setTitle 23 = .ok (.iload_n 3, 1) := by decide +kernel
theorem dX9_setTitle_24 : decode cX9_setTitle 24 = .ok (.invokevirtual 122, 3) := by decide +kernel
theorem dX9_setTitle_27 : decode cX9_setTitle 27 = .ok (.ireturn, 1) := by decide +kernel
theorem dX9_clearTitle_0 : decode cX9_clearTitle 0 = .ok (.aload_n 0, 1) := by decide +kernel
theorem dX9_clearTitle_1 : decode cX9_clearTitle 1 = .ok (.invokevirtual 55, 3) := by decide +kernel
theorem dX9_clearTitle_4 : decode cX9_clearTitle 4 = .ok (.aload_n 0, 1) := by decide +kernel
theorem dX9_clearTitle_5 : decode cX9_clearTitle 5 = .ok (.getfield 20, 3) := by decide +kernel
theorem dX9_clearTitle_8 : decode cX9_clearTitle 8 = .ok (.iconst 0, 1) := by decide +kernel
theorem dX9_clearTitle_9 : decode cX9_clearTitle 9 = .ok (.iconst 0, 1) := by decide +kernel
theorem dX9_clearTitle_10 : decode cX9_clearTitle 10 = .ok (.iconst 0, 1) := by decide +kernel
theorem dX9_clearTitle_11 : decode cX9_clearTitle 11 = .ok (.invokevirtual 122, 3) := by decide +kernel
theorem dX9_clearTitle_14 : decode cX9_clearTitle 14 = .ok (.ireturn, 1) := by decide +kernel
theorem dX9_tick_0 : decode cX9_tick 0 = .ok (.aload_n 0, 1) := by decide +kernel
theorem dX9_tick_1 : decode cX9_tick 1 = .ok (.getfield 20, 3) := by decide +kernel
theorem dX9_tick_4 : decode cX9_tick 4 = .ok (.iload_n 1, 1) := by decide +kernel
theorem dX9_tick_5 : decode cX9_tick 5 = .ok (.invokevirtual 125, 3) := by decide +kernel
theorem dX9_tick_8 : decode cX9_tick 8 = .ok (.invokestatic 51, 3) := by decide +kernel
theorem dX9_tick_11 : decode cX9_tick 11 = .ok (.aload_n 0, 1) := by decide +kernel
theorem dX9_tick_12 : decode cX9_tick 12 = .ok (.invokevirtual 55, 3) := by decide +kernel
theorem dX9_tick_15 : decode cX9_tick 15 = .ok (.aload_n 0, 1) := by decide +kernel
theorem dX9_tick_16 : decode cX9_tick 16 = .ok (.getfield 20, 3) := by decide +kernel
theorem dX9_tick_19 : decode cX9_tick 19 = .ok (.iload_n 1, 1) := by decide +kernel
theorem dX9_tick_20 : decode cX9_tick 20 = .ok (.invokevirtual 128, 3) := by decide +kernel
theorem dX9_tick_23 : decode cX9_tick 23 = .ok (.ireturn, 1) := by decide +kernel
theorem dX9_node_0 : decode cX9_node 0 = .ok (.aload_n 0, 1) := by decide +kernel
theorem dX9_node_1 : decode cX9_node 1 = .ok (.getfield 20, 3) := by decide +kernel
theorem dX9_node_4 : decode cX9_node 4 = .ok (.getfield 61, 3) := by decide +kernel
theorem dX9_node_7 : decode cX9_node 7 = .ok (.iload_n 1, 1) := by decide +kernel
theorem dX9_node_8 : decode cX9_node 8 = .ok (.invokevirtual 93, 3) := by decide +kernel
theorem dX9_node_11 : decode cX9_node 11 = .ok (.invokestatic 51, 3) := by decide +kernel
theorem dX9_node_14 : decode cX9_node 14 = .ok (.iload_n 2, 1) := by decide +kernel
theorem dX9_node_15 : decode cX9_node 15 = .ok (.iconst 0, 1) := by decide +kernel
theorem dX9_node_16 : decode cX9_node 16 = .ok (.bipush 15, 2) := by decide +kernel
theorem dX9_node_18 : decode cX9_node 18 = .ok (.invokestatic 131, 3) := by decide +kernel
theorem dX9_node_21 : decode cX9_node 21 = .ok (.invokestatic 51, 3) := by decide +kernel
theorem dX9_node_24 : decode cX9_node 24 = .ok (.aload_n 0, 1) := by decide +kernel
theorem dX9_node_25 : decode cX9_node 25 = .ok (.invokevirtual 134, 3) := by decide +kernel
theorem dX9_node_28 : decode cX9_node 28 = .ok (.getfield 138, 3) := by decide +kernel
theorem dX9_node_31 : decode cX9_node 31 = .ok (.iload_n 1, 1) := by decide +kernel
theorem dX9_node_32 : decode cX9_node 32 = .ok (.iload_n 2, 1) := by decide +kernel
theorem dX9_node_33 : decode cX9_node 33 = .ok (.invokevirtual 142, 3) := by decide +kernel
theorem dX9_node_36 : decode cX9_node 36 = .ok (.ireturn, 1) := by decide +kernel
theorem dX9_painted_0 : decode cX9_painted 0 = .ok (.iload_n 1, 1) := by decide +kernel
theorem dX9_painted_1 : decode cX9_painted 1 = .ok (.ifCond .ge 7, 3) := by decide +kernel
theorem dX9_painted_4 : decode cX9_painted 4 = .ok (.iconst 2, 1) := by decide +kernel
theorem dX9_painted_5 : decode cX9_painted 5 = .ok (.goto 4, 3) := by decide +kernel
theorem dX9_painted_8 : decode cX9_painted 8 = .ok (.iconst 0, 1) := by decide +kernel
theorem dX9_painted_9 : decode cX9_painted 9 = .ok (.invokestatic 51, 3) := by decide +kernel
theorem dX9_painted_12 : decode cX9_painted 12 = .ok (.aload_n 0, 1) := by decide +kernel
theorem dX9_painted_13 : decode cX9_painted 13 = .ok (.invokevirtual 134, 3) := by decide +kernel
theorem dX9_painted_16 : decode cX9_painted 16 = .ok (.getfield 138, 3) := by decide +kernel
theorem dX9_painted_19 : decode cX9_painted 19 = .ok (.iload_n 1, 1) := by decide +kernel
theorem dX9_painted_20 : decode cX9_painted 20 = .ok (.invokevirtual 147, 3) := by decide +kernel
theorem dX9_painted_23 : decode cX9_painted 23 = .ok (.ireturn, 1) := by decide +kernel
theorem dX9_scene_0 : decode cX9_scene 0 = .ok (.aload_n 0, 1) := by decide +kernel
theorem dX9_scene_1 : decode cX9_scene 1 = .ok (.getfield 20, 3) := by decide +kernel
theorem dX9_scene_4 : decode cX9_scene 4 = .ok (.getfield 100, 3) := by decide +kernel
theorem dX9_scene_7 : decode cX9_scene 7 = .ok (.iload_n 1, 1) := by decide +kernel
theorem dX9_scene_8 : decode cX9_scene 8 = .ok (.invokevirtual 150, 3) := by decide +kernel
theorem dX9_scene_11 : decode cX9_scene 11 = .ok (.ifCond .eq 7, 3) := by decide +kernel
theorem dX9_scene_14 : decode cX9_scene 14 = .ok (.iconst 0, 1) := by decide +kernel
theorem dX9_scene_15 : decode cX9_scene 15 = .ok (.goto 4, 3) := by decide +kernel
theorem dX9_scene_18 : decode cX9_scene 18 = .ok (.iconst 1, 1) := by decide +kernel
theorem dX9_scene_19 : decode cX9_scene 19 = .ok (.invokestatic 51, 3) := by decide +kernel
theorem dX9_scene_22 : decode cX9_scene 22 = .ok (.iload_n 2, 1) := by decide +kernel
theorem dX9_scene_23 : decode cX9_scene 23 = .ok (.iconst 0, 1) := by decide +kernel
theorem dX9_scene_24 : decode cX9_scene 24 = .ok (.iconst 3, 1) := by decide +kernel
theorem dX9_scene_25 : decode cX9_scene 25 = .ok (.invokestatic 131, 3) := by decide +kernel
theorem dX9_scene_28 : decode cX9_scene 28 = .ok (.invokestatic 51, 3) := by decide +kernel
theorem dX9_scene_31 : decode cX9_scene 31 = .ok (.aload_n 0, 1) := by decide +kernel
theorem dX9_scene_32 : decode cX9_scene 32 = .ok (.getfield 20, 3) := by decide +kernel
theorem dX9_scene_35 : decode cX9_scene 35 = .ok (.getfield 100, 3) := by decide +kernel
theorem dX9_scene_38 : decode cX9_scene 38 = .ok (.iload_n 1, 1) := by decide +kernel
theorem dX9_scene_39 : decode cX9_scene 39 = .ok (.iload_n 2, 1) := by decide +kernel
theorem dX9_scene_40 : decode cX9_scene 40 = .ok (.invokevirtual 154, 3) := by decide +kernel
theorem dX9_scene_43 : decode cX9_scene 43 = .ok (.ireturn, 1) := by decide +kernel
theorem dX9_title_0 : decode cX9_title 0 = .ok (.iload_n 1, 1) := by decide +kernel
theorem dX9_title_1 : decode cX9_title 1 = .ok (.iconst 0, 1) := by decide +kernel
theorem dX9_title_2 : decode cX9_title 2 = .ok (.bipush 6, 2) := by decide +kernel
theorem dX9_title_4 : decode cX9_title 4 = .ok (.invokestatic 131, 3) := by decide +kernel
theorem dX9_title_7 : decode cX9_title 7 = .ok (.invokestatic 51, 3) := by decide +kernel
theorem dX9_title_10 : decode cX9_title 10 = .ok (.aload_n 0, 1) := by decide +kernel
theorem dX9_title_11 : decode cX9_title 11 = .ok (.invokevirtual 134, 3) := by decide +kernel
theorem dX9_title_14 : decode cX9_title 14 = .ok (.iload_n 1, 1) := by decide +kernel
theorem dX9_title_15 : decode cX9_title 15 = .ok (.invokevirtual 155, 3) := by decide +kernel
theorem dX9_title_18 : decode cX9_title 18 = .ok (.ireturn, 1) := by decide +kernel
theorem dX9_whole_0 : decode cX9_whole 0 = .ok (.iload_n 1, 1) := by decide +kernel
theorem dX9_whole_1 : decode cX9_whole 1 = .ok (.iconst 0, 1) := by decide +kernel
theorem dX9_whole_2 : decode cX9_whole 2 = .ok (.bipush 15, 2) := by decide +kernel
theorem dX9_whole_4 : decode cX9_whole 4 = .ok (.invokestatic 131, 3) := by decide +kernel
theorem dX9_whole_7 : decode cX9_whole 7 = .ok (.invokestatic 51, 3) := by decide +kernel
theorem dX9_whole_10 : decode cX9_whole 10 = .ok (.aload_n 0, 1) := by decide +kernel
theorem dX9_whole_11 : decode cX9_whole 11 = .ok (.invokevirtual 134, 3) := by decide +kernel
theorem dX9_whole_14 : decode cX9_whole 14 = .ok (.iload_n 1, 1) := by decide +kernel
theorem dX9_whole_15 : decode cX9_whole 15 = .ok (.invokevirtual 158, 3) := by decide +kernel
theorem dX9_whole_18 : decode cX9_whole 18 = .ok (.ireturn, 1) := by decide +kernel
theorem dX9_shade_0 : decode cX9_shade 0 = .ok (.aload_n 0, 1) := by decide +kernel
theorem dX9_shade_1 : decode cX9_shade 1 = .ok (.getfield 20, 3) := by decide +kernel
theorem dX9_shade_4 : decode cX9_shade 4 = .ok (.iload_n 2, 1) := by decide +kernel
theorem dX9_shade_5 : decode cX9_shade 5 = .ok (.iload_n 3, 1) := by decide +kernel
theorem dX9_shade_6 : decode cX9_shade 6 = .ok (.invokevirtual 161, 3) := by decide +kernel
theorem dX9_shade_9 : decode cX9_shade 9 = .ok (.invokestatic 51, 3) := by decide +kernel
theorem dX9_shade_12 : decode cX9_shade 12 = .ok (.aload_n 0, 1) := by decide +kernel
theorem dX9_shade_13 : decode cX9_shade 13 = .ok (.invokevirtual 134, 3) := by decide +kernel
theorem dX9_shade_16 : decode cX9_shade 16 = .ok (.iload_n 1, 1) := by decide +kernel
theorem dX9_shade_17 : decode cX9_shade 17 = .ok (.iload_n 2, 1) := by decide +kernel
theorem dX9_shade_18 : decode cX9_shade 18 = .ok (.iload_n 3, 1) := by decide +kernel
theorem dX9_shade_19 : decode cX9_shade 19 = .ok (.invokevirtual 164, 3) := by decide +kernel
theorem dX9_shade_22 : decode cX9_shade 22 = .ok (.ireturn, 1) := by decide +kernel
theorem dX9_shown_0 : decode cX9_shown 0 = .ok (.aload_n 0, 1) := by decide +kernel
theorem dX9_shown_1 : decode cX9_shown 1 = .ok (.getfield 20, 3) := by decide +kernel
theorem dX9_shown_4 : decode cX9_shown 4 = .ok (.iload_n 2, 1) := by decide +kernel
theorem dX9_shown_5 : decode cX9_shown 5 = .ok (.iload_n 3, 1) := by decide +kernel
theorem dX9_shown_6 : decode cX9_shown 6 = .ok (.invokevirtual 161, 3) := by decide +kernel
theorem dX9_shown_9 : decode cX9_shown 9 = .ok (.invokestatic 51, 3) := by decide +kernel
theorem dX9_shown_12 : decode cX9_shown 12 = .ok (.aload_n 0, 1) := by decide +kernel
theorem dX9_shown_13 : decode cX9_shown 13 = .ok (.invokevirtual 134, 3) := by decide +kernel
theorem dX9_shown_16 : decode cX9_shown 16 = .ok (.getfield 138, 3) := by decide +kernel
theorem dX9_shown_19 : decode cX9_shown 19 = .ok (.iload_n 1, 1) := by decide +kernel
theorem dX9_shown_20 : decode cX9_shown 20 = .ok (.iload_n 2, 1) := by decide +kernel
theorem dX9_shown_21 : decode cX9_shown 21 = .ok (.iload_n 3, 1) := by decide +kernel
theorem dX9_shown_22 : decode cX9_shown 22 = .ok (.invokevirtual 168, 3) := by decide +kernel
theorem dX9_shown_25 : decode cX9_shown 25 = .ok (.ireturn, 1) := by decide +kernel
theorem dX9_ghost_0 : decode cX9_ghost 0 = .ok (.aload_n 0, 1) := by decide +kernel
theorem dX9_ghost_1 : decode cX9_ghost 1 = .ok (.getfield 20, 3) := by decide +kernel
theorem dX9_ghost_4 : decode cX9_ghost 4 = .ok (.iload_n 1, 1) := by decide +kernel
theorem dX9_ghost_5 : decode cX9_ghost 5 = .ok (.iload_n 2, 1) := by decide +kernel
theorem dX9_ghost_6 : decode cX9_ghost 6 = .ok (.invokevirtual 161, 3) := by decide +kernel
theorem dX9_ghost_9 : decode cX9_ghost 9 = .ok (.invokestatic 51, 3) := by decide +kernel
theorem dX9_ghost_12 : decode cX9_ghost 12 = .ok (.aload_n 0, 1) := by decide +kernel
theorem dX9_ghost_13 : decode cX9_ghost 13 = .ok (.invokevirtual 134, 3) := by decide +kernel
theorem dX9_ghost_16 : decode cX9_ghost 16 = .ok (.iload_n 1, 1) := by decide +kernel
theorem dX9_ghost_17 : decode cX9_ghost 17 = .ok (.iload_n 2, 1) := by decide +kernel
theorem dX9_ghost_18 : decode cX9_ghost 18 = .ok (.invokevirtual 171, 3) := by decide +kernel
theorem dX9_ghost_21 : decode cX9_ghost 21 = .ok (.ireturn, 1) := by decide +kernel
theorem dX9_ghosts_0 : decode cX9_ghosts 0 = .ok (.iload_n 1, 1) := by decide +kernel
theorem dX9_ghosts_1 : decode cX9_ghosts 1 = .ok (.iconst 1, 1) := by decide +kernel
theorem dX9_ghosts_2 : decode cX9_ghosts 2 = .ok (.bipush 15, 2) := by decide +kernel
theorem dX9_ghosts_4 : decode cX9_ghosts 4 = .ok (.invokestatic 131, 3) := by decide +kernel
theorem dX9_ghosts_7 : decode cX9_ghosts 7 = .ok (.invokestatic 51, 3) := by decide +kernel
theorem dX9_ghosts_10 : decode cX9_ghosts 10 = .ok (.aload_n 0, 1) := by decide +kernel
theorem dX9_ghosts_11 : decode cX9_ghosts 11 = .ok (.invokevirtual 134, 3) := by decide +kernel
theorem dX9_ghosts_14 : decode cX9_ghosts 14 = .ok (.iload_n 1, 1) := by decide +kernel
theorem dX9_ghosts_15 : decode cX9_ghosts 15 = .ok (.invokevirtual 174, 3) := by decide +kernel
theorem dX9_ghosts_18 : decode cX9_ghosts 18 = .ok (.ireturn, 1) := by decide +kernel
theorem dX9_meanGhost_0 : decode cX9_meanGhost 0 = .ok (.aload_n 0, 1) := by decide +kernel
theorem dX9_meanGhost_1 : decode cX9_meanGhost 1 = .ok (.getfield 20, 3) := by decide +kernel
theorem dX9_meanGhost_4 : decode cX9_meanGhost 4 = .ok (.iconst 0, 1) := by decide +kernel
theorem dX9_meanGhost_5 : decode cX9_meanGhost 5 = .ok (.iload_n 1, 1) := by decide +kernel
theorem dX9_meanGhost_6 : decode cX9_meanGhost 6 = .ok (.invokevirtual 161, 3) := by decide +kernel
theorem dX9_meanGhost_9 : decode cX9_meanGhost 9 = .ok (.invokestatic 51, 3) := by decide +kernel
theorem dX9_meanGhost_12 : decode cX9_meanGhost 12 = .ok (.aload_n 0, 1) := by decide +kernel
theorem dX9_meanGhost_13 : decode cX9_meanGhost 13 = .ok (.invokevirtual 134, 3) := by decide +kernel
theorem dX9_meanGhost_16 : decode cX9_meanGhost 16 = .ok (.iload_n 1, 1) := by decide +kernel
theorem dX9_meanGhost_17 : decode cX9_meanGhost 17 = .ok (.invokevirtual 177, 3) := by decide +kernel
theorem dX9_meanGhost_20 : decode cX9_meanGhost 20 = .ok (.i2d, 1) := by decide +kernel
theorem dX9_meanGhost_21 : decode cX9_meanGhost 21 = .ok (.aload_n 0, 1) := by decide +kernel
theorem dX9_meanGhost_22 : decode cX9_meanGhost 22 = .ok (.getfield 20, 3) := by decide +kernel
theorem dX9_meanGhost_25 : decode cX9_meanGhost 25 = .ok (.getfield 180, 3) := by decide +kernel
theorem dX9_meanGhost_28 : decode cX9_meanGhost 28 = .ok (.i2d, 1) := by decide +kernel
theorem dX9_meanGhost_29 : decode cX9_meanGhost 29 = .ok (.ddiv, 1) := by decide +kernel
theorem dX9_meanGhost_30 : decode cX9_meanGhost 30 = .ok (.dreturn, 1) := by decide +kernel
theorem dX9_percentageFor_0 : decode cX9_percentageFor 0 = .ok (.iload_n 1, 1) := by decide +kernel
theorem dX9_percentageFor_1 : decode cX9_percentageFor 1 = .ok (.iload_n 2, 1) := by decide +kernel
theorem dX9_percentageFor_2 : decode cX9_percentageFor 2 = .ok (.invokestatic 184, 3) := by decide +kernel
theorem dX9_percentageFor_5 : decode cX9_percentageFor 5 = .ok (.invokestatic 51, 3) := by decide +kernel
theorem dX9_percentageFor_8 : decode cX9_percentageFor 8 = .ok (.aload_n 0, 1) := by decide +kernel
theorem dX9_percentageFor_9 : decode cX9_percentageFor 9 = .ok (.invokevirtual 134, 3) := by decide +kernel
theorem dX9_percentageFor_12 : decode cX9_percentageFor 12 = .ok (.getfield 138, 3) := by decide +kernel
theorem dX9_percentageFor_15 : decode cX9_percentageFor 15 = .ok (.iload_n 1, 1) := by decide +kernel
theorem dX9_percentageFor_16 : decode cX9_percentageFor 16 = .ok (.iload_n 2, 1) := by decide +kernel
theorem dX9_percentageFor_17 : decode cX9_percentageFor 17 = .ok (.invokevirtual 187, 3) := by decide +kernel
theorem dX9_percentageFor_20 : decode cX9_percentageFor 20 = .ok (.ireturn, 1) := by decide +kernel
theorem dX9_fullAfter_0 : decode cX9_fullAfter 0 = .ok (.iload_n 1, 1) := by decide +kernel
theorem dX9_fullAfter_1 : decode cX9_fullAfter 1 = .ok (.iconst 0, 1) := by decide +kernel
theorem dX9_fullAfter_2 : decode cX9_fullAfter 2 = .ok (.sipush 200, 3) := by decide +kernel
theorem dX9_fullAfter_5 : decode cX9_fullAfter 5 = .ok (.invokestatic 131, 3) := by decide +kernel
theorem dX9_fullAfter_8 : decode cX9_fullAfter 8 = .ok (.invokestatic 51, 3) := by decide +kernel
theorem dX9_fullAfter_11 : decode cX9_fullAfter 11 = .ok (.aload_n 0, 1) := by decide +kernel
theorem dX9_fullAfter_12 : decode cX9_fullAfter 12 = .ok (.invokevirtual 134, 3) := by decide +kernel
theorem dX9_fullAfter_15 : decode cX9_fullAfter 15 = .ok (.getfield 138, 3) := by decide +kernel
theorem dX9_fullAfter_18 : decode cX9_fullAfter 18 = .ok (.astore_n 2, 1) := by decide +kernel
theorem dX9_fullAfter_19 : decode cX9_fullAfter 19 = .ok (.aload_n 0, 1) := by decide +kernel
theorem dX9_fullAfter_20 : decode cX9_fullAfter 20 = .ok (.getfield 24, 3) := by decide +kernel
theorem dX9_fullAfter_23 : decode cX9_fullAfter 23 = .ok (.getfield 100, 3) := by decide +kernel
theorem dX9_fullAfter_26 : decode cX9_fullAfter 26 = .ok (.astore_n 3, 1) := by decide +kernel
theorem dX9_fullAfter_27 : decode cX9_fullAfter 27 = .ok (.aload_n 3, 1) := by decide +kernel
theorem dX9_fullAfter_28 : decode cX9_fullAfter 28 = .ok (.aload_n 0, 1) := by decide +kernel
theorem dX9_fullAfter_29 : decode cX9_fullAfter 29 = .ok (.getfield 20, 3) := by decide +kernel
theorem dX9_fullAfter_32 : decode cX9_fullAfter 32 = .ok (.getfield 100, 3) := by decide +kernel
theorem dX9_fullAfter_35 : decode cX9_fullAfter 35 = .ok (.invokevirtual 194, 3) := by decide +kernel
theorem dX9_fullAfter_38 : decode cX9_fullAfter 38 = .ok (.aload_n 0, 1) := by decide +kernel
theorem dX9_fullAfter_39 : decode cX9_fullAfter 39 = .ok (.getfield 20, 3) := by decide +kernel
theorem dX9_fullAfter_42 : decode cX9_fullAfter 42 = .ok (.getfield 198, 3) := by decide +kernel
theorem dX9_fullAfter_45 : decode cX9_fullAfter 45 = .ok (.iconst 0, 1) := by decide +kernel
theorem dX9_fullAfter_46 : decode cX9_fullAfter 46 = .ok (.iaload, 1) := by decide +kernel
theorem dX9_fullAfter_47 : decode cX9_fullAfter 47 = .ok (.istore 4, 2) := by decide +kernel
theorem dX9_fullAfter_49 : decode cX9_fullAfter 49 = .ok (.iconst 0, 1) := by decide +kernel
theorem dX9_fullAfter_50 : decode cX9_fullAfter 50 = .ok (.istore 5, 2) := by decide +kernel
theorem dX9_fullAfter_52 : decode cX9_fullAfter 52 = .ok (.iload 5, 2) := by decide +kernel
theorem dX9_fullAfter_54 : decode cX9_fullAfter 54 = .ok (.iload_n 1, 1) := by decide +kernel
theorem dX9_fullAfter_55 : decode cX9_fullAfter 55 = .ok (.if_icmp .gt 44, 3) := by decide +kernel
theorem dX9_fullAfter_58 : decode cX9_fullAfter 58 = .ok (.aload_n 2, 1) := by decide +kernel
theorem dX9_fullAfter_59 : decode cX9_fullAfter 59 = .ok (.iload 4, 2) := by decide +kernel
theorem dX9_fullAfter_61 : decode cX9_fullAfter 61 = .ok (.bipush 100, 2) := by decide +kernel
theorem dX9_fullAfter_63 : decode cX9_fullAfter 63 = .ok (.aload_n 3, 1) := by decide +kernel
theorem dX9_fullAfter_64 : decode cX9_fullAfter 64 = .ok (.getfield 202, 3) := by decide +kernel
theorem dX9_fullAfter_67 : decode cX9_fullAfter 67 = .ok (.aload_n 3, 1) := by decide +kernel
theorem dX9_fullAfter_68 : decode cX9_fullAfter 68 = .ok (.getfield 205, 3) := by decide +kernel
theorem dX9_fullAfter_71 : decode cX9_fullAfter 71 = .ok (.invokevirtual 208, 3) := by decide +kernel
theorem dX9_fullAfter_74 : decode cX9_fullAfter 74 = .ok (.ifCond .eq 6, 3) := by decide +kernel
theorem dX9_fullAfter_77 : decode cX9_fullAfter 77 = .ok (.iload 5, 2) := by decide +kernel
theorem dX9_fullAfter_79 : decode cX9_fullAfter 79 = .ok (.ireturn, 1) := by decide +kernel
theorem dX9_fullAfter_80 : decode cX9_fullAfter 80 = .ok (.aload_n 3, 1) := by decide +kernel
theorem dX9_fullAfter_81 : decode cX9_fullAfter 81 = .ok (.aload_n 0, 1) := by decide +kernel
theorem dX9_fullAfter_82 : decode cX9_fullAfter 82 = .ok (.getfield 20, 3) := by decide +kernel
theorem dX9_fullAfter_85 : decode cX9_fullAfter 85 = .ok (.getfield 198, 3) := by decide +kernel
theorem dX9_fullAfter_88 : decode cX9_fullAfter 88 = .ok (.iconst 1, 1) := by decide +kernel
theorem dX9_fullAfter_89 : decode cX9_fullAfter 89 = .ok (.iaload, 1) := by decide +kernel
theorem dX9_fullAfter_90 : decode cX9_fullAfter 90 = .ok (.invokevirtual 212, 3) := by decide +kernel
theorem dX9_fullAfter_93 : decode cX9_fullAfter 93 = .ok (.iinc 5 1, 3) := by decide +kernel
theorem dX9_fullAfter_96 : decode cX9_fullAfter 96 = .ok (.goto (-44), 3) := by decide +kernel
theorem dX9_fullAfter_99 : decode cX9_fullAfter 99 = .ok (.sipush (-1000), 3) := by decide +kernel
theorem dX9_fullAfter_102 : decode cX9_fullAfter 102 = .ok (.ireturn, 1) := by decide +kernel
theorem dX9_ghostsWithout_0 : decode cX9_ghostsWithout 0 = .ok (.aload_n 0, 1) := by decide +kernel
theorem dX9_ghostsWithout_1 : decode cX9_ghostsWithout 1 = .ok (.getfield 20, 3) := by decide +kernel
theorem dX9_ghostsWithout_4 : decode cX9_ghostsWithout 4 = .ok (.getfield 61, 3) := by decide +kernel
theorem dX9_ghostsWithout_7 : decode cX9_ghostsWithout 7 = .ok (.iload_n 1, 1) := by decide +kernel
theorem dX9_ghostsWithout_8 : decode cX9_ghostsWithout 8 = .ok (.invokevirtual 93, 3) := by decide +kernel
theorem dX9_ghostsWithout_11 : decode cX9_ghostsWithout 11 = .ok (.invokestatic 51, 3) := by decide +kernel
theorem dX9_ghostsWithout_14 : decode cX9_ghostsWithout 14 = .ok (.iload_n 2, 1) := by decide +kernel
theorem dX9_ghostsWithout_15 : decode cX9_ghostsWithout 15 = .ok (.iconst 1, 1) := by decide +kernel
theorem dX9_ghostsWithout_16 : decode cX9_ghostsWithout 16 = .ok (.bipush 15, 2) := by decide +kernel
theorem dX9_ghostsWithout_18 : decode cX9_ghostsWithout 18 = .ok (.invokestatic 131, 3) := by decide +kernel
theorem dX9_ghostsWithout_21 : decode cX9_ghostsWithout 21 = .ok (.invokestatic 51, 3) := by decide +kernel
theorem dX9_ghostsWithout_24 : decode cX9_ghostsWithout 24 = .ok (.aload_n 0, 1) := by decide +kernel
theorem dX9_ghostsWithout_25 : decode cX9_ghostsWithout 25 = .ok (.getfield 24, 3) := by decide +kernel
theorem dX9_ghostsWithout_28 : decode cX9_ghostsWithout 28 = .ok (.aload_n 0, 1) := by decide +kernel
theorem dX9_ghostsWithout_29 : decode cX9_ghostsWithout 29 = .ok (.getfield 20, 3) := by decide +kernel
theorem dX9_ghostsWithout_32 : decode cX9_ghostsWithout 32 = .ok (.invokevirtual 215, 3) := by decide +kernel
theorem dX9_ghostsWithout_35 : decode cX9_ghostsWithout 35 = .ok (.aload_n 0, 1) := by decide +kernel
theorem dX9_ghostsWithout_36 : decode cX9_ghostsWithout 36 = .ok (.getfield 24, 3) := by decide +kernel
theorem dX9_ghostsWithout_39 : decode cX9_ghostsWithout 39 = .ok (.getfield 61, 3) := by decide +kernel
theorem dX9_ghostsWithout_42 : decode cX9_ghostsWithout 42 = .ok (.iload_n 1, 1) := by decide +kernel
theorem dX9_ghostsWithout_43 : decode cX9_ghostsWithout 43 = .ok (.invokevirtual 97, 3) := by decide +kernel
theorem dX9_ghostsWithout_46 : decode cX9_ghostsWithout 46 = .ok (.pop, 1) := by decide +kernel
theorem dX9_ghostsWithout_47 : decode cX9_ghostsWithout 47 = .ok (.aload_n 0, 1) := by decide +kernel
theorem dX9_ghostsWithout_48 : decode cX9_ghostsWithout 48 = .ok (.getfield 21, 3) := by decide +kernel
theorem dX9_ghostsWithout_51 : decode cX9_ghostsWithout 51 = .ok (.invokevirtual 218, 3) := by decide +kernel
theorem dX9_ghostsWithout_54 : decode cX9_ghostsWithout 54 = .ok (.aload_n 0, 1) := by decide +kernel
theorem dX9_ghostsWithout_55 : decode cX9_ghostsWithout 55 = .ok (.getfield 21, 3) := by decide +kernel
theorem dX9_ghostsWithout_58 : decode cX9_ghostsWithout 58 = .ok (.iload_n 2, 1) := by decide +kernel
theorem dX9_ghostsWithout_59 : decode cX9_ghostsWithout 59 = .ok (.invokevirtual 174, 3) := by decide +kernel
theorem dX9_ghostsWithout_62 : decode cX9_ghostsWithout 62 = .ok (.ireturn, 1) := by decide +kernel
theorem dX9_type_0 : decode cX9_type 0 = .ok (.iload_n 1, 1) := by decide +kernel
theorem dX9_type_1 : decode cX9_type 1 = .ok (.iconst 0, 1) := by decide +kernel
theorem dX9_type_2 : decode cX9_type 2 = .ok (.bipush 127, 2) := by decide +kernel
theorem dX9_type_4 : decode cX9_type 4 = .ok (.invokestatic 131, 3) := by decide +kernel
theorem dX9_type_7 : decode cX9_type 7 = .ok (.invokestatic 51, 3) := by decide +kernel
theorem dX9_type_10 : decode cX9_type 10 = .ok (.aload_n 0, 1) := by decide +kernel
theorem dX9_type_11 : decode cX9_type 11 = .ok (.getfield 37, 3) := by decide +kernel
theorem dX9_type_14 : decode cX9_type 14 = .ok (.getfield 221, 3) := by decide +kernel
theorem dX9_type_17 : decode cX9_type 17 = .ok (.sipush 150, 3) := by decide +kernel
theorem dX9_type_20 : decode cX9_type 20 = .ok (.if_icmp .lt 7, 3) := by decide +kernel
theorem dX9_type_23 : decode cX9_type 23 = .ok (.iconst 3, 1) := by decide +kernel
theorem dX9_type_24 : decode cX9_type 24 = .ok (.goto 4, 3) := by decide +kernel
theorem dX9_type_27 : decode cX9_type 27 = .ok (.iconst 0, 1) := by decide +kernel
theorem dX9_type_28 : decode cX9_type 28 = .ok (.invokestatic 51, 3) := by decide +kernel
theorem dX9_type_31 : decode cX9_type 31 = .ok (.aload_n 0, 1) := by decide +kernel
theorem dX9_type_32 : decode cX9_type 32 = .ok (.getfield 37, 3) := by decide +kernel
theorem dX9_type_35 : decode cX9_type 35 = .ok (.iload_n 1, 1) := by decide +kernel
theorem dX9_type_36 : decode cX9_type 36 = .ok (.invokevirtual 224, 3) := by decide +kernel
theorem dX9_type_39 : decode cX9_type 39 = .ok (.ireturn, 1) := by decide +kernel
theorem dX9_runCommands_0 : decode cX9_runCommands 0 = .ok (.aload_n 0, 1) := by decide +kernel
theorem dX9_runCommands_1 : decode cX9_runCommands 1 = .ok (.getfield 37, 3) := by decide +kernel
theorem dX9_runCommands_4 : decode cX9_runCommands 4 = .ok (.invokevirtual 226, 3) := by decide +kernel
theorem dX9_runCommands_7 : decode cX9_runCommands 7 = .ok (.istore_n 1, 1) := by decide +kernel
theorem dX9_runCommands_8 : decode cX9_runCommands 8 = .ok (.iload_n 1, 1) := by decide +kernel
theorem dX9_runCommands_9 : decode cX9_runCommands 9 = .ok (.ifCond .lt 8, 3) := by decide +kernel
theorem dX9_runCommands_12 : decode cX9_runCommands 12 = .ok (.bipush (-10), 2) := by decide +kernel
theorem dX9_runCommands_14 : decode cX9_runCommands 14 = .ok (.iload_n 1, 1) := by decide +kernel
theorem dX9_runCommands_15 : decode cX9_runCommands 15 = .ok (.isub, 1) := by decide +kernel
theorem dX9_runCommands_16 : decode cX9_runCommands 16 = .ok (.ireturn, 1) := by decide +kernel
theorem dX9_runCommands_17 : decode cX9_runCommands 17 = .ok (.aload_n 0, 1) := by decide +kernel
theorem dX9_runCommands_18 : decode cX9_runCommands 18 = .ok (.invokevirtual 55, 3) := by decide +kernel
theorem dX9_runCommands_21 : decode cX9_runCommands 21 = .ok (.aload_n 0, 1) := by decide +kernel
theorem dX9_runCommands_22 : decode cX9_runCommands 22 = .ok (.getfield 37, 3) := by decide +kernel
theorem dX9_runCommands_25 : decode cX9_runCommands 25 = .ok (.aload_n 0, 1) := by decide +kernel
theorem dX9_runCommands_26 : decode cX9_runCommands 26 = .ok (.getfield 20, 3) := by decide +kernel
theorem dX9_runCommands_29 : decode cX9_runCommands 29 = .ok (.invokevirtual 229, 3) := by decide +kernel
theorem dX9_runCommands_32 : decode cX9_runCommands 32 = .ok (.ireturn, 1) := by decide +kernel
theorem dX9_undo_0 : decode cX9_undo 0 = .ok (.aload_n 0, 1) := by decide +kernel
theorem dX9_undo_1 : decode cX9_undo 1 = .ok (.getfield 30, 3) := by decide +kernel
theorem dX9_undo_4 : decode cX9_undo 4 = .ok (.getfield 233, 3) := by decide +kernel
theorem dX9_undo_7 : decode cX9_undo 7 = .ok (.ifCond .ne 7, 3) := by decide +kernel
theorem dX9_undo_10 : decode cX9_undo 10 = .ok (.iconst 3, 1) := by decide +kernel
theorem dX9_undo_11 : decode cX9_undo 11 = .ok (.goto 4, 3) := by decide +kernel
theorem dX9_undo_14 : decode cX9_undo 14 = .ok (.iconst 0, 1) := by decide +kernel
theorem dX9_undo_15 : decode cX9_undo 15 = .ok (.invokestatic 51, 3) := by decide +kernel
theorem dX9_undo_18 : decode cX9_undo 18 = .ok (.aload_n 0, 1) := by decide +kernel
theorem dX9_undo_19 : decode cX9_undo 19 = .ok (.getfield 30, 3) := by decide +kernel
theorem dX9_undo_22 : decode cX9_undo 22 = .ok (.aload_n 0, 1) := by decide +kernel
theorem dX9_undo_23 : decode cX9_undo 23 = .ok (.getfield 20, 3) := by decide +kernel
theorem dX9_undo_26 : decode cX9_undo 26 = .ok (.invokevirtual 236, 3) := by decide +kernel
theorem dX9_undo_29 : decode cX9_undo 29 = .ok (.aload_n 0, 1) := by decide +kernel
theorem dX9_undo_30 : decode cX9_undo 30 = .ok (.iconst 1, 1) := by decide +kernel
theorem dX9_undo_31 : decode cX9_undo 31 = .ok (.putfield 41, 3) := by decide +kernel
theorem dX9_undo_34 : decode cX9_undo 34 = .ok (.aload_n 0, 1) := by decide +kernel
theorem dX9_undo_35 : decode cX9_undo 35 = .ok (.getfield 30, 3) := by decide +kernel
theorem dX9_undo_38 : decode cX9_undo 38 = .ok (.getfield 233, 3) := by decide +kernel
theorem dX9_undo_41 : decode cX9_undo 41 = .ok (.ireturn, 1) := by decide +kernel
theorem dX9_keepState_0 : decode cX9_keepState 0 = .ok (.aload_n 0, 1) := by decide +kernel
theorem dX9_keepState_1 : decode cX9_keepState 1 = .ok (.getfield 30, 3) := by decide +kernel
theorem dX9_keepState_4 : decode cX9_keepState 4 = .ok (.aload_n 0, 1) := by decide +kernel
theorem dX9_keepState_5 : decode cX9_keepState 5 = .ok (.getfield 20, 3) := by decide +kernel
theorem dX9_keepState_8 : decode cX9_keepState 8 = .ok (.invokevirtual 249, 3) := by decide +kernel
theorem dX9_keepState_11 : decode cX9_keepState 11 = .ok (.aload_n 0, 1) := by decide +kernel
theorem dX9_keepState_12 : decode cX9_keepState 12 = .ok (.iconst 1, 1) := by decide +kernel
theorem dX9_keepState_13 : decode cX9_keepState 13 = .ok (.putfield 41, 3) := by decide +kernel
theorem dX9_keepState_16 : decode cX9_keepState 16 = .ok (.return_, 1) := by decide +kernel
theorem dX9_freshView_0 : decode cX9_freshView 0 = .ok (.aload_n 0, 1) := by decide +kernel
theorem dX9_freshView_1 : decode cX9_freshView 1 = .ok (.getfield 41, 3) := by decide +kernel
theorem dX9_freshView_4 : decode cX9_freshView 4 = .ok (.ifCond .eq 15, 3) := by decide +kernel
theorem dX9_freshView_7 : decode cX9_freshView 7 = .ok (.aload_n 0, 1) := by decide +kernel
theorem dX9_freshView_8 : decode cX9_freshView 8 = .ok (.getfield 10, 3) := by decide +kernel
theorem dX9_freshView_11 : decode cX9_freshView 11 = .ok (.invokevirtual 218, 3) := by decide +kernel
theorem dX9_freshView_14 : decode cX9_freshView 14 = .ok (.aload_n 0, 1) := by decide +kernel
theorem dX9_freshView_15 : decode cX9_freshView 15 = .ok (.iconst 0, 1) := by decide +kernel
theorem dX9_freshView_16 : decode cX9_freshView 16 = .ok (.putfield 41, 3) := by decide +kernel
theorem dX9_freshView_19 : decode cX9_freshView 19 = .ok (.aload_n 0, 1) := by decide +kernel
theorem dX9_freshView_20 : decode cX9_freshView 20 = .ok (.getfield 10, 3) := by decide +kernel
theorem dX9_freshView_23 : decode cX9_freshView 23 = .ok (.areturn, 1) := by decide +kernel
theorem dX9_refuse_0 : decode cX9_refuse 0 = .ok (.iload_n 0, 1) := by decide +kernel
theorem dX9_refuse_1 : decode cX9_refuse 1 = .ok (.iconst 1, 1) := by decide +kernel
theorem dX9_refuse_2 : decode cX9_refuse 2 = .ok (.if_icmp .ne 13, 3) := by decide +kernel
theorem dX9_refuse_5 : decode cX9_refuse 5 = .ok (.new 252, 3) := by decide +kernel
theorem dX9_refuse_8 : decode cX9_refuse 8 = .ok (.dup, 1) := by decide +kernel
theorem dX9_refuse_9 : decode cX9_refuse 9 = .ok (.ldc 254, 2) := by decide +kernel
theorem dX9_refuse_11 : decode cX9_refuse 11 = .ok (.invokespecial 256, 3) := by decide +kernel
theorem dX9_refuse_14 : decode cX9_refuse 14 = .ok (.athrow, 1) := by decide +kernel
theorem dX9_refuse_15 : decode cX9_refuse 15 = .ok (.iload_n 0, 1) := by decide +kernel
theorem dX9_refuse_16 : decode cX9_refuse 16 = .ok (.iconst 2, 1) := by decide +kernel
theorem dX9_refuse_17 : decode cX9_refuse 17 = .ok (.if_icmp .ne 14, 3) := by decide +kernel
theorem dX9_refuse_20 : decode cX9_refuse 20 = .ok (.new 259, 3) := by decide +kernel
theorem dX9_refuse_23 : decode cX9_refuse 23 = .ok (.dup, 1) := by decide +kernel
theorem dX9_refuse_24 : decode cX9_refuse 24 = .ok (.ldc_w 261, 3) := by decide +kernel
theorem dX9_refuse_27 : decode cX9_refuse 27 = .ok (.invokespecial 263, 3) := by decide +kernel
theorem dX9_refuse_30 : decode cX9_refuse 30 = .ok (.athrow, 1) := by decide +kernel
theorem dX9_refuse_31 : decode cX9_refuse 31 = .ok (.iload_n 0, 1) := by decide +kernel
theorem dX9_refuse_32 : decode cX9_refuse 32 = .ok (.iconst 3, 1) := by decide +kernel
theorem dX9_refuse_33 : decode cX9_refuse 33 = .ok (.if_icmp .ne 14, 3) := by decide +kernel
theorem dX9_refuse_36 : decode cX9_refuse 36 = .ok (.new 264, 3) := by decide +kernel
theorem dX9_refuse_39 : decode cX9_refuse 39 = .ok (.dup, 1) := by decide +kernel
theorem dX9_refuse_40 : decode cX9_refuse 40 = .ok (.ldc_w 266, 3) := by decide +kernel
theorem dX9_refuse_43 : decode cX9_refuse 43 = .ok (.invokespecial 268, 3) := by decide +kernel
theorem dX9_refuse_46 : decode cX9_refuse 46 = .ok (.athrow, 1) := by decide +kernel
theorem dX9_refuse_47 : decode cX9_refuse 47 = .ok (.return_, 1) := by decide +kernel
theorem dX9_within_0 : decode cX9_within 0 = .ok (.iload_n 0, 1) := by decide +kernel
theorem dX9_within_1 : decode cX9_within 1 = .ok (.iload_n 1, 1) := by decide +kernel
theorem dX9_within_2 : decode cX9_within 2 = .ok (.if_icmp .lt 12, 3) := by decide +kernel
theorem dX9_within_5 : decode cX9_within 5 = .ok (.iload_n 0, 1) := by decide +kernel
theorem dX9_within_6 : decode cX9_within 6 = .ok (.iload_n 2, 1) := by decide +kernel
theorem dX9_within_7 : decode cX9_within 7 = .ok (.if_icmp .gt 7, 3) := by decide +kernel
theorem dX9_within_10 : decode cX9_within 10 = .ok (.iconst 1, 1) := by decide +kernel
theorem dX9_within_11 : decode cX9_within 11 = .ok (.goto 4, 3) := by decide +kernel
theorem dX9_within_14 : decode cX9_within 14 = .ok (.iconst 0, 1) := by decide +kernel
theorem dX9_within_15 : decode cX9_within 15 = .ok (.ireturn, 1) := by decide +kernel
theorem dX9_faultOfRange_0 : decode cX9_faultOfRange 0 = .ok (.iload_n 0, 1) := by decide +kernel
theorem dX9_faultOfRange_1 : decode cX9_faultOfRange 1 = .ok (.iload_n 1, 1) := by decide +kernel
theorem dX9_faultOfRange_2 : decode cX9_faultOfRange 2 = .ok (.iload_n 2, 1) := by decide +kernel
theorem dX9_faultOfRange_3 : decode cX9_faultOfRange 3 = .ok (.invokestatic 269, 3) := by decide +kernel
theorem dX9_faultOfRange_6 : decode cX9_faultOfRange 6 = .ok (.ifCond .eq 7, 3) := by decide +kernel
theorem dX9_faultOfRange_9 : decode cX9_faultOfRange 9 = .ok (.iconst 0, 1) := by decide +kernel
theorem dX9_faultOfRange_10 : decode cX9_faultOfRange 10 = .ok (.goto 4, 3) := by decide +kernel
theorem dX9_faultOfRange_13 : decode cX9_faultOfRange 13 = .ok (.iconst 2, 1) := by decide +kernel
theorem dX9_faultOfRange_14 : decode cX9_faultOfRange 14 = .ok (.ireturn, 1) := by decide +kernel
theorem dX9_faultOfBudget_0 : decode cX9_faultOfBudget 0 = .ok (.iload_n 0, 1) := by decide +kernel
theorem dX9_faultOfBudget_1 : decode cX9_faultOfBudget 1 = .ok (.bipush (-20), 2) := by decide +kernel
theorem dX9_faultOfBudget_3 : decode cX9_faultOfBudget 3 = .ok (.iconst 0, 1) := by decide +kernel
theorem dX9_faultOfBudget_4 : decode cX9_faultOfBudget 4 = .ok (.invokestatic 269, 3) := by decide +kernel
theorem dX9_faultOfBudget_7 : decode cX9_faultOfBudget 7 = .ok (.ifCond .eq 17, 3) := by decide +kernel
theorem dX9_faultOfBudget_10 : decode cX9_faultOfBudget 10 = .ok (.iload_n 1, 1) := by decide +kernel
theorem dX9_faultOfBudget_11 : decode cX9_faultOfBudget 11 = .ok (.iconst 0, 1) := by decide +kernel
theorem dX9_faultOfBudget_12 : decode cX9_faultOfBudget 12 = .ok (.bipush 20, 2) := by decide +kernel
theorem dX9_faultOfBudget_14 : decode cX9_faultOfBudget 14 = .ok (.invokestatic 269, 3) := by decide +kernel
theorem dX9_faultOfBudget_17 : decode cX9_faultOfBudget 17 = .ok (.ifCond .eq 7, 3) := by decide +kernel
theorem dX9_faultOfBudget_20 : decode cX9_faultOfBudget 20 = .ok (.iconst 0, 1) := by decide +kernel
theorem dX9_faultOfBudget_21 : decode cX9_faultOfBudget 21 = .ok (.goto 4, 3) := by decide +kernel
theorem dX9_faultOfBudget_24 : decode cX9_faultOfBudget 24 = .ok (.iconst 2, 1) := by decide +kernel
theorem dX9_faultOfBudget_25 : decode cX9_faultOfBudget 25 = .ok (.ireturn, 1) := by decide +kernel
theorem dX9_columnOf_0 : decode cX9_columnOf 0 = .ok (.iload_n 0, 1) := by decide +kernel
theorem dX9_columnOf_1 : decode cX9_columnOf 1 = .ok (.ifCond .eq 15, 3) := by decide +kernel
theorem dX9_columnOf_4 : decode cX9_columnOf 4 = .ok (.iload_n 1, 1) := by decide +kernel
theorem dX9_columnOf_5 : decode cX9_columnOf 5 = .ok (.iload_n 2, 1) := by decide +kernel
theorem dX9_columnOf_6 : decode cX9_columnOf 6 = .ok (.iconst 1, 1) := by decide +kernel
theorem dX9_columnOf_7 : decode cX9_columnOf 7 = .ok (.iadd, 1) := by decide +kernel
theorem dX9_columnOf_8 : decode cX9_columnOf 8 = .ok (.iconst 2, 1) := by decide +kernel
theorem dX9_columnOf_9 : decode cX9_columnOf 9 = .ok (.invokestatic 273, 3) := by decide +kernel
theorem dX9_columnOf_12 : decode cX9_columnOf 12 = .ok (.iadd, 1) := by decide +kernel
theorem dX9_columnOf_13 : decode cX9_columnOf 13 = .ok (.goto 10, 3) := by decide +kernel
theorem dX9_columnOf_16 : decode cX9_columnOf 16 = .ok (.iload_n 1, 1) := by decide +kernel
theorem dX9_columnOf_17 : decode cX9_columnOf 17 = .ok (.iload_n 2, 1) := by decide +kernel
theorem dX9_columnOf_18 : decode cX9_columnOf 18 = .ok (.iconst 2, 1) := by decide +kernel
theorem dX9_columnOf_19 : decode cX9_columnOf 19 = .ok (.invokestatic 273, 3) := by decide +kernel
theorem dX9_columnOf_22 : decode cX9_columnOf 22 = .ok (.isub, 1) := by decide +kernel
theorem dX9_columnOf_23 : decode cX9_columnOf 23 = .ok (.ireturn, 1) := by decide +kernel
theorem dX9_copyRow_0 : decode cX9_copyRow 0 = .ok (.aload_n 0, 1) := by decide +kernel
theorem dX9_copyRow_1 : decode cX9_copyRow 1 = .ok (.iconst 0, 1) := by decide +kernel
theorem dX9_copyRow_2 : decode cX9_copyRow 2 = .ok (.aload_n 1, 1) := by decide +kernel
theorem dX9_copyRow_3 : decode cX9_copyRow 3 = .ok (.iconst 0, 1) := by decide +kernel
theorem dX9_copyRow_4 : decode cX9_copyRow 4 = .ok (.aload_n 0, 1) := by decide +kernel
theorem dX9_copyRow_5 : decode cX9_copyRow 5 = .ok (.arraylength, 1) := by decide +kernel
theorem dX9_copyRow_6 : decode cX9_copyRow 6 = .ok (.aload_n 1, 1) := by decide +kernel
theorem dX9_copyRow_7 : decode cX9_copyRow 7 = .ok (.arraylength, 1) := by decide +kernel
theorem dX9_copyRow_8 : decode cX9_copyRow 8 = .ok (.invokestatic 278, 3) := by decide +kernel
theorem dX9_copyRow_11 : decode cX9_copyRow 11 = .ok (.invokestatic 281, 3) := by decide +kernel
theorem dX9_copyRow_14 : decode cX9_copyRow 14 = .ok (.return_, 1) := by decide +kernel
