theorem dX10_painted_34 : decode cX10_painted 34 = .ok (.aload_n 0, 1) := by decide +kernel
theorem dX10_painted_35 : decode cX10_painted 35 = .ok (.getfield 37, 3) := by decide +kernel
theorem dX10_painted_38 : decode cX10_painted 38 = .ok (.iload_n 1, 1) := by decide +kernel
theorem dX10_painted_39 : decode cX10_painted 39 = .ok (.iaload, 1) := by decide +kernel
theorem dX10_painted_40 : decode cX10_painted 40 = .ok (.goto 6, 3) := by decide +kernel
theorem dX10_painted_43 : decode cX10_painted 43 = .ok (.sipush (-1000), 3) := by decide +kernel
theorem dX10_painted_46 : decode cX10_painted 46 = .ok (.ireturn, 1) := by decide +kernel
theorem dX10_sceneOf_0 : decode cX10_sceneOf 0 = .ok (.iconst 0, 1) := by decide +kernel
theorem dX10_sceneOf_1 : decode cX10_sceneOf 1 = .ok (.istore_n 3, 1) := by decide +kernel
theorem dX10_sceneOf_2 : decode cX10_sceneOf 2 = .ok (.iconst 0, 1) := by decide +kernel
theorem dX10_sceneOf_3 : decode cX10_sceneOf 3 = .ok (.istore 4, 2) := by decide +kernel
theorem dX10_sceneOf_5 : decode cX10_sceneOf 5 = .ok (.iload 4, 2) := by decide +kernel
theorem dX10_sceneOf_7 : decode cX10_sceneOf 7 = .ok (.iload_n 1, 1) := by decide +kernel
theorem dX10_sceneOf_8 : decode cX10_sceneOf 8 = .ok (.if_icmp .ge 27, 3) := by decide +kernel
theorem dX10_sceneOf_11 : decode cX10_sceneOf 11 = .ok (.iload_n 3, 1) := by decide +kernel
theorem dX10_sceneOf_12 : decode cX10_sceneOf 12 = .ok (.aload_n 0, 1) := by decide +kernel
theorem dX10_sceneOf_13 : decode cX10_sceneOf 13 = .ok (.getfield 7, 3) := by decide +kernel
theorem dX10_sceneOf_16 : decode cX10_sceneOf 16 = .ok (.sipush 174, 3) := by decide +kernel
theorem dX10_sceneOf_19 : decode cX10_sceneOf 19 = .ok (.iconst 3, 1) := by decide +kernel
theorem dX10_sceneOf_20 : decode cX10_sceneOf 20 = .ok (.iload 4, 2) := by decide +kernel
theorem dX10_sceneOf_22 : decode cX10_sceneOf 22 = .ok (.imul, 1) := by decide +kernel
theorem dX10_sceneOf_23 : decode cX10_sceneOf 23 = .ok (.iadd, 1) := by decide +kernel
theorem dX10_sceneOf_24 : decode cX10_sceneOf 24 = .ok (.iconst 2, 1) := by decide +kernel
theorem dX10_sceneOf_25 : decode cX10_sceneOf 25 = .ok (.iadd, 1) := by decide +kernel
theorem dX10_sceneOf_26 : decode cX10_sceneOf 26 = .ok (.iaload, 1) := by decide +kernel
theorem dX10_sceneOf_27 : decode cX10_sceneOf 27 = .ok (.iadd, 1) := by decide +kernel
theorem dX10_sceneOf_28 : decode cX10_sceneOf 28 = .ok (.istore_n 3, 1) := by decide +kernel
theorem dX10_sceneOf_29 : decode cX10_sceneOf 29 = .ok (.iinc 4 1, 3) := by decide +kernel
theorem dX10_sceneOf_32 : decode cX10_sceneOf 32 = .ok (.goto (-27), 3) := by decide +kernel
theorem dX10_sceneOf_35 : decode cX10_sceneOf 35 = .ok (.iload_n 2, 1) := by decide +kernel
theorem dX10_sceneOf_36 : decode cX10_sceneOf 36 = .ok (.iconst 3, 1) := by decide +kernel
theorem dX10_sceneOf_37 : decode cX10_sceneOf 37 = .ok (.if_icmp .ne 7, 3) := by decide +kernel
theorem dX10_sceneOf_40 : decode cX10_sceneOf 40 = .ok (.iload_n 3, 1) := by decide +kernel
theorem dX10_sceneOf_41 : decode cX10_sceneOf 41 = .ok (.goto 17, 3) := by decide +kernel
theorem dX10_sceneOf_44 : decode cX10_sceneOf 44 = .ok (.aload_n 0, 1) := by decide +kernel
theorem dX10_sceneOf_45 : decode cX10_sceneOf 45 = .ok (.getfield 7, 3) := by decide +kernel
theorem dX10_sceneOf_48 : decode cX10_sceneOf 48 = .ok (.sipush 174, 3) := by decide +kernel
theorem dX10_sceneOf_51 : decode cX10_sceneOf 51 = .ok (.iconst 3, 1) := by decide +kernel
theorem dX10_sceneOf_52 : decode cX10_sceneOf 52 = .ok (.iload_n 1, 1) := by decide +kernel
theorem dX10_sceneOf_53 : decode cX10_sceneOf 53 = .ok (.imul, 1) := by decide +kernel
theorem dX10_sceneOf_54 : decode cX10_sceneOf 54 = .ok (.iadd, 1) := by decide +kernel
theorem dX10_sceneOf_55 : decode cX10_sceneOf 55 = .ok (.iload_n 2, 1) := by decide +kernel
theorem dX10_sceneOf_56 : decode cX10_sceneOf 56 = .ok (.iadd, 1) := by decide +kernel
theorem dX10_sceneOf_57 : decode cX10_sceneOf 57 = .ok (.iaload, 1) := by decide +kernel
theorem dX10_sceneOf_58 : decode cX10_sceneOf 58 = .ok (.ireturn, 1) := by decide +kernel
theorem dX10_scene_0 : decode cX10_scene 0 = .ok (.aload_n 0, 1) := by decide +kernel
theorem dX10_scene_1 : decode cX10_scene 1 = .ok (.iload_n 1, 1) := by decide +kernel
theorem dX10_scene_2 : decode cX10_scene 2 = .ok (.iconst 0, 1) := by decide +kernel
theorem dX10_scene_3 : decode cX10_scene 3 = .ok (.aload_n 0, 1) := by decide +kernel
theorem dX10_scene_4 : decode cX10_scene 4 = .ok (.getfield 7, 3) := by decide +kernel
theorem dX10_scene_7 : decode cX10_scene 7 = .ok (.iconst 3, 1) := by decide +kernel
theorem dX10_scene_8 : decode cX10_scene 8 = .ok (.iaload, 1) := by decide +kernel
theorem dX10_scene_9 : decode cX10_scene 9 = .ok (.iconst 1, 1) := by decide +kernel
theorem dX10_scene_10 : decode cX10_scene 10 = .ok (.isub, 1) := by decide +kernel
theorem dX10_scene_11 : decode cX10_scene 11 = .ok (.invokestatic 58, 3) := by decide +kernel
theorem dX10_scene_14 : decode cX10_scene 14 = .ok (.ifCond .ne 7, 3) := by decide +kernel
theorem dX10_scene_17 : decode cX10_scene 17 = .ok (.iconst 1, 1) := by decide +kernel
theorem dX10_scene_18 : decode cX10_scene 18 = .ok (.goto 17, 3) := by decide +kernel
theorem dX10_scene_21 : decode cX10_scene 21 = .ok (.iload_n 2, 1) := by decide +kernel
theorem dX10_scene_22 : decode cX10_scene 22 = .ok (.iconst 0, 1) := by decide +kernel
theorem dX10_scene_23 : decode cX10_scene 23 = .ok (.iconst 3, 1) := by decide +kernel
theorem dX10_scene_24 : decode cX10_scene 24 = .ok (.invokestatic 58, 3) := by decide +kernel
theorem dX10_scene_27 : decode cX10_scene 27 = .ok (.ifCond .eq 7, 3) := by decide +kernel
theorem dX10_scene_30 : decode cX10_scene 30 = .ok (.iconst 0, 1) := by decide +kernel
theorem dX10_scene_31 : decode cX10_scene 31 = .ok (.goto 4, 3) := by decide +kernel
theorem dX10_scene_34 : decode cX10_scene 34 = .ok (.iconst 2, 1) := by decide +kernel
theorem dX10_scene_35 : decode cX10_scene 35 = .ok (.putfield 47, 3) := by decide +kernel
theorem dX10_scene_38 : decode cX10_scene 38 = .ok (.aload_n 0, 1) := by decide +kernel
theorem dX10_scene_39 : decode cX10_scene 39 = .ok (.getfield 47, 3) := by decide +kernel
theorem dX10_scene_42 : decode cX10_scene 42 = .ok (.ifCond .eq 7, 3) := by decide +kernel
theorem dX10_scene_45 : decode cX10_scene 45 = .ok (.iconst 0, 1) := by decide +kernel
theorem dX10_scene_46 : decode cX10_scene 46 = .ok (.goto 9, 3) := by decide +kernel
theorem dX10_scene_49 : decode cX10_scene 49 = .ok (.aload_n 0, 1) := by decide +kernel
theorem dX10_scene_50 : decode cX10_scene 50 = .ok (.iload_n 1, 1) := by decide +kernel
theorem dX10_scene_51 : decode cX10_scene 51 = .ok (.iload_n 2, 1) := by decide +kernel
theorem dX10_scene_52 : decode cX10_scene 52 = .ok (.invokevirtual 241, 3) := by decide +kernel
theorem dX10_scene_55 : decode cX10_scene 55 = .ok (.ireturn, 1) := by decide +kernel
theorem dX10_titleOf_0 : decode cX10_titleOf 0 = .ok (.aload_n 0, 1) := by decide +kernel
theorem dX10_titleOf_1 : decode cX10_titleOf 1 = .ok (.getfield 7, 3) := by decide +kernel
theorem dX10_titleOf_4 : decode cX10_titleOf 4 = .ok (.bipush 13, 2) := by decide +kernel
theorem dX10_titleOf_6 : decode cX10_titleOf 6 = .ok (.iaload, 1) := by decide +kernel
theorem dX10_titleOf_7 : decode cX10_titleOf 7 = .ok (.ifCond .eq 15, 3) := by decide +kernel
theorem dX10_titleOf_10 : decode cX10_titleOf 10 = .ok (.iload_n 1, 1) := by decide +kernel
theorem dX10_titleOf_11 : decode cX10_titleOf 11 = .ok (.iconst 2, 1) := by decide +kernel
theorem dX10_titleOf_12 : decode cX10_titleOf 12 = .ok (.if_icmp .le 14, 3) := by decide +kernel
theorem dX10_titleOf_15 : decode cX10_titleOf 15 = .ok (.aload_n 0, 1) := by decide +kernel
theorem dX10_titleOf_16 : decode cX10_titleOf 16 = .ok (.getfield 196, 3) := by decide +kernel
theorem dX10_titleOf_19 : decode cX10_titleOf 19 = .ok (.ifCond .ne 7, 3) := by decide +kernel
theorem dX10_titleOf_22 : decode cX10_titleOf 22 = .ok (.sipush (-1000), 3) := by decide +kernel
theorem dX10_titleOf_25 : decode cX10_titleOf 25 = .ok (.ireturn, 1) := by decide +kernel
theorem dX10_titleOf_26 : decode cX10_titleOf 26 = .ok (.iload_n 1, 1) := by decide +kernel
theorem dX10_titleOf_27 : decode cX10_titleOf 27 = .ok (.iconst 3, 1) := by decide +kernel
theorem dX10_titleOf_28 : decode cX10_titleOf 28 = .ok (.if_icmp .ge 15, 3) := by decide +kernel
theorem dX10_titleOf_31 : decode cX10_titleOf 31 = .ok (.aload_n 0, 1) := by decide +kernel
theorem dX10_titleOf_32 : decode cX10_titleOf 32 = .ok (.getfield 7, 3) := by decide +kernel
theorem dX10_titleOf_35 : decode cX10_titleOf 35 = .ok (.bipush 11, 2) := by decide +kernel
theorem dX10_titleOf_37 : decode cX10_titleOf 37 = .ok (.iload_n 1, 1) := by decide +kernel
theorem dX10_titleOf_38 : decode cX10_titleOf 38 = .ok (.iadd, 1) := by decide +kernel
theorem dX10_titleOf_39 : decode cX10_titleOf 39 = .ok (.iaload, 1) := by decide +kernel
theorem dX10_titleOf_40 : decode cX10_titleOf 40 = .ok (.goto 51, 3) := by decide +kernel
theorem dX10_titleOf_43 : decode cX10_titleOf 43 = .ok (.iload_n 1, 1) := by decide +kernel
theorem dX10_titleOf_44 : decode cX10_titleOf 44 = .ok (.iconst 3, 1) := by decide +kernel
theorem dX10_titleOf_45 : decode cX10_titleOf 45 = .ok (.if_icmp .ne 10, 3) := by decide +kernel
theorem dX10_titleOf_48 : decode cX10_titleOf 48 = .ok (.aload_n 0, 1) := by decide +kernel
theorem dX10_titleOf_49 : decode cX10_titleOf 49 = .ok (.getfield 204, 3) := by decide +kernel
theorem dX10_titleOf_52 : decode cX10_titleOf 52 = .ok (.goto 39, 3) := by decide +kernel
theorem dX10_titleOf_55 : decode cX10_titleOf 55 = .ok (.iload_n 1, 1) := by decide +kernel
theorem dX10_titleOf_56 : decode cX10_titleOf 56 = .ok (.iconst 4, 1) := by decide +kernel
theorem dX10_titleOf_57 : decode cX10_titleOf 57 = .ok (.if_icmp .ne 10, 3) := by decide +kernel
theorem dX10_titleOf_60 : decode cX10_titleOf 60 = .ok (.aload_n 0, 1) := by decide +kernel
theorem dX10_titleOf_61 : decode cX10_titleOf 61 = .ok (.getfield 207, 3) := by decide +kernel
theorem dX10_titleOf_64 : decode cX10_titleOf 64 = .ok (.goto 27, 3) := by decide +kernel
theorem dX10_titleOf_67 : decode cX10_titleOf 67 = .ok (.aload_n 0, 1) := by decide +kernel
theorem dX10_titleOf_68 : decode cX10_titleOf 68 = .ok (.getfield 7, 3) := by decide +kernel
theorem dX10_titleOf_71 : decode cX10_titleOf 71 = .ok (.bipush 11, 2) := by decide +kernel
theorem dX10_titleOf_73 : decode cX10_titleOf 73 = .ok (.iaload, 1) := by decide +kernel
theorem dX10_titleOf_74 : decode cX10_titleOf 74 = .ok (.aload_n 0, 1) := by decide +kernel
theorem dX10_titleOf_75 : decode cX10_titleOf 75 = .ok (.getfield 207, 3) := by decide +kernel
theorem dX10_titleOf_78 : decode cX10_titleOf 78 = .ok (.iload_n 1, 1) := by decide +kernel
theorem dX10_titleOf_79 : decode cX10_titleOf 79 = .ok (.iconst 5, 1) := by decide +kernel
theorem dX10_titleOf_80 : decode cX10_titleOf 80 = .ok (.if_icmp .ne 7, 3) := by decide +kernel
theorem dX10_titleOf_83 : decode cX10_titleOf 83 = .ok (.iconst 1, 1) := by decide +kernel
theorem dX10_titleOf_84 : decode cX10_titleOf 84 = .ok (.goto 4, 3) := by decide +kernel
theorem dX10_titleOf_87 : decode cX10_titleOf 87 = .ok (.iconst 0, 1) := by decide +kernel
theorem dX10_titleOf_88 : decode cX10_titleOf 88 = .ok (.invokestatic 166, 3) := by decide +kernel
theorem dX10_titleOf_91 : decode cX10_titleOf 91 = .ok (.ireturn, 1) := by decide +kernel
theorem dX10_title_0 : decode cX10_title 0 = .ok (.aload_n 0, 1) := by decide +kernel
theorem dX10_title_1 : decode cX10_title 1 = .ok (.iload_n 1, 1) := by decide +kernel
theorem dX10_title_2 : decode cX10_title 2 = .ok (.iconst 0, 1) := by decide +kernel
theorem dX10_title_3 : decode cX10_title 3 = .ok (.bipush 6, 2) := by decide +kernel
theorem dX10_title_5 : decode cX10_title 5 = .ok (.invokestatic 58, 3) := by decide +kernel
theorem dX10_title_8 : decode cX10_title 8 = .ok (.ifCond .eq 7, 3) := by decide +kernel
theorem dX10_title_11 : decode cX10_title 11 = .ok (.iconst 0, 1) := by decide +kernel
theorem dX10_title_12 : decode cX10_title 12 = .ok (.goto 4, 3) := by decide +kernel
theorem dX10_title_15 : decode cX10_title 15 = .ok (.iconst 1, 1) := by decide +kernel
theorem dX10_title_16 : decode cX10_title 16 = .ok (.putfield 47, 3) := by decide +kernel
theorem dX10_title_19 : decode cX10_title 19 = .ok (.aload_n 0, 1) := by decide +kernel
theorem dX10_title_20 : decode cX10_title 20 = .ok (.getfield 47, 3) := by decide +kernel
theorem dX10_title_23 : decode cX10_title 23 = .ok (.ifCond .eq 5, 3) := by decide +kernel
theorem dX10_title_26 : decode cX10_title 26 = .ok (.iconst 0, 1) := by decide +kernel
theorem dX10_title_27 : decode cX10_title 27 = .ok (.ireturn, 1) := by decide +kernel
theorem dX10_title_28 : decode cX10_title 28 = .ok (.aload_n 0, 1) := by decide +kernel
theorem dX10_title_29 : decode cX10_title 29 = .ok (.invokevirtual 235, 3) := by decide +kernel
theorem dX10_title_32 : decode cX10_title 32 = .ok (.aload_n 0, 1) := by decide +kernel
theorem dX10_title_33 : decode cX10_title 33 = .ok (.iload_n 1, 1) := by decide +kernel
theorem dX10_title_34 : decode cX10_title 34 = .ok (.invokevirtual 244, 3) := by decide +kernel
theorem dX10_title_37 : decode cX10_title 37 = .ok (.ireturn, 1) := by decide +kernel
theorem dX10_wholeOf_0 : decode cX10_wholeOf 0 = .ok (.iload_n 1, 1) := by decide +kernel
theorem dX10_wholeOf_1 : decode cX10_wholeOf 1 = .ok (.tableswitch 105 3 11 #[51, 56, 63, 70, 75, 82, 90, 95, 100], 51) := by decide +kernel
theorem dX10_wholeOf_52 : decode cX10_wholeOf 52 = .ok (.aload_n 0, 1) := by decide +kernel
theorem dX10_wholeOf_53 : decode cX10_wholeOf 53 = .ok (.getfield 163, 3) := by decide +kernel
theorem dX10_wholeOf_56 : decode cX10_wholeOf 56 = .ok (.ireturn, 1) := by decide +kernel
theorem dX10_wholeOf_57 : decode cX10_wholeOf 57 = .ok (.aload_n 0, 1) := by decide +kernel
theorem dX10_wholeOf_58 : decode cX10_wholeOf 58 = .ok (.getfield 7, 3) := by decide +kernel
theorem dX10_wholeOf_61 : decode cX10_wholeOf 61 = .ok (.iconst 3, 1) := by decide +kernel
theorem dX10_wholeOf_62 : decode cX10_wholeOf 62 = .ok (.iaload, 1) := by decide +kernel
theorem dX10_wholeOf_63 : decode cX10_wholeOf 63 = .ok (.ireturn, 1) := by decide +kernel
theorem dX10_wholeOf_64 : decode cX10_wholeOf 64 = .ok (.aload_n 0, 1) := by decide +kernel
theorem dX10_wholeOf_65 : decode cX10_wholeOf 65 = .ok (.getfield 7, 3) := by decide +kernel
theorem dX10_wholeOf_68 : decode cX10_wholeOf 68 = .ok (.iconst 4, 1) := by decide +kernel
theorem dX10_wholeOf_69 : decode cX10_wholeOf 69 = .ok (.iaload, 1) := by decide +kernel
theorem dX10_wholeOf_70 : decode cX10_wholeOf 70 = .ok (.ireturn, 1) := by decide +kernel
theorem dX10_wholeOf_71 : decode cX10_wholeOf 71 = .ok (.aload_n 0, 1) := by decide +kernel
theorem dX10_wholeOf_72 : decode cX10_wholeOf 72 = .ok (.invokevirtual 135, 3) := by decide +kernel
theorem dX10_wholeOf_75 : decode cX10_wholeOf 75 = .ok (.ireturn, 1) := by decide +kernel
theorem dX10_wholeOf_76 : decode cX10_wholeOf 76 = .ok (.aload_n 0, 1) := by decide +kernel
theorem dX10_wholeOf_77 : decode cX10_wholeOf 77 = .ok (.getfield 7, 3) := by decide +kernel
theorem dX10_wholeOf_80 : decode cX10_wholeOf 80 = .ok (.iconst 5, 1) := by decide +kernel
theorem dX10_wholeOf_81 : decode cX10_wholeOf 81 = .ok (.iaload, 1) := by decide +kernel
theorem dX10_wholeOf_82 : decode cX10_wholeOf 82 = .ok (.ireturn, 1) := by decide +kernel
theorem dX10_wholeOf_83 : decode cX10_wholeOf 83 = .ok (.aload_n 0, 1) := by decide +kernel
theorem dX10_wholeOf_84 : decode cX10_wholeOf 84 = .ok (.getfield 7, 3) := by decide +kernel
theorem dX10_wholeOf_87 : decode cX10_wholeOf 87 = .ok (.bipush 6, 2) := by decide +kernel
theorem dX10_wholeOf_89 : decode cX10_wholeOf 89 = .ok (.iaload, 1) := by decide +kernel
theorem dX10_wholeOf_90 : decode cX10_wholeOf 90 = .ok (.ireturn, 1) := by decide +kernel
theorem dX10_wholeOf_91 : decode cX10_wholeOf 91 = .ok (.aload_n 0, 1) := by decide +kernel
theorem dX10_wholeOf_92 : decode cX10_wholeOf 92 = .ok (.getfield 216, 3) := by decide +kernel
theorem dX10_wholeOf_95 : decode cX10_wholeOf 95 = .ok (.ireturn, 1) := by decide +kernel
theorem dX10_wholeOf_96 : decode cX10_wholeOf 96 = .ok (.aload_n 0, 1) := by decide +kernel
theorem dX10_wholeOf_97 : decode cX10_wholeOf 97 = .ok (.getfield 190, 3) := by decide +kernel
theorem dX10_wholeOf_100 : decode cX10_wholeOf 100 = .ok (.ireturn, 1) := by decide +kernel
theorem dX10_wholeOf_101 : decode cX10_wholeOf 101 = .ok (.aload_n 0, 1) := by decide +kernel
theorem dX10_wholeOf_102 : decode cX10_wholeOf 102 = .ok (.getfield 193, 3) := by decide +kernel
theorem dX10_wholeOf_105 : decode cX10_wholeOf 105 = .ok (.ireturn, 1) := by decide +kernel
theorem dX10_wholeOf_106 : decode cX10_wholeOf 106 = .ok (.iload_n 1, 1) := by decide +kernel
theorem dX10_wholeOf_107 : decode cX10_wholeOf 107 = .ok (.iconst 3, 1) := by decide +kernel
theorem dX10_wholeOf_108 : decode cX10_wholeOf 108 = .ok (.if_icmp .ge 12, 3) := by decide +kernel
theorem dX10_wholeOf_111 : decode cX10_wholeOf 111 = .ok (.aload_n 0, 1) := by decide +kernel
theorem dX10_wholeOf_112 : decode cX10_wholeOf 112 = .ok (.getfield 7, 3) := by decide +kernel
theorem dX10_wholeOf_115 : decode cX10_wholeOf 115 = .ok (.iload_n 1, 1) := by decide +kernel
theorem dX10_wholeOf_116 : decode cX10_wholeOf 116 = .ok (.iaload, 1) := by decide +kernel
theorem dX10_wholeOf_117 : decode cX10_wholeOf 117 = .ok (.goto 15, 3) := by decide +kernel
theorem dX10_wholeOf_120 : decode cX10_wholeOf 120 = .ok (.aload_n 0, 1) := by decide +kernel
theorem dX10_wholeOf_121 : decode cX10_wholeOf 121 = .ok (.getfield 7, 3) := by decide +kernel
theorem dX10_wholeOf_124 : decode cX10_wholeOf 124 = .ok (.bipush 7, 2) := by decide +kernel
theorem dX10_wholeOf_126 : decode cX10_wholeOf 126 = .ok (.iload_n 1, 1) := by decide +kernel
theorem dX10_wholeOf_127 : decode cX10_wholeOf 127 = .ok (.iadd, 1) := by decide +kernel
theorem dX10_wholeOf_128 : decode cX10_wholeOf 128 = .ok (.bipush 12, 2) := by decide +kernel
theorem dX10_wholeOf_130 : decode cX10_wholeOf 130 = .ok (.isub, 1) := by decide +kernel
theorem dX10_wholeOf_131 : decode cX10_wholeOf 131 = .ok (.iaload, 1) := by decide +kernel
theorem dX10_wholeOf_132 : decode cX10_wholeOf 132 = .ok (.ireturn, 1) := by decide +kernel
theorem dX10_whole_0 : decode cX10_whole 0 = .ok (.aload_n 0, 1) := by decide +kernel
theorem dX10_whole_1 : decode cX10_whole 1 = .ok (.iload_n 1, 1) := by decide +kernel
theorem dX10_whole_2 : decode cX10_whole 2 = .ok (.iconst 0, 1) := by decide +kernel
theorem dX10_whole_3 : decode cX10_whole 3 = .ok (.bipush 15, 2) := by decide +kernel
theorem dX10_whole_5 : decode cX10_whole 5 = .ok (.invokestatic 58, 3) := by decide +kernel
theorem dX10_whole_8 : decode cX10_whole 8 = .ok (.ifCond .eq 7, 3) := by decide +kernel
theorem dX10_whole_11 : decode cX10_whole 11 = .ok (.iconst 0, 1) := by decide +kernel
theorem dX10_whole_12 : decode cX10_whole 12 = .ok (.goto 4, 3) := by decide +kernel
theorem dX10_whole_15 : decode cX10_whole 15 = .ok (.iconst 1, 1) := by decide +kernel
theorem dX10_whole_16 : decode cX10_whole 16 = .ok (.putfield 47, 3) := by decide +kernel
theorem dX10_whole_19 : decode cX10_whole 19 = .ok (.aload_n 0, 1) := by decide +kernel
theorem dX10_whole_20 : decode cX10_whole 20 = .ok (.getfield 47, 3) := by decide +kernel
theorem dX10_whole_23 : decode cX10_whole 23 = .ok (.ifCond .eq 5, 3) := by decide +kernel
theorem dX10_whole_26 : decode cX10_whole 26 = .ok (.iconst 0, 1) := by decide +kernel
theorem dX10_whole_27 : decode cX10_whole 27 = .ok (.ireturn, 1) := by decide +kernel
theorem dX10_whole_28 : decode cX10_whole 28 = .ok (.aload_n 0, 1) := by decide +kernel
theorem dX10_whole_29 : decode cX10_whole 29 = .ok (.invokevirtual 235, 3) := by decide +kernel
theorem dX10_whole_32 : decode cX10_whole 32 = .ok (.aload_n 0, 1) := by decide +kernel
theorem dX10_whole_33 : decode cX10_whole 33 = .ok (.iload_n 1, 1) := by decide +kernel
theorem dX10_whole_34 : decode cX10_whole 34 = .ok (.invokevirtual 247, 3) := by decide +kernel
theorem dX10_whole_37 : decode cX10_whole 37 = .ok (.ireturn, 1) := by decide +kernel
theorem dX10_top_0 : decode cX10_top 0 = .ok (.sipush (-1000), 3) := by decide +kernel
theorem dX10_top_3 : decode cX10_top 3 = .ok (.istore 4, 2) := by decide +kernel
theorem dX10_top_5 : decode cX10_top 5 = .ok (.iconst 0, 1) := by decide +kernel
theorem dX10_top_6 : decode cX10_top 6 = .ok (.istore 5, 2) := by decide +kernel
theorem dX10_top_8 : decode cX10_top 8 = .ok (.iload 5, 2) := by decide +kernel
theorem dX10_top_10 : decode cX10_top 10 = .ok (.aload_n 0, 1) := by decide +kernel
theorem dX10_top_11 : decode cX10_top 11 = .ok (.getfield 163, 3) := by decide +kernel
theorem dX10_top_14 : decode cX10_top 14 = .ok (.if_icmp .ge 89, 3) := by decide +kernel
theorem dX10_top_17 : decode cX10_top 17 = .ok (.aload_n 0, 1) := by decide +kernel
theorem dX10_top_18 : decode cX10_top 18 = .ok (.getfield 37, 3) := by decide +kernel
theorem dX10_top_21 : decode cX10_top 21 = .ok (.iload 5, 2) := by decide +kernel
theorem dX10_top_23 : decode cX10_top 23 = .ok (.iaload, 1) := by decide +kernel
theorem dX10_top_24 : decode cX10_top 24 = .ok (.istore 6, 2) := by decide +kernel
theorem dX10_top_26 : decode cX10_top 26 = .ok (.iload_n 3, 1) := by decide +kernel
theorem dX10_top_27 : decode cX10_top 27 = .ok (.aload_n 0, 1) := by decide +kernel
theorem dX10_top_28 : decode cX10_top 28 = .ok (.getfield 28, 3) := by decide +kernel
theorem dX10_top_31 : decode cX10_top 31 = .ok (.iload 6, 2) := by decide +kernel
theorem dX10_top_33 : decode cX10_top 33 = .ok (.iaload, 1) := by decide +kernel
theorem dX10_top_34 : decode cX10_top 34 = .ok (.isub, 1) := by decide +kernel
theorem dX10_top_35 : decode cX10_top 35 = .ok (.iconst 0, 1) := by decide +kernel
theorem dX10_top_36 : decode cX10_top 36 = .ok (.aload_n 0, 1) := by decide +kernel
theorem dX10_top_37 : decode cX10_top 37 = .ok (.iload 6, 2) := by decide +kernel
theorem dX10_top_39 : decode cX10_top 39 = .ok (.iconst 5, 1) := by decide +kernel
theorem dX10_top_40 : decode cX10_top 40 = .ok (.invokevirtual 62, 3) := by decide +kernel
theorem dX10_top_43 : decode cX10_top 43 = .ok (.iconst 1, 1) := by decide +kernel
theorem dX10_top_44 : decode cX10_top 44 = .ok (.isub, 1) := by decide +kernel
theorem dX10_top_45 : decode cX10_top 45 = .ok (.invokestatic 58, 3) := by decide +kernel
theorem dX10_top_48 : decode cX10_top 48 = .ok (.ifCond .eq 32, 3) := by decide +kernel
theorem dX10_top_51 : decode cX10_top 51 = .ok (.iload_n 2, 1) := by decide +kernel
theorem dX10_top_52 : decode cX10_top 52 = .ok (.aload_n 0, 1) := by decide +kernel
theorem dX10_top_53 : decode cX10_top 53 = .ok (.iload 6, 2) := by decide +kernel
theorem dX10_top_55 : decode cX10_top 55 = .ok (.iload_n 1, 1) := by decide +kernel
theorem dX10_top_56 : decode cX10_top 56 = .ok (.invokevirtual 170, 3) := by decide +kernel
theorem dX10_top_59 : decode cX10_top 59 = .ok (.isub, 1) := by decide +kernel
theorem dX10_top_60 : decode cX10_top 60 = .ok (.iconst 0, 1) := by decide +kernel
theorem dX10_top_61 : decode cX10_top 61 = .ok (.aload_n 0, 1) := by decide +kernel
theorem dX10_top_62 : decode cX10_top 62 = .ok (.iload 6, 2) := by decide +kernel
theorem dX10_top_64 : decode cX10_top 64 = .ok (.iconst 4, 1) := by decide +kernel
theorem dX10_top_65 : decode cX10_top 65 = .ok (.invokevirtual 62, 3) := by decide +kernel
theorem dX10_top_68 : decode cX10_top 68 = .ok (.iconst 1, 1) := by decide +kernel
theorem dX10_top_69 : decode cX10_top 69 = .ok (.isub, 1) := by decide +kernel
theorem dX10_top_70 : decode cX10_top 70 = .ok (.invokestatic 58, 3) := by decide +kernel
theorem dX10_top_73 : decode cX10_top 73 = .ok (.ifCond .eq 7, 3) := by decide +kernel
theorem dX10_top_76 : decode cX10_top 76 = .ok (.iconst 1, 1) := by decide +kernel
theorem dX10_top_77 : decode cX10_top 77 = .ok (.goto 4, 3) := by decide +kernel
theorem dX10_top_80 : decode cX10_top 80 = .ok (.iconst 0, 1) := by decide +kernel
theorem dX10_top_81 : decode cX10_top 81 = .ok (.istore 7, 2) := by decide +kernel
theorem dX10_top_83 : decode cX10_top 83 = .ok (.iload 7, 2) := by decide +kernel
theorem dX10_top_85 : decode cX10_top 85 = .ok (.ifCond .eq 8, 3) := by decide +kernel
theorem dX10_top_88 : decode cX10_top 88 = .ok (.iload 6, 2) := by decide +kernel
theorem dX10_top_90 : decode cX10_top 90 = .ok (.goto 5, 3) := by decide +kernel
theorem dX10_top_93 : decode cX10_top 93 = .ok (.iload 4, 2) := by decide +kernel
theorem dX10_top_95 : decode cX10_top 95 = .ok (.istore 4, 2) := by decide +kernel
theorem dX10_top_97 : decode cX10_top 97 = .ok (.iinc 5 1, 3) := by decide +kernel
theorem dX10_top_100 : decode cX10_top 100 = .ok (.goto (-92), 3) := by decide +kernel
theorem dX10_top_103 : decode cX10_top 103 = .ok (.iload 4, 2) := by decide +kernel
theorem dX10_top_105 : decode cX10_top 105 = .ok (.ireturn, 1) := by decide +kernel
theorem dX10_isTitle_0 : decode cX10_isTitle 0 = .ok (.aload_n 0, 1) := by decide +kernel
theorem dX10_isTitle_1 : decode cX10_isTitle 1 = .ok (.getfield 196, 3) := by decide +kernel
theorem dX10_isTitle_4 : decode cX10_isTitle 4 = .ok (.ifCond .eq 48, 3) := by decide +kernel
theorem dX10_isTitle_7 : decode cX10_isTitle 7 = .ok (.iload_n 3, 1) := by decide +kernel
theorem dX10_isTitle_8 : decode cX10_isTitle 8 = .ok (.aload_n 0, 1) := by decide +kernel
theorem dX10_isTitle_9 : decode cX10_isTitle 9 = .ok (.getfield 204, 3) := by decide +kernel
theorem dX10_isTitle_12 : decode cX10_isTitle 12 = .ok (.if_icmp .ne 40, 3) := by decide +kernel
theorem dX10_isTitle_15 : decode cX10_isTitle 15 = .ok (.iload_n 2, 1) := by decide +kernel
theorem dX10_isTitle_16 : decode cX10_isTitle 16 = .ok (.aload_n 0, 1) := by decide +kernel
theorem dX10_isTitle_17 : decode cX10_isTitle 17 = .ok (.getfield 7, 3) := by decide +kernel
theorem dX10_isTitle_20 : decode cX10_isTitle 20 = .ok (.bipush 11, 2) := by decide +kernel
theorem dX10_isTitle_22 : decode cX10_isTitle 22 = .ok (.iaload, 1) := by decide +kernel
theorem dX10_isTitle_23 : decode cX10_isTitle 23 = .ok (.aload_n 0, 1) := by decide +kernel
theorem dX10_isTitle_24 : decode cX10_isTitle 24 = .ok (.getfield 207, 3) := by decide +kernel
theorem dX10_isTitle_27 : decode cX10_isTitle 27 = .ok (.iload_n 1, 1) := by decide +kernel
theorem dX10_isTitle_28 : decode cX10_isTitle 28 = .ok (.invokestatic 166, 3) := by decide +kernel
theorem dX10_isTitle_31 : decode cX10_isTitle 31 = .ok (.isub, 1) := by decide +kernel
theorem dX10_isTitle_32 : decode cX10_isTitle 32 = .ok (.iconst 0, 1) := by decide +kernel
theorem dX10_isTitle_33 : decode cX10_isTitle 33 = .ok (.aload_n 0, 1) := by decide +kernel
theorem dX10_isTitle_34 : decode cX10_isTitle 34 = .ok (.getfield 7, 3) := by decide +kernel
theorem dX10_isTitle_37 : decode cX10_isTitle 37 = .ok (.bipush 13, 2) := by decide +kernel
theorem dX10_isTitle_39 : decode cX10_isTitle 39 = .ok (.iaload, 1) := by decide +kernel
theorem dX10_isTitle_40 : decode cX10_isTitle 40 = .ok (.iconst 1, 1) := by decide +kernel
theorem dX10_isTitle_41 : decode cX10_isTitle 41 = .ok (.isub, 1) := by decide +kernel
theorem dX10_isTitle_42 : decode cX10_isTitle 42 = .ok (.invokestatic 58, 3) := by decide +kernel
theorem dX10_isTitle_45 : decode cX10_isTitle 45 = .ok (.ifCond .eq 7, 3) := by decide +kernel
theorem dX10_isTitle_48 : decode cX10_isTitle 48 = .ok (.iconst 1, 1) := by decide +kernel
theorem dX10_isTitle_49 : decode cX10_isTitle 49 = .ok (.goto 4, 3) := by decide +kernel
theorem dX10_isTitle_52 : decode cX10_isTitle 52 = .ok (.iconst 0, 1) := by decide +kernel
theorem dX10_isTitle_53 : decode cX10_isTitle 53 = .ok (.ireturn, 1) := by decide +kernel
theorem dX10_shadeOf_0 : decode cX10_shadeOf 0 = .ok (.iload_n 1, 1) := by decide +kernel
theorem dX10_shadeOf_1 : decode cX10_shadeOf 1 = .ok (.ifCond .eq 14, 3) := by decide +kernel
theorem dX10_shadeOf_4 : decode cX10_shadeOf 4 = .ok (.iload_n 2, 1) := by decide +kernel
theorem dX10_shadeOf_5 : decode cX10_shadeOf 5 = .ok (.aload_n 0, 1) := by decide +kernel
theorem dX10_shadeOf_6 : decode cX10_shadeOf 6 = .ok (.getfield 190, 3) := by decide +kernel
theorem dX10_shadeOf_9 : decode cX10_shadeOf 9 = .ok (.if_icmp .ge 23, 3) := by decide +kernel
theorem dX10_shadeOf_12 : decode cX10_shadeOf 12 = .ok (.goto 18, 3) := by decide +kernel
theorem dX10_shadeOf_15 : decode cX10_shadeOf 15 = .ok (.iload_n 2, 1) := by decide +kernel
theorem dX10_shadeOf_16 : decode cX10_shadeOf 16 = .ok (.aload_n 0, 1) := by decide +kernel
theorem dX10_shadeOf_17 : decode cX10_shadeOf 17 = .ok (.getfield 7, 3) := by decide +kernel
theorem dX10_shadeOf_20 : decode cX10_shadeOf 20 = .ok (.iconst 0, 1) := by decide +kernel
theorem dX10_shadeOf_21 : decode cX10_shadeOf 21 = .ok (.iaload, 1) := by decide +kernel
theorem dX10_shadeOf_22 : decode cX10_shadeOf 22 = .ok (.aload_n 0, 1) := by decide +kernel
theorem dX10_shadeOf_23 : decode cX10_shadeOf 23 = .ok (.getfield 193, 3) := by decide +kernel
theorem dX10_shadeOf_26 : decode cX10_shadeOf 26 = .ok (.isub, 1) := by decide +kernel
theorem dX10_shadeOf_27 : decode cX10_shadeOf 27 = .ok (.if_icmp .lt 5, 3) := by decide +kernel
theorem dX10_shadeOf_30 : decode cX10_shadeOf 30 = .ok (.iconst 0, 1) := by decide +kernel
theorem dX10_shadeOf_31 : decode cX10_shadeOf 31 = .ok (.ireturn, 1) := by decide +kernel
theorem dX10_shadeOf_32 : decode cX10_shadeOf 32 = .ok (.aload_n 0, 1) := by decide +kernel
theorem dX10_shadeOf_33 : decode cX10_shadeOf 33 = .ok (.iload_n 1, 1) := by decide +kernel
theorem dX10_shadeOf_34 : decode cX10_shadeOf 34 = .ok (.iload_n 2, 1) := by decide +kernel
theorem dX10_shadeOf_35 : decode cX10_shadeOf 35 = .ok (.iload_n 3, 1) := by decide +kernel
theorem dX10_shadeOf_36 : decode cX10_shadeOf 36 = .ok (.invokevirtual 250, 3) := by decide +kernel
theorem dX10_shadeOf_39 : decode cX10_shadeOf 39 = .ok (.istore 4, 2) := by decide +kernel
theorem dX10_shadeOf_41 : decode cX10_shadeOf 41 = .ok (.aload_n 0, 1) := by decide +kernel
theorem dX10_shadeOf_42 : decode cX10_shadeOf 42 = .ok (.iload_n 1, 1) := by decide +kernel
theorem dX10_shadeOf_43 : decode cX10_shadeOf 43 = .ok (.iload_n 2, 1) := by decide +kernel
theorem dX10_shadeOf_44 : decode cX10_shadeOf 44 = .ok (.iload_n 3, 1) := by decide +kernel
theorem dX10_shadeOf_45 : decode cX10_shadeOf 45 = .ok (.invokevirtual 254, 3) := by decide +kernel
theorem dX10_shadeOf_48 : decode cX10_shadeOf 48 = .ok (.ifCond .eq 8, 3) := by decide +kernel
theorem dX10_shadeOf_51 : decode cX10_shadeOf 51 = .ok (.bipush 15, 2) := by decide +kernel
theorem dX10_shadeOf_53 : decode cX10_shadeOf 53 = .ok (.goto 29, 3) := by decide +kernel
theorem dX10_shadeOf_56 : decode cX10_shadeOf 56 = .ok (.iload 4, 2) := by decide +kernel
theorem dX10_shadeOf_58 : decode cX10_shadeOf 58 = .ok (.sipush (-1000), 3) := by decide +kernel
theorem dX10_shadeOf_61 : decode cX10_shadeOf 61 = .ok (.if_icmp .ne 13, 3) := by decide +kernel
theorem dX10_shadeOf_64 : decode cX10_shadeOf 64 = .ok (.aload_n 0, 1) := by decide +kernel
theorem dX10_shadeOf_65 : decode cX10_shadeOf 65 = .ok (.getfield 7, 3) := by decide +kernel
theorem dX10_shadeOf_68 : decode cX10_shadeOf 68 = .ok (.bipush 9, 2) := by decide +kernel
theorem dX10_shadeOf_70 : decode cX10_shadeOf 70 = .ok (.iaload, 1) := by decide +kernel
theorem dX10_shadeOf_71 : decode cX10_shadeOf 71 = .ok (.goto 11, 3) := by decide +kernel
theorem dX10_shadeOf_74 : decode cX10_shadeOf 74 = .ok (.aload_n 0, 1) := by decide +kernel
theorem dX10_shadeOf_75 : decode cX10_shadeOf 75 = .ok (.iload 4, 2) := by decide +kernel
theorem dX10_shadeOf_77 : decode cX10_shadeOf 77 = .ok (.bipush 6, 2) := by decide +kernel
theorem dX10_shadeOf_79 : decode cX10_shadeOf 79 = .ok (.invokevirtual 62, 3) := by decide +kernel
theorem dX10_shadeOf_82 : decode cX10_shadeOf 82 = .ok (.ireturn, 1) := by decide +kernel
theorem dX10_isCell_0 : decode cX10_isCell 0 = .ok (.iload_n 1, 1) := by decide +kernel
theorem dX10_isCell_1 : decode cX10_isCell 1 = .ok (.iconst 0, 1) := by decide +kernel
theorem dX10_isCell_2 : decode cX10_isCell 2 = .ok (.aload_n 0, 1) := by decide +kernel
theorem dX10_isCell_3 : decode cX10_isCell 3 = .ok (.getfield 7, 3) := by decide +kernel
theorem dX10_isCell_6 : decode cX10_isCell 6 = .ok (.iconst 0, 1) := by decide +kernel
theorem dX10_isCell_7 : decode cX10_isCell 7 = .ok (.iaload, 1) := by decide +kernel
theorem dX10_isCell_8 : decode cX10_isCell 8 = .ok (.iconst 1, 1) := by decide +kernel
theorem dX10_isCell_9 : decode cX10_isCell 9 = .ok (.isub, 1) := by decide +kernel
theorem dX10_isCell_10 : decode cX10_isCell 10 = .ok (.invokestatic 58, 3) := by decide +kernel
theorem dX10_isCell_13 : decode cX10_isCell 13 = .ok (.ifCond .eq 23, 3) := by decide +kernel
theorem dX10_isCell_16 : decode cX10_isCell 16 = .ok (.iload_n 2, 1) := by decide +kernel
theorem dX10_isCell_17 : decode cX10_isCell 17 = .ok (.iconst 0, 1) := by decide +kernel
theorem dX10_isCell_18 : decode cX10_isCell 18 = .ok (.aload_n 0, 1) := by decide +kernel
theorem dX10_isCell_19 : decode cX10_isCell 19 = .ok (.getfield 7, 3) := by decide +kernel
theorem dX10_isCell_22 : decode cX10_isCell 22 = .ok (.iconst 1, 1) := by decide +kernel
theorem dX10_isCell_23 : decode cX10_isCell 23 = .ok (.iaload, 1) := by decide +kernel
theorem dX10_isCell_24 : decode cX10_isCell 24 = .ok (.iconst 1, 1) := by decide +kernel
theorem dX10_isCell_25 : decode cX10_isCell 25 = .ok (.isub, 1) := by decide +kernel
theorem dX10_isCell_26 : decode cX10_isCell 26 = .ok (.invokestatic 58, 3) := by decide +kernel
theorem dX10_isCell_29 : decode cX10_isCell 29 = .ok (.ifCond .eq 7, 3) := by decide +kernel
theorem dX10_isCell_32 : decode cX10_isCell 32 = .ok (.iconst 1, 1) := by decide +kernel
theorem dX10_isCell_33 : decode cX10_isCell 33 = .ok (.goto 4, 3) := by decide +kernel
theorem dX10_isCell_36 : decode cX10_isCell 36 = .ok (.iconst 0, 1) := by decide +kernel
theorem dX10_isCell_37 : decode cX10_isCell 37 = .ok (.ireturn, 1) := by decide +kernel
theorem dX10_shade_0 : decode cX10_shade 0 = .ok (.aload_n 0, 1) := by decide +kernel
theorem dX10_shade_1 : decode cX10_shade 1 = .ok (.aload_n 0, 1) := by decide +kernel
theorem dX10_shade_2 : decode cX10_shade 2 = .ok (.iload_n 2, 1) := by decide +kernel
theorem dX10_shade_3 : decode cX10_shade 3 = .ok (.iload_n 3, 1) := by decide +kernel
theorem dX10_shade_4 : decode cX10_shade 4 = .ok (.invokevirtual 258, 3) := by decide +kernel
theorem dX10_shade_7 : decode cX10_shade 7 = .ok (.ifCond .eq 7, 3) := by decide +kernel
theorem dX10_shade_10 : decode cX10_shade 10 = .ok (.iconst 0, 1) := by decide +kernel
theorem dX10_shade_11 : decode cX10_shade 11 = .ok (.goto 4, 3) := by decide +kernel
theorem dX10_shade_14 : decode cX10_shade 14 = .ok (.iconst 1, 1) := by decide +kernel
theorem dX10_shade_15 : decode cX10_shade 15 = .ok (.putfield 47, 3) := by decide +kernel
theorem dX10_shade_18 : decode cX10_shade 18 = .ok (.aload_n 0, 1) := by decide +kernel
theorem dX10_shade_19 : decode cX10_shade 19 = .ok (.getfield 47, 3) := by decide +kernel
theorem dX10_shade_22 : decode cX10_shade 22 = .ok (.ifCond .eq 5, 3) := by decide +kernel
theorem dX10_shade_25 : decode cX10_shade 25 = .ok (.iconst 0, 1) := by decide +kernel
theorem dX10_shade_26 : decode cX10_shade 26 = .ok (.ireturn, 1) := by decide +kernel
theorem dX10_shade_27 : decode cX10_shade 27 = .ok (.aload_n 0, 1) := by decide +kernel
theorem dX10_shade_28 : decode cX10_shade 28 = .ok (.invokevirtual 235, 3) := by decide +kernel
theorem dX10_shade_31 : decode cX10_shade 31 = .ok (.aload_n 0, 1) := by decide +kernel
theorem dX10_shade_32 : decode cX10_shade 32 = .ok (.iload_n 1, 1) := by decide +kernel
theorem dX10_shade_33 : decode cX10_shade 33 = .ok (.iload_n 2, 1) := by decide +kernel
theorem dX10_shade_34 : decode cX10_shade 34 = .ok (.iload_n 3, 1) := by decide +kernel
theorem dX10_shade_35 : decode cX10_shade 35 = .ok (.invokevirtual 261, 3) := by decide +kernel
theorem dX10_shade_38 : decode cX10_shade 38 = .ok (.ireturn, 1) := by decide +kernel
theorem dX10_shown_0 : decode cX10_shown 0 = .ok (.aload_n 0, 1) := by decide +kernel
theorem dX10_shown_1 : decode cX10_shown 1 = .ok (.aload_n 0, 1) := by decide +kernel
theorem dX10_shown_2 : decode cX10_shown 2 = .ok (.iload_n 2, 1) := by decide +kernel
theorem dX10_shown_3 : decode cX10_shown 3 = .ok (.iload_n 3, 1) := by decide +kernel
theorem dX10_shown_4 : decode cX10_shown 4 = .ok (.invokevirtual 258, 3) := by decide +kernel
theorem dX10_shown_7 : decode cX10_shown 7 = .ok (.ifCond .eq 7, 3) := by decide +kernel
theorem dX10_shown_10 : decode cX10_shown 10 = .ok (.iconst 0, 1) := by decide +kernel
theorem dX10_shown_11 : decode cX10_shown 11 = .ok (.goto 4, 3) := by decide +kernel
theorem dX10_shown_14 : decode cX10_shown 14 = .ok (.iconst 1, 1) := by decide +kernel
theorem dX10_shown_15 : decode cX10_shown 15 = .ok (.putfield 47, 3) := by decide +kernel
theorem dX10_shown_18 : decode cX10_shown 18 = .ok (.aload_n 0, 1) := by decide +kernel
theorem dX10_shown_19 : decode cX10_shown 19 = .ok (.getfield 47, 3) := by decide +kernel
theorem dX10_shown_22 : decode cX10_shown 22 = .ok (.ifCond .eq 5, 3) := by decide +kernel
theorem dX10_shown_25 : decode cX10_shown 25 = .ok (.iconst 0, 1) := by decide +kernel
theorem dX10_shown_26 : decode cX10_shown 26 = .ok (.ireturn, 1) := by decide +kernel
theorem dX10_shown_27 : decode cX10_shown 27 = .ok (.aload_n 0, 1) := by decide +kernel
theorem dX10_shown_28 : decode cX10_shown 28 = .ok (.invokevirtual 235, 3) := by decide +kernel
theorem dX10_shown_31 : decode cX10_shown 31 = .ok (.aload_n 0, 1) := by decide +kernel
theorem dX10_shown_32 : decode cX10_shown 32 = .ok (.iload_n 1, 1) := by decide +kernel
theorem dX10_shown_33 : decode cX10_shown 33 = .ok (.iload_n 2, 1) := by decide +kernel
theorem dX10_shown_34 : decode cX10_shown 34 = .ok (.iload_n 3, 1) := by decide +kernel
theorem dX10_shown_35 : decode cX10_shown 35 = .ok (.invokevirtual 250, 3) := by decide +kernel
theorem dX10_shown_38 : decode cX10_shown 38 = .ok (.ireturn, 1) := by decide +kernel
theorem dX10_ghostOf_0 : decode cX10_ghostOf 0 = .ok (.aload_n 0, 1) := by decide +kernel
theorem dX10_ghostOf_1 : decode cX10_ghostOf 1 = .ok (.iconst 1, 1) := by decide +kernel
theorem dX10_ghostOf_2 : decode cX10_ghostOf 2 = .ok (.iload_n 1, 1) := by decide +kernel
theorem dX10_ghostOf_3 : decode cX10_ghostOf 3 = .ok (.iload_n 2, 1) := by decide +kernel
theorem dX10_ghostOf_4 : decode cX10_ghostOf 4 = .ok (.invokevirtual 261, 3) := by decide +kernel
theorem dX10_ghostOf_7 : decode cX10_ghostOf 7 = .ok (.aload_n 0, 1) := by decide +kernel
theorem dX10_ghostOf_8 : decode cX10_ghostOf 8 = .ok (.iconst 0, 1) := by decide +kernel
theorem dX10_ghostOf_9 : decode cX10_ghostOf 9 = .ok (.iload_n 1, 1) := by decide +kernel
theorem dX10_ghostOf_10 : decode cX10_ghostOf 10 = .ok (.iload_n 2, 1) := by decide +kernel
theorem dX10_ghostOf_11 : decode cX10_ghostOf 11 = .ok (.invokevirtual 261, 3) := by decide +kernel
theorem dX10_ghostOf_14 : decode cX10_ghostOf 14 = .ok (.isub, 1) := by decide +kernel
theorem dX10_ghostOf_15 : decode cX10_ghostOf 15 = .ok (.istore_n 3, 1) := by decide +kernel
theorem dX10_ghostOf_16 : decode cX10_ghostOf 16 = .ok (.aload_n 0, 1) := by decide +kernel
theorem dX10_ghostOf_17 : decode cX10_ghostOf 17 = .ok (.getfield 7, 3) := by decide +kernel
theorem dX10_ghostOf_20 : decode cX10_ghostOf 20 = .ok (.bipush 10, 2) := by decide +kernel
theorem dX10_ghostOf_22 : decode cX10_ghostOf 22 = .ok (.iaload, 1) := by decide +kernel
theorem dX10_ghostOf_23 : decode cX10_ghostOf 23 = .ok (.iload_n 3, 1) := by decide +kernel
theorem dX10_ghostOf_24 : decode cX10_ghostOf 24 = .ok (.ifCond .ge 8, 3) := by decide +kernel
theorem dX10_ghostOf_27 : decode cX10_ghostOf 27 = .ok (.iload_n 3, 1) := by decide +kernel
theorem dX10_ghostOf_28 : decode cX10_ghostOf 28 = .ok (.ineg, 1) := by decide +kernel
theorem dX10_ghostOf_29 : decode cX10_ghostOf 29 = .ok (.goto 4, 3) := by decide +kernel
theorem dX10_ghostOf_32 : decode cX10_ghostOf 32 = .ok (.iload_n 3, 1) := by decide +kernel
theorem dX10_ghostOf_33 : decode cX10_ghostOf 33 = .ok (.imul, 1) := by decide +kernel
theorem dX10_ghostOf_34 : decode cX10_ghostOf 34 = .ok (.bipush 100, 2) := by decide +kernel
theorem dX10_ghostOf_36 : decode cX10_ghostOf 36 = .ok (.idiv, 1) := by decide +kernel
theorem dX10_ghostOf_37 : decode cX10_ghostOf 37 = .ok (.ireturn, 1) := by decide +kernel
theorem dX10_ghost_0 : decode cX10_ghost 0 = .ok (.aload_n 0, 1) := by decide +kernel
theorem dX10_ghost_1 : decode cX10_ghost 1 = .ok (.aload_n 0, 1) := by decide +kernel
theorem dX10_ghost_2 : decode cX10_ghost 2 = .ok (.iload_n 1, 1) := by decide +kernel
theorem dX10_ghost_3 : decode cX10_ghost 3 = .ok (.iload_n 2, 1) := by decide +kernel
theorem dX10_ghost_4 : decode cX10_ghost 4 = .ok (.invokevirtual 258, 3) := by decide +kernel
theorem dX10_ghost_7 : decode cX10_ghost 7 = .ok (.ifCond .eq 7, 3) := by decide +kernel
theorem dX10_ghost_10 : decode cX10_ghost 10 = .ok (.iconst 0, 1) := by decide +kernel
theorem dX10_ghost_11 : decode cX10_ghost 11 = .ok (.goto 4, 3) := by decide +kernel
theorem dX10_ghost_14 : decode cX10_ghost 14 = .ok (.iconst 1, 1) := by decide +kernel
theorem dX10_ghost_15 : decode cX10_ghost 15 = .ok (.putfield 47, 3) := by decide +kernel
theorem dX10_ghost_18 : decode cX10_ghost 18 = .ok (.aload_n 0, 1) := by decide +kernel
theorem dX10_ghost_19 : decode cX10_ghost 19 = .ok (.getfield 47, 3) := by decide +kernel
theorem dX10_ghost_22 : decode cX10_ghost 22 = .ok (.ifCond .eq 5, 3) := by decide +kernel
theorem dX10_ghost_25 : decode cX10_ghost 25 = .ok (.iconst 0, 1) := by decide +kernel
theorem dX10_ghost_26 : decode cX10_ghost 26 = .ok (.ireturn, 1) := by decide +kernel
theorem dX10_ghost_27 : decode cX10_ghost 27 = .ok (.aload_n 0, 1) := by decide +kernel
theorem dX10_ghost_28 : decode cX10_ghost 28 = .ok (.invokevirtual 235, 3) := by decide +kernel
theorem dX10_ghost_31 : decode cX10_ghost 31 = .ok (.aload_n 0, 1) := by decide +kernel
theorem dX10_ghost_32 : decode cX10_ghost 32 = .ok (.iload_n 1, 1) := by decide +kernel
theorem dX10_ghost_33 : decode cX10_ghost 33 = .ok (.iload_n 2, 1) := by decide +kernel
theorem dX10_ghost_34 : decode cX10_ghost 34 = .ok (.invokevirtual 264, 3) := by decide +kernel
theorem dX10_ghost_37 : decode cX10_ghost 37 = .ok (.ireturn, 1) := by decide +kernel
theorem dX10_ghostsNow_0 : decode cX10_ghostsNow 0 = .ok (.aload_n 0, 1) := by decide +kernel
theorem dX10_ghostsNow_1 : decode cX10_ghostsNow 1 = .ok (.invokevirtual 235, 3) := by decide +kernel
theorem dX10_ghostsNow_4 : decode cX10_ghostsNow 4 = .ok (.iconst 0, 1) := by decide +kernel
theorem dX10_ghostsNow_5 : decode cX10_ghostsNow 5 = .ok (.istore_n 2, 1) := by decide +kernel
theorem dX10_ghostsNow_6 : decode cX10_ghostsNow 6 = .ok (.iconst 0, 1) := by decide +kernel
theorem dX10_ghostsNow_7 : decode cX10_ghostsNow 7 = .ok (.istore_n 3, 1) := by decide +kernel
theorem dX10_ghostsNow_8 : decode cX10_ghostsNow 8 = .ok (.iload_n 3, 1) := by decide +kernel
theorem dX10_ghostsNow_9 : decode cX10_ghostsNow 9 = .ok (.aload_n 0, 1) := by decide +kernel
theorem dX10_ghostsNow_10 : decode cX10_ghostsNow 10 = .ok (.getfield 7, 3) := by decide +kernel
theorem dX10_ghostsNow_13 : decode cX10_ghostsNow 13 = .ok (.iconst 0, 1) := by decide +kernel
theorem dX10_ghostsNow_14 : decode cX10_ghostsNow 14 = .ok (.iaload, 1) := by decide +kernel
theorem dX10_ghostsNow_15 : decode cX10_ghostsNow 15 = .ok (.aload_n 0, 1) := by decide +kernel
theorem dX10_ghostsNow_16 : decode cX10_ghostsNow 16 = .ok (.getfield 7, 3) := by decide +kernel
theorem dX10_ghostsNow_19 : decode cX10_ghostsNow 19 = .ok (.iconst 1, 1) := by decide +kernel
theorem dX10_ghostsNow_20 : decode cX10_ghostsNow 20 = .ok (.iaload, 1) := by decide +kernel
theorem dX10_ghostsNow_21 : decode cX10_ghostsNow 21 = .ok (.imul, 1) := by decide +kernel
theorem dX10_ghostsNow_22 : decode cX10_ghostsNow 22 = .ok (.if_icmp .ge 41, 3) := by decide +kernel
theorem dX10_ghostsNow_25 : decode cX10_ghostsNow 25 = .ok (.iload_n 2, 1) := by decide +kernel
theorem dX10_ghostsNow_26 : decode cX10_ghostsNow 26 = .ok (.aload_n 0, 1) := by decide +kernel
theorem dX10_ghostsNow_27 : decode cX10_ghostsNow 27 = .ok (.iload_n 3, 1) := by decide +kernel
theorem dX10_ghostsNow_28 : decode cX10_ghostsNow 28 = .ok (.aload_n 0, 1) := by decide +kernel
theorem dX10_ghostsNow_29 : decode cX10_ghostsNow 29 = .ok (.getfield 7, 3) := by decide +kernel
theorem dX10_ghostsNow_32 : decode cX10_ghostsNow 32 = .ok (.iconst 0, 1) := by decide +kernel
theorem dX10_ghostsNow_33 : decode cX10_ghostsNow 33 = .ok (.iaload, 1) := by decide +kernel
theorem dX10_ghostsNow_34 : decode cX10_ghostsNow 34 = .ok (.irem, 1) := by decide +kernel
theorem dX10_ghostsNow_35 : decode cX10_ghostsNow 35 = .ok (.iload_n 3, 1) := by decide +kernel
theorem dX10_ghostsNow_36 : decode cX10_ghostsNow 36 = .ok (.aload_n 0, 1) := by decide +kernel
theorem dX10_ghostsNow_37 : decode cX10_ghostsNow 37 = .ok (.getfield 7, 3) := by decide +kernel
theorem dX10_ghostsNow_40 : decode cX10_ghostsNow 40 = .ok (.iconst 0, 1) := by decide +kernel
theorem dX10_ghostsNow_41 : decode cX10_ghostsNow 41 = .ok (.iaload, 1) := by decide +kernel
theorem dX10_ghostsNow_42 : decode cX10_ghostsNow 42 = .ok (.idiv, 1) := by decide +kernel
theorem dX10_ghostsNow_43 : decode cX10_ghostsNow 43 = .ok (.invokevirtual 264, 3) := by decide +kernel
theorem dX10_ghostsNow_46 : decode cX10_ghostsNow 46 = .ok (.iload_n 1, 1) := by decide +kernel
theorem dX10_ghostsNow_47 : decode cX10_ghostsNow 47 = .ok (.if_icmp .lt 7, 3) := by decide +kernel
theorem dX10_ghostsNow_50 : decode cX10_ghostsNow 50 = .ok (.iconst 1, 1) := by decide +kernel
theorem dX10_ghostsNow_51 : decode cX10_ghostsNow 51 = .ok (.goto 4, 3) := by decide +kernel
theorem dX10_ghostsNow_54 : decode cX10_ghostsNow 54 = .ok (.iconst 0, 1) := by decide +kernel
theorem dX10_ghostsNow_55 : decode cX10_ghostsNow 55 = .ok (.iadd, 1) := by decide +kernel
theorem dX10_ghostsNow_56 : decode cX10_ghostsNow 56 = .ok (.istore_n 2, 1) := by decide +kernel
theorem dX10_ghostsNow_57 : decode cX10_ghostsNow 57 = .ok (.iinc 3 1, 3) := by decide +kernel
theorem dX10_ghostsNow_60 : decode cX10_ghostsNow 60 = .ok (.goto (-52), 3) := by decide +kernel
theorem dX10_ghostsNow_63 : decode cX10_ghostsNow 63 = .ok (.iload_n 2, 1) := by decide +kernel
theorem dX10_ghostsNow_64 : decode cX10_ghostsNow 64 = .ok (.ireturn, 1) := by decide +kernel
theorem dX10_ghosts_0 : decode cX10_ghosts 0 = .ok (.aload_n 0, 1) := by decide +kernel
theorem dX10_ghosts_1 : decode cX10_ghosts 1 = .ok (.iload_n 1, 1) := by decide +kernel
theorem dX10_ghosts_2 : decode cX10_ghosts 2 = .ok (.iconst 1, 1) := by decide +kernel
theorem dX10_ghosts_3 : decode cX10_ghosts 3 = .ok (.bipush 15, 2) := by decide +kernel
theorem dX10_ghosts_5 : decode cX10_ghosts 5 = .ok (.invokestatic 58, 3) := by decide +kernel
theorem dX10_ghosts_8 : decode cX10_ghosts 8 = .ok (.ifCond .eq 7, 3) := by decide +kernel
theorem dX10_ghosts_11 : decode cX10_ghosts 11 = .ok (.iconst 0, 1) := by decide +kernel
theorem dX10_ghosts_12 : decode cX10_ghosts 12 = .ok (.goto 4, 3) := by decide +kernel
theorem dX10_ghosts_15 : decode cX10_ghosts 15 = .ok (.iconst 1, 1) := by decide +kernel
theorem dX10_ghosts_16 : decode cX10_ghosts 16 = .ok (.putfield 47, 3) := by decide +kernel
theorem dX10_ghosts_19 : decode cX10_ghosts 19 = .ok (.aload_n 0, 1) := by decide +kernel
theorem dX10_ghosts_20 : decode cX10_ghosts 20 = .ok (.getfield 47, 3) := by decide +kernel
theorem dX10_ghosts_23 : decode cX10_ghosts 23 = .ok (.ifCond .eq 7, 3) := by decide +kernel
theorem dX10_ghosts_26 : decode cX10_ghosts 26 = .ok (.iconst 0, 1) := by decide +kernel
theorem dX10_ghosts_27 : decode cX10_ghosts 27 = .ok (.goto 8, 3) := by decide +kernel
theorem dX10_ghosts_30 : decode cX10_ghosts 30 = .ok (.aload_n 0, 1) := by decide +kernel
theorem dX10_ghosts_31 : decode cX10_ghosts 31 = .ok (.iload_n 1, 1) := by decide +kernel
theorem dX10_ghosts_32 : decode cX10_ghosts 32 = .ok (.invokevirtual 267, 3) := by decide +kernel
theorem dX10_ghosts_35 : decode cX10_ghosts 35 = .ok (.ireturn, 1) := by decide +kernel
theorem dX10_meanGhost_0 : decode cX10_meanGhost 0 = .ok (.aload_n 0, 1) := by decide +kernel
theorem dX10_meanGhost_1 : decode cX10_meanGhost 1 = .ok (.iload_n 1, 1) := by decide +kernel
theorem dX10_meanGhost_2 : decode cX10_meanGhost 2 = .ok (.iconst 0, 1) := by decide +kernel
theorem dX10_meanGhost_3 : decode cX10_meanGhost 3 = .ok (.aload_n 0, 1) := by decide +kernel
theorem dX10_meanGhost_4 : decode cX10_meanGhost 4 = .ok (.getfield 7, 3) := by decide +kernel
theorem dX10_meanGhost_7 : decode cX10_meanGhost 7 = .ok (.iconst 1, 1) := by decide +kernel
theorem dX10_meanGhost_8 : decode cX10_meanGhost 8 = .ok (.iaload, 1) := by decide +kernel
theorem dX10_meanGhost_9 : decode cX10_meanGhost 9 = .ok (.iconst 1, 1) := by decide +kernel
theorem dX10_meanGhost_10 : decode cX10_meanGhost 10 = .ok (.isub, 1) := by decide +kernel
theorem dX10_meanGhost_11 : decode cX10_meanGhost 11 = .ok (.invokestatic 58, 3) := by decide +kernel
theorem dX10_meanGhost_14 : decode cX10_meanGhost 14 = .ok (.ifCond .eq 7, 3) := by decide +kernel
theorem dX10_meanGhost_17 : decode cX10_meanGhost 17 = .ok (.iconst 0, 1) := by decide +kernel
theorem dX10_meanGhost_18 : decode cX10_meanGhost 18 = .ok (.goto 4, 3) := by decide +kernel
theorem dX10_meanGhost_21 : decode cX10_meanGhost 21 = .ok (.iconst 1, 1) := by decide +kernel
theorem dX10_meanGhost_22 : decode cX10_meanGhost 22 = .ok (.putfield 47, 3) := by decide +kernel
theorem dX10_meanGhost_25 : decode cX10_meanGhost 25 = .ok (.aload_n 0, 1) := by decide +kernel
theorem dX10_meanGhost_26 : decode cX10_meanGhost 26 = .ok (.getfield 47, 3) := by decide +kernel
theorem dX10_meanGhost_29 : decode cX10_meanGhost 29 = .ok (.ifCond .eq 5, 3) := by decide +kernel
theorem dX10_meanGhost_32 : decode cX10_meanGhost 32 = .ok (.dconst 0, 1) := by decide +kernel
theorem dX10_meanGhost_33 : decode cX10_meanGhost 33 = .ok (.dreturn, 1) := by decide +kernel
theorem dX10_meanGhost_34 : decode cX10_meanGhost 34 = .ok (.aload_n 0, 1) := by decide +kernel
theorem dX10_meanGhost_35 : decode cX10_meanGhost 35 = .ok (.invokevirtual 235, 3) := by decide +kernel
theorem dX10_meanGhost_38 : decode cX10_meanGhost 38 = .ok (.iconst 0, 1) := by decide +kernel
theorem dX10_meanGhost_39 : decode cX10_meanGhost 39 = .ok (.istore_n 2, 1) := by decide +kernel
theorem dX10_meanGhost_40 : decode cX10_meanGhost 40 = .ok (.iconst 0, 1) := by decide +kernel
theorem dX10_meanGhost_41 : decode cX10_meanGhost 41 = .ok (.istore_n 3, 1) := by decide +kernel
theorem dX10_meanGhost_42 : decode cX10_meanGhost 42 = .ok (.iload_n 3, 1) := by decide +kernel
theorem dX10_meanGhost_43 : decode cX10_meanGhost 43 = .ok (.aload_n 0, 1) := by decide +kernel
theorem dX10_meanGhost_44 : decode cX10_meanGhost 44 = .ok (.getfield 7, 3) := by decide +kernel
theorem dX10_meanGhost_47 : decode cX10_meanGhost 47 = .ok (.iconst 0, 1) := by decide +kernel
theorem dX10_meanGhost_48 : decode cX10_meanGhost 48 = .ok (.iaload, 1) := by decide +kernel
theorem dX10_meanGhost_49 : decode cX10_meanGhost 49 = .ok (.if_icmp .ge 18, 3) := by decide +kernel
theorem dX10_meanGhost_52 : decode cX10_meanGhost 52 = .ok (.iload_n 2, 1) := by decide +kernel
theorem dX10_meanGhost_53 : decode cX10_meanGhost 53 = .ok (.aload_n 0, 1) := by decide +kernel
theorem dX10_meanGhost_54 : decode cX10_meanGhost 54 = .ok (.iload_n 3, 1) := by decide +kernel
theorem dX10_meanGhost_55 : decode cX10_meanGhost 55 = .ok (.iload_n 1, 1) := by decide +kernel
theorem dX10_meanGhost_56 : decode cX10_meanGhost 56 = .ok (.invokevirtual 264, 3) := by decide +kernel
theorem dX10_meanGhost_59 : decode cX10_meanGhost 59 = .ok (.iadd, 1) := by decide +kernel
theorem dX10_meanGhost_60 : decode cX10_meanGhost 60 = .ok (.istore_n 2, 1) := by decide +kernel
theorem dX10_meanGhost_61 : decode cX10_meanGhost 61 = .ok (.iinc 3 1, 3) := by decide +kernel
theorem dX10_meanGhost_64 : decode cX10_meanGhost 64 = .ok (.goto (-22), 3) := by decide +kernel
theorem dX10_meanGhost_67 : decode cX10_meanGhost 67 = .ok (.iload_n 2, 1) := by decide +kernel
theorem dX10_meanGhost_68 : decode cX10_meanGhost 68 = .ok (.i2d, 1) := by decide +kernel
theorem dX10_meanGhost_69 : decode cX10_meanGhost 69 = .ok (.aload_n 0, 1) := by decide +kernel
theorem dX10_meanGhost_70 : decode cX10_meanGhost 70 = .ok (.getfield 7, 3) := by decide +kernel
theorem dX10_meanGhost_73 : decode cX10_meanGhost 73 = .ok (.iconst 0, 1) := by decide +kernel
theorem dX10_meanGhost_74 : decode cX10_meanGhost 74 = .ok (.iaload, 1) := by decide +kernel
theorem dX10_meanGhost_75 : decode cX10_meanGhost 75 = .ok (.i2d, 1) := by decide +kernel
theorem dX10_meanGhost_76 : decode cX10_meanGhost 76 = .ok (.ddiv, 1) := by decide +kernel
theorem dX10_meanGhost_77 : decode cX10_meanGhost 77 = .ok (.dreturn, 1) := by decide +kernel
theorem dX10_isBudget_0 : decode cX10_isBudget 0 = .ok (.iload_n 0, 1) := by decide +kernel
theorem dX10_isBudget_1 : decode cX10_isBudget 1 = .ok (.bipush (-20), 2) := by decide +kernel
theorem dX10_isBudget_3 : decode cX10_isBudget 3 = .ok (.iconst 0, 1) := by decide +kernel
theorem dX10_isBudget_4 : decode cX10_isBudget 4 = .ok (.invokestatic 58, 3) := by decide +kernel
theorem dX10_isBudget_7 : decode cX10_isBudget 7 = .ok (.ifCond .eq 17, 3) := by decide +kernel
theorem dX10_isBudget_10 : decode cX10_isBudget 10 = .ok (.iload_n 1, 1) := by decide +kernel
theorem dX10_isBudget_11 : decode cX10_isBudget 11 = .ok (.iconst 0, 1) := by decide +kernel
theorem dX10_isBudget_12 : decode cX10_isBudget 12 = .ok (.bipush 20, 2) := by decide +kernel
theorem dX10_isBudget_14 : decode cX10_isBudget 14 = .ok (.invokestatic 58, 3) := by decide +kernel
theorem dX10_isBudget_17 : decode cX10_isBudget 17 = .ok (.ifCond .eq 7, 3) := by decide +kernel
theorem dX10_isBudget_20 : decode cX10_isBudget 20 = .ok (.iconst 1, 1) := by decide +kernel
theorem dX10_isBudget_21 : decode cX10_isBudget 21 = .ok (.goto 4, 3) := by decide +kernel
theorem dX10_isBudget_24 : decode cX10_isBudget 24 = .ok (.iconst 0, 1) := by decide +kernel
theorem dX10_isBudget_25 : decode cX10_isBudget 25 = .ok (.ireturn, 1) := by decide +kernel
theorem dX10_percentageFor_0 : decode cX10_percentageFor 0 = .ok (.aload_n 0, 1) := by decide +kernel
theorem dX10_percentageFor_1 : decode cX10_percentageFor 1 = .ok (.iload_n 1, 1) := by decide +kernel
theorem dX10_percentageFor_2 : decode cX10_percentageFor 2 = .ok (.iload_n 2, 1) := by decide +kernel
theorem dX10_percentageFor_3 : decode cX10_percentageFor 3 = .ok (.invokestatic 270, 3) := by decide +kernel
theorem dX10_percentageFor_6 : decode cX10_percentageFor 6 = .ok (.ifCond .eq 7, 3) := by decide +kernel
theorem dX10_percentageFor_9 : decode cX10_percentageFor 9 = .ok (.iconst 0, 1) := by decide +kernel
theorem dX10_percentageFor_10 : decode cX10_percentageFor 10 = .ok (.goto 4, 3) := by decide +kernel
theorem dX10_percentageFor_13 : decode cX10_percentageFor 13 = .ok (.iconst 1, 1) := by decide +kernel
theorem dX10_percentageFor_14 : decode cX10_percentageFor 14 = .ok (.putfield 47, 3) := by decide +kernel
theorem dX10_percentageFor_17 : decode cX10_percentageFor 17 = .ok (.aload_n 0, 1) := by decide +kernel
theorem dX10_percentageFor_18 : decode cX10_percentageFor 18 = .ok (.getfield 47, 3) := by decide +kernel
theorem dX10_percentageFor_21 : decode cX10_percentageFor 21 = .ok (.ifCond .eq 5, 3) := by decide +kernel
theorem dX10_percentageFor_24 : decode cX10_percentageFor 24 = .ok (.iconst 0, 1) := by decide +kernel
theorem dX10_percentageFor_25 : decode cX10_percentageFor 25 = .ok (.ireturn, 1) := by decide +kernel
theorem dX10_percentageFor_26 : decode cX10_percentageFor 26 = .ok (.aload_n 0, 1) := by decide +kernel
theorem dX10_percentageFor_27 : decode cX10_percentageFor 27 = .ok (.invokevirtual 210, 3) := by decide +kernel
theorem dX10_percentageFor_30 : decode cX10_percentageFor 30 = .ok (.aload_n 0, 1) := by decide +kernel
theorem dX10_percentageFor_31 : decode cX10_percentageFor 31 = .ok (.iload_n 1, 1) := by decide +kernel
theorem dX10_percentageFor_32 : decode cX10_percentageFor 32 = .ok (.iload_n 2, 1) := by decide +kernel
theorem dX10_percentageFor_33 : decode cX10_percentageFor 33 = .ok (.invokevirtual 213, 3) := by decide +kernel
theorem dX10_percentageFor_36 : decode cX10_percentageFor 36 = .ok (.ireturn, 1) := by decide +kernel
theorem dX10_fittingGain_0 : decode cX10_fittingGain 0 = .ok (.aload_n 0, 1) := by decide +kernel
theorem dX10_fittingGain_1 : decode cX10_fittingGain 1 = .ok (.iconst 0, 1) := by decide +kernel
theorem dX10_fittingGain_2 : decode cX10_fittingGain 2 = .ok (.putfield 47, 3) := by decide +kernel
theorem dX10_fittingGain_5 : decode cX10_fittingGain 5 = .ok (.aload_n 0, 1) := by decide +kernel
theorem dX10_fittingGain_6 : decode cX10_fittingGain 6 = .ok (.invokevirtual 210, 3) := by decide +kernel
theorem dX10_fittingGain_9 : decode cX10_fittingGain 9 = .ok (.aload_n 0, 1) := by decide +kernel
theorem dX10_fittingGain_10 : decode cX10_fittingGain 10 = .ok (.getfield 7, 3) := by decide +kernel
theorem dX10_fittingGain_13 : decode cX10_fittingGain 13 = .ok (.bipush 7, 2) := by decide +kernel
theorem dX10_fittingGain_15 : decode cX10_fittingGain 15 = .ok (.iaload, 1) := by decide +kernel
theorem dX10_fittingGain_16 : decode cX10_fittingGain 16 = .ok (.istore_n 1, 1) := by decide +kernel
theorem dX10_fittingGain_17 : decode cX10_fittingGain 17 = .ok (.aload_n 0, 1) := by decide +kernel
theorem dX10_fittingGain_18 : decode cX10_fittingGain 18 = .ok (.getfield 7, 3) := by decide +kernel
theorem dX10_fittingGain_21 : decode cX10_fittingGain 21 = .ok (.bipush 7, 2) := by decide +kernel
theorem dX10_fittingGain_23 : decode cX10_fittingGain 23 = .ok (.bipush 100, 2) := by decide +kernel
theorem dX10_fittingGain_25 : decode cX10_fittingGain 25 = .ok (.iastore, 1) := by decide +kernel
theorem dX10_fittingGain_26 : decode cX10_fittingGain 26 = .ok (.aload_n 0, 1) := by decide +kernel
theorem dX10_fittingGain_27 : decode cX10_fittingGain 27 = .ok (.bipush 100, 2) := by decide +kernel
theorem dX10_fittingGain_29 : decode cX10_fittingGain 29 = .ok (.aload_n 0, 1) := by decide +kernel
theorem dX10_fittingGain_30 : decode cX10_fittingGain 30 = .ok (.getfield 7, 3) := by decide +kernel
theorem dX10_fittingGain_33 : decode cX10_fittingGain 33 = .ok (.iconst 5, 1) := by decide +kernel
theorem dX10_fittingGain_34 : decode cX10_fittingGain 34 = .ok (.iaload, 1) := by decide +kernel
theorem dX10_fittingGain_35 : decode cX10_fittingGain 35 = .ok (.aload_n 0, 1) := by decide +kernel
theorem dX10_fittingGain_36 : decode cX10_fittingGain 36 = .ok (.getfield 7, 3) := by decide +kernel
theorem dX10_fittingGain_39 : decode cX10_fittingGain 39 = .ok (.bipush 6, 2) := by decide +kernel
theorem dX10_fittingGain_41 : decode cX10_fittingGain 41 = .ok (.iaload, 1) := by decide +kernel
theorem dX10_fittingGain_42 : decode cX10_fittingGain 42 = .ok (.invokevirtual 157, 3) := by decide +kernel
theorem dX10_fittingGain_45 : decode cX10_fittingGain 45 = .ok (.ifCond .ne 17, 3) := by decide +kernel
theorem dX10_fittingGain_48 : decode cX10_fittingGain 48 = .ok (.aload_n 0, 1) := by decide +kernel
theorem dX10_fittingGain_49 : decode cX10_fittingGain 49 = .ok (.getfield 7, 3) := by decide +kernel
theorem dX10_fittingGain_52 : decode cX10_fittingGain 52 = .ok (.bipush 7, 2) := by decide +kernel
theorem dX10_fittingGain_54 : decode cX10_fittingGain 54 = .ok (.dup2, 1) := by decide +kernel
theorem dX10_fittingGain_55 : decode cX10_fittingGain 55 = .ok (.iaload, 1) := by decide +kernel
theorem dX10_fittingGain_56 : decode cX10_fittingGain 56 = .ok (.iconst 1, 1) := by decide +kernel
theorem dX10_fittingGain_57 : decode cX10_fittingGain 57 = .ok (.isub, 1) := by decide +kernel
theorem dX10_fittingGain_58 : decode cX10_fittingGain 58 = .ok (.iastore, 1) := by decide +kernel
theorem dX10_fittingGain_59 : decode cX10_fittingGain 59 = .ok (.goto (-33), 3) := by decide +kernel
theorem dX10_fittingGain_62 : decode cX10_fittingGain 62 = .ok (.aload_n 0, 1) := by decide +kernel
theorem dX10_fittingGain_63 : decode cX10_fittingGain 63 = .ok (.getfield 7, 3) := by decide +kernel
theorem dX10_fittingGain_66 : decode cX10_fittingGain 66 = .ok (.bipush 7, 2) := by decide +kernel
theorem dX10_fittingGain_68 : decode cX10_fittingGain 68 = .ok (.iaload, 1) := by decide +kernel
theorem dX10_fittingGain_69 : decode cX10_fittingGain 69 = .ok (.istore_n 2, 1) := by decide +kernel
theorem dX10_fittingGain_70 : decode cX10_fittingGain 70 = .ok (.aload_n 0, 1) := by decide +kernel
theorem dX10_fittingGain_71 : decode cX10_fittingGain 71 = .ok (.getfield 7, 3) := by decide +kernel
theorem dX10_fittingGain_74 : decode cX10_fittingGain 74 = .ok (.bipush 7, 2) := by decide +kernel
theorem dX10_fittingGain_76 : decode cX10_fittingGain 76 = .ok (.iload_n 1, 1) := by decide +kernel
theorem dX10_fittingGain_77 : decode cX10_fittingGain 77 = .ok (.iastore, 1) := by decide +kernel
theorem dX10_fittingGain_78 : decode cX10_fittingGain 78 = .ok (.iload_n 2, 1) := by decide +kernel
theorem dX10_fittingGain_79 : decode cX10_fittingGain 79 = .ok (.ireturn, 1) := by decide +kernel
theorem dX10_fullAfter_0 : decode cX10_fullAfter 0 = .ok (.aload_n 0, 1) := by decide +kernel
theorem dX10_fullAfter_1 : decode cX10_fullAfter 1 = .ok (.iload_n 1, 1) := by decide +kernel
theorem dX10_fullAfter_2 : decode cX10_fullAfter 2 = .ok (.iconst 0, 1) := by decide +kernel
theorem dX10_fullAfter_3 : decode cX10_fullAfter 3 = .ok (.sipush 200, 3) := by decide +kernel
theorem dX10_fullAfter_6 : decode cX10_fullAfter 6 = .ok (.invokestatic 58, 3) := by decide +kernel
theorem dX10_fullAfter_9 : decode cX10_fullAfter 9 = .ok (.ifCond .eq 7, 3) := by decide +kernel
theorem dX10_fullAfter_12 : decode cX10_fullAfter 12 = .ok (.iconst 0, 1) := by decide +kernel
theorem dX10_fullAfter_13 : decode cX10_fullAfter 13 = .ok (.goto 4, 3) := by decide +kernel
theorem dX10_fullAfter_16 : decode cX10_fullAfter 16 = .ok (.iconst 1, 1) := by decide +kernel
theorem dX10_fullAfter_17 : decode cX10_fullAfter 17 = .ok (.putfield 47, 3) := by decide +kernel
theorem dX10_fullAfter_20 : decode cX10_fullAfter 20 = .ok (.aload_n 0, 1) := by decide +kernel
theorem dX10_fullAfter_21 : decode cX10_fullAfter 21 = .ok (.getfield 47, 3) := by decide +kernel
theorem dX10_fullAfter_24 : decode cX10_fullAfter 24 = .ok (.ifCond .eq 5, 3) := by decide +kernel
theorem dX10_fullAfter_27 : decode cX10_fullAfter 27 = .ok (.iconst 0, 1) := by decide +kernel
theorem dX10_fullAfter_28 : decode cX10_fullAfter 28 = .ok (.ireturn, 1) := by decide +kernel
theorem dX10_fullAfter_29 : decode cX10_fullAfter 29 = .ok (.aload_n 0, 1) := by decide +kernel
theorem dX10_fullAfter_30 : decode cX10_fullAfter 30 = .ok (.invokevirtual 210, 3) := by decide +kernel
theorem dX10_fullAfter_33 : decode cX10_fullAfter 33 = .ok (.aload_n 0, 1) := by decide +kernel
theorem dX10_fullAfter_34 : decode cX10_fullAfter 34 = .ok (.getfield 7, 3) := by decide +kernel
theorem dX10_fullAfter_37 : decode cX10_fullAfter 37 = .ok (.iconst 0, 1) := by decide +kernel
theorem dX10_fullAfter_38 : decode cX10_fullAfter 38 = .ok (.aload_n 0, 1) := by decide +kernel
theorem dX10_fullAfter_39 : decode cX10_fullAfter 39 = .ok (.getfield 13, 3) := by decide +kernel
theorem dX10_fullAfter_42 : decode cX10_fullAfter 42 = .ok (.iconst 0, 1) := by decide +kernel
theorem dX10_fullAfter_43 : decode cX10_fullAfter 43 = .ok (.invokestatic 54, 3) := by decide +kernel
theorem dX10_fullAfter_46 : decode cX10_fullAfter 46 = .ok (.iconst 0, 1) := by decide +kernel
theorem dX10_fullAfter_47 : decode cX10_fullAfter 47 = .ok (.istore_n 2, 1) := by decide +kernel
theorem dX10_fullAfter_48 : decode cX10_fullAfter 48 = .ok (.iload_n 2, 1) := by decide +kernel
theorem dX10_fullAfter_49 : decode cX10_fullAfter 49 = .ok (.iload_n 1, 1) := by decide +kernel
theorem dX10_fullAfter_50 : decode cX10_fullAfter 50 = .ok (.if_icmp .gt 35, 3) := by decide +kernel
theorem dX10_fullAfter_53 : decode cX10_fullAfter 53 = .ok (.aload_n 0, 1) := by decide +kernel
theorem dX10_fullAfter_54 : decode cX10_fullAfter 54 = .ok (.bipush 100, 2) := by decide +kernel
theorem dX10_fullAfter_56 : decode cX10_fullAfter 56 = .ok (.aload_n 0, 1) := by decide +kernel
theorem dX10_fullAfter_57 : decode cX10_fullAfter 57 = .ok (.getfield 7, 3) := by decide +kernel
theorem dX10_fullAfter_60 : decode cX10_fullAfter 60 = .ok (.iconst 5, 1) := by decide +kernel
theorem dX10_fullAfter_61 : decode cX10_fullAfter 61 = .ok (.iaload, 1) := by decide +kernel
theorem dX10_fullAfter_62 : decode cX10_fullAfter 62 = .ok (.aload_n 0, 1) := by decide +kernel
theorem dX10_fullAfter_63 : decode cX10_fullAfter 63 = .ok (.getfield 7, 3) := by decide +kernel
theorem dX10_fullAfter_66 : decode cX10_fullAfter 66 = .ok (.bipush 6, 2) := by decide +kernel
theorem dX10_fullAfter_68 : decode cX10_fullAfter 68 = .ok (.iaload, 1) := by decide +kernel
theorem dX10_fullAfter_69 : decode cX10_fullAfter 69 = .ok (.invokevirtual 157, 3) := by decide +kernel
theorem dX10_fullAfter_72 : decode cX10_fullAfter 72 = .ok (.ifCond .ne 13, 3) := by decide +kernel
theorem dX10_fullAfter_75 : decode cX10_fullAfter 75 = .ok (.aload_n 0, 1) := by decide +kernel
theorem dX10_fullAfter_76 : decode cX10_fullAfter 76 = .ok (.invokevirtual 142, 3) := by decide +kernel
theorem dX10_fullAfter_79 : decode cX10_fullAfter 79 = .ok (.iinc 2 1, 3) := by decide +kernel
theorem dX10_fullAfter_82 : decode cX10_fullAfter 82 = .ok (.goto (-34), 3) := by decide +kernel
theorem dX10_fullAfter_85 : decode cX10_fullAfter 85 = .ok (.aload_n 0, 1) := by decide +kernel
theorem dX10_fullAfter_86 : decode cX10_fullAfter 86 = .ok (.getfield 13, 3) := by decide +kernel
theorem dX10_fullAfter_89 : decode cX10_fullAfter 89 = .ok (.iconst 0, 1) := by decide +kernel
theorem dX10_fullAfter_90 : decode cX10_fullAfter 90 = .ok (.aload_n 0, 1) := by decide +kernel
theorem dX10_fullAfter_91 : decode cX10_fullAfter 91 = .ok (.getfield 7, 3) := by decide +kernel
theorem dX10_fullAfter_94 : decode cX10_fullAfter 94 = .ok (.iconst 0, 1) := by decide +kernel
theorem dX10_fullAfter_95 : decode cX10_fullAfter 95 = .ok (.invokestatic 54, 3) := by decide +kernel
theorem dX10_fullAfter_98 : decode cX10_fullAfter 98 = .ok (.iload_n 2, 1) := by decide +kernel
theorem dX10_fullAfter_99 : decode cX10_fullAfter 99 = .ok (.iload_n 1, 1) := by decide +kernel
theorem dX10_fullAfter_100 : decode cX10_fullAfter 100 = .ok (.if_icmp .le 9, 3) := by decide +kernel
theorem dX10_fullAfter_103 : decode cX10_fullAfter 103 = .ok (.sipush (-1000), 3) := by decide +kernel
theorem dX10_fullAfter_106 : decode cX10_fullAfter 106 = .ok (.goto 4, 3) := by decide +kernel
theorem dX10_fullAfter_109 : decode cX10_fullAfter 109 = .ok (.iload_n 2, 1) := by decide +kernel
theorem dX10_fullAfter_110 : decode cX10_fullAfter 110 = .ok (.ireturn, 1) := by decide +kernel
theorem dX10_ghostsWithout_0 : decode cX10_ghostsWithout 0 = .ok (.aload_n 0, 1) := by decide +kernel
theorem dX10_ghostsWithout_1 : decode cX10_ghostsWithout 1 = .ok (.aload_n 0, 1) := by decide +kernel
theorem dX10_ghostsWithout_2 : decode cX10_ghostsWithout 2 = .ok (.iload_n 1, 1) := by decide +kernel
theorem dX10_ghostsWithout_3 : decode cX10_ghostsWithout 3 = .ok (.invokevirtual 75, 3) := by decide +kernel
theorem dX10_ghostsWithout_6 : decode cX10_ghostsWithout 6 = .ok (.ifCond .ne 7, 3) := by decide +kernel
theorem dX10_ghostsWithout_9 : decode cX10_ghostsWithout 9 = .ok (.iconst 1, 1) := by decide +kernel
theorem dX10_ghostsWithout_10 : decode cX10_ghostsWithout 10 = .ok (.goto 18, 3) := by decide +kernel
theorem dX10_ghostsWithout_13 : decode cX10_ghostsWithout 13 = .ok (.iload_n 2, 1) := by decide +kernel
theorem dX10_ghostsWithout_14 : decode cX10_ghostsWithout 14 = .ok (.iconst 1, 1) := by decide +kernel
theorem dX10_ghostsWithout_15 : decode cX10_ghostsWithout 15 = .ok (.bipush 15, 2) := by decide +kernel
theorem dX10_ghostsWithout_17 : decode cX10_ghostsWithout 17 = .ok (.invokestatic 58, 3) := by decide +kernel
theorem dX10_ghostsWithout_20 : decode cX10_ghostsWithout 20 = .ok (.ifCond .eq 7, 3) := by decide +kernel
theorem dX10_ghostsWithout_23 : decode cX10_ghostsWithout 23 = .ok (.iconst 0, 1) := by decide +kernel
theorem dX10_ghostsWithout_24 : decode cX10_ghostsWithout 24 = .ok (.goto 4, 3) := by decide +kernel
theorem dX10_ghostsWithout_27 : decode cX10_ghostsWithout 27 = .ok (.iconst 2, 1) := by decide +kernel
theorem dX10_ghostsWithout_28 : decode cX10_ghostsWithout 28 = .ok (.putfield 47, 3) := by decide +kernel
theorem dX10_ghostsWithout_31 : decode cX10_ghostsWithout 31 = .ok (.aload_n 0, 1) := by decide +kernel
theorem dX10_ghostsWithout_32 : decode cX10_ghostsWithout 32 = .ok (.getfield 47, 3) := by decide +kernel
theorem dX10_ghostsWithout_35 : decode cX10_ghostsWithout 35 = .ok (.ifCond .eq 5, 3) := by decide +kernel
theorem dX10_ghostsWithout_38 : decode cX10_ghostsWithout 38 = .ok (.iconst 0, 1) := by decide +kernel
theorem dX10_ghostsWithout_39 : decode cX10_ghostsWithout 39 = .ok (.ireturn, 1) := by decide +kernel
theorem dX10_ghostsWithout_40 : decode cX10_ghostsWithout 40 = .ok (.aload_n 0, 1) := by decide +kernel
theorem dX10_ghostsWithout_41 : decode cX10_ghostsWithout 41 = .ok (.getfield 7, 3) := by decide +kernel
theorem dX10_ghostsWithout_44 : decode cX10_ghostsWithout 44 = .ok (.iconst 0, 1) := by decide +kernel
theorem dX10_ghostsWithout_45 : decode cX10_ghostsWithout 45 = .ok (.aload_n 0, 1) := by decide +kernel
theorem dX10_ghostsWithout_46 : decode cX10_ghostsWithout 46 = .ok (.getfield 13, 3) := by decide +kernel
theorem dX10_ghostsWithout_49 : decode cX10_ghostsWithout 49 = .ok (.iconst 0, 1) := by decide +kernel
theorem dX10_ghostsWithout_50 : decode cX10_ghostsWithout 50 = .ok (.invokestatic 54, 3) := by decide +kernel
theorem dX10_ghostsWithout_53 : decode cX10_ghostsWithout 53 = .ok (.aload_n 0, 1) := by decide +kernel
theorem dX10_ghostsWithout_54 : decode cX10_ghostsWithout 54 = .ok (.iload_n 1, 1) := by decide +kernel
theorem dX10_ghostsWithout_55 : decode cX10_ghostsWithout 55 = .ok (.invokevirtual 113, 3) := by decide +kernel
theorem dX10_ghostsWithout_58 : decode cX10_ghostsWithout 58 = .ok (.istore_n 3, 1) := by decide +kernel
theorem dX10_ghostsWithout_59 : decode cX10_ghostsWithout 59 = .ok (.aload_n 0, 1) := by decide +kernel
theorem dX10_ghostsWithout_60 : decode cX10_ghostsWithout 60 = .ok (.iload_n 2, 1) := by decide +kernel
theorem dX10_ghostsWithout_61 : decode cX10_ghostsWithout 61 = .ok (.invokevirtual 267, 3) := by decide +kernel
theorem dX10_ghostsWithout_64 : decode cX10_ghostsWithout 64 = .ok (.istore 4, 2) := by decide +kernel
theorem dX10_ghostsWithout_66 : decode cX10_ghostsWithout 66 = .ok (.aload_n 0, 1) := by decide +kernel
theorem dX10_ghostsWithout_67 : decode cX10_ghostsWithout 67 = .ok (.getfield 13, 3) := by decide +kernel
theorem dX10_ghostsWithout_70 : decode cX10_ghostsWithout 70 = .ok (.iconst 0, 1) := by decide +kernel
theorem dX10_ghostsWithout_71 : decode cX10_ghostsWithout 71 = .ok (.aload_n 0, 1) := by decide +kernel
theorem dX10_ghostsWithout_72 : decode cX10_ghostsWithout 72 = .ok (.getfield 7, 3) := by decide +kernel
theorem dX10_ghostsWithout_75 : decode cX10_ghostsWithout 75 = .ok (.iconst 0, 1) := by decide +kernel
theorem dX10_ghostsWithout_76 : decode cX10_ghostsWithout 76 = .ok (.invokestatic 54, 3) := by decide +kernel
theorem dX10_ghostsWithout_79 : decode cX10_ghostsWithout 79 = .ok (.iload 4, 2) := by decide +kernel
theorem dX10_ghostsWithout_81 : decode cX10_ghostsWithout 81 = .ok (.ireturn, 1) := by decide +kernel
theorem dX10_type_0 : decode cX10_type 0 = .ok (.aload_n 0, 1) := by decide +kernel
theorem dX10_type_1 : decode cX10_type 1 = .ok (.iload_n 1, 1) := by decide +kernel
theorem dX10_type_2 : decode cX10_type 2 = .ok (.iconst 0, 1) := by decide +kernel
theorem dX10_type_3 : decode cX10_type 3 = .ok (.bipush 127, 2) := by decide +kernel
theorem dX10_type_5 : decode cX10_type 5 = .ok (.invokestatic 58, 3) := by decide +kernel
theorem dX10_type_8 : decode cX10_type 8 = .ok (.ifCond .ne 7, 3) := by decide +kernel
theorem dX10_type_11 : decode cX10_type 11 = .ok (.iconst 1, 1) := by decide +kernel
theorem dX10_type_12 : decode cX10_type 12 = .ok (.goto 18, 3) := by decide +kernel
theorem dX10_type_15 : decode cX10_type 15 = .ok (.aload_n 0, 1) := by decide +kernel
theorem dX10_type_16 : decode cX10_type 16 = .ok (.getfield 273, 3) := by decide +kernel
theorem dX10_type_19 : decode cX10_type 19 = .ok (.sipush 150, 3) := by decide +kernel
theorem dX10_type_22 : decode cX10_type 22 = .ok (.if_icmp .ne 7, 3) := by decide +kernel
theorem dX10_type_25 : decode cX10_type 25 = .ok (.iconst 2, 1) := by decide +kernel
theorem dX10_type_26 : decode cX10_type 26 = .ok (.goto 4, 3) := by decide +kernel
theorem dX10_type_29 : decode cX10_type 29 = .ok (.iconst 0, 1) := by decide +kernel
theorem dX10_type_30 : decode cX10_type 30 = .ok (.putfield 47, 3) := by decide +kernel
theorem dX10_type_33 : decode cX10_type 33 = .ok (.aload_n 0, 1) := by decide +kernel
theorem dX10_type_34 : decode cX10_type 34 = .ok (.getfield 47, 3) := by decide +kernel
theorem dX10_type_37 : decode cX10_type 37 = .ok (.ifCond .eq 5, 3) := by decide +kernel
theorem dX10_type_40 : decode cX10_type 40 = .ok (.iconst 0, 1) := by decide +kernel
theorem dX10_type_41 : decode cX10_type 41 = .ok (.ireturn, 1) := by decide +kernel
theorem dX10_type_42 : decode cX10_type 42 = .ok (.aload_n 0, 1) := by decide +kernel
theorem dX10_type_43 : decode cX10_type 43 = .ok (.getfield 19, 3) := by decide +kernel
theorem dX10_type_46 : decode cX10_type 46 = .ok (.aload_n 0, 1) := by decide +kernel
theorem dX10_type_47 : decode cX10_type 47 = .ok (.getfield 273, 3) := by decide +kernel
theorem dX10_type_50 : decode cX10_type 50 = .ok (.iload_n 1, 1) := by decide +kernel
theorem dX10_type_51 : decode cX10_type 51 = .ok (.iastore, 1) := by decide +kernel
theorem dX10_type_52 : decode cX10_type 52 = .ok (.aload_n 0, 1) := by decide +kernel
theorem dX10_type_53 : decode cX10_type 53 = .ok (.dup, 1) := by decide +kernel
theorem dX10_type_54 : decode cX10_type 54 = .ok (.getfield 273, 3) := by decide +kernel
theorem dX10_type_57 : decode cX10_type 57 = .ok (.iconst 1, 1) := by decide +kernel
theorem dX10_type_58 : decode cX10_type 58 = .ok (.iadd, 1) := by decide +kernel
theorem dX10_type_59 : decode cX10_type 59 = .ok (.putfield 273, 3) := by decide +kernel
theorem dX10_type_62 : decode cX10_type 62 = .ok (.aload_n 0, 1) := by decide +kernel
theorem dX10_type_63 : decode cX10_type 63 = .ok (.getfield 273, 3) := by decide +kernel
theorem dX10_type_66 : decode cX10_type 66 = .ok (.ireturn, 1) := by decide +kernel
theorem dX10_clearCommands_0 : decode cX10_clearCommands 0 = .ok (.aload_n 0, 1) := by decide +kernel
theorem dX10_clearCommands_1 : decode cX10_clearCommands 1 = .ok (.iconst 0, 1) := by decide +kernel
theorem dX10_clearCommands_2 : decode cX10_clearCommands 2 = .ok (.putfield 47, 3) := by decide +kernel
theorem dX10_clearCommands_5 : decode cX10_clearCommands 5 = .ok (.aload_n 0, 1) := by decide +kernel
theorem dX10_clearCommands_6 : decode cX10_clearCommands 6 = .ok (.getfield 273, 3) := by decide +kernel
theorem dX10_clearCommands_9 : decode cX10_clearCommands 9 = .ok (.istore_n 1, 1) := by decide +kernel
theorem dX10_clearCommands_10 : decode cX10_clearCommands 10 = .ok (.aload_n 0, 1) := by decide +kernel
theorem dX10_clearCommands_11 : decode cX10_clearCommands 11 = .ok (.iconst 0, 1) := by decide +kernel
theorem dX10_clearCommands_12 : decode cX10_clearCommands 12 = .ok (.putfield 273, 3) := by decide +kernel
theorem dX10_clearCommands_15 : decode cX10_clearCommands 15 = .ok (.iload_n 1, 1) := by decide +kernel
theorem dX10_clearCommands_16 : decode cX10_clearCommands 16 = .ok (.ireturn, 1) := by decide +kernel
theorem dX10_here_0 : decode cX10_here 0 = .ok (.aload_n 0, 1) := by decide +kernel
theorem dX10_here_1 : decode cX10_here 1 = .ok (.getfield 276, 3) := by decide +kernel
theorem dX10_here_4 : decode cX10_here 4 = .ok (.aload_n 0, 1) := by decide +kernel
theorem dX10_here_5 : decode cX10_here 5 = .ok (.getfield 273, 3) := by decide +kernel
theorem dX10_here_8 : decode cX10_here 8 = .ok (.if_icmp .ge 15, 3) := by decide +kernel
theorem dX10_here_11 : decode cX10_here 11 = .ok (.aload_n 0, 1) := by decide +kernel
theorem dX10_here_12 : decode cX10_here 12 = .ok (.getfield 19, 3) := by decide +kernel
theorem dX10_here_15 : decode cX10_here 15 = .ok (.aload_n 0, 1) := by decide +kernel
theorem dX10_here_16 : decode cX10_here 16 = .ok (.getfield 276, 3) := by decide +kernel
theorem dX10_here_19 : decode cX10_here 19 = .ok (.iaload, 1) := by decide +kernel
theorem dX10_here_20 : decode cX10_here 20 = .ok (.goto 6, 3) := by decide +kernel
theorem dX10_here_23 : decode cX10_here 23 = .ok (.sipush (-1000), 3) := by decide +kernel
theorem dX10_here_26 : decode cX10_here 26 = .ok (.ireturn, 1) := by decide +kernel
theorem dX10_skips_0 : decode cX10_skips 0 = .ok (.aload_n 0, 1) := by decide +kernel
theorem dX10_skips_1 : decode cX10_skips 1 = .ok (.getfield 276, 3) := by decide +kernel
theorem dX10_skips_4 : decode cX10_skips 4 = .ok (.istore_n 1, 1) := by decide +kernel
theorem dX10_skips_5 : decode cX10_skips 5 = .ok (.aload_n 0, 1) := by decide +kernel
theorem dX10_skips_6 : decode cX10_skips 6 = .ok (.invokevirtual 279, 3) := by decide +kernel
theorem dX10_skips_9 : decode cX10_skips 9 = .ok (.bipush 32, 2) := by decide +kernel
theorem dX10_skips_11 : decode cX10_skips 11 = .ok (.if_icmp .ne 16, 3) := by decide +kernel
theorem dX10_skips_14 : decode cX10_skips 14 = .ok (.aload_n 0, 1) := by decide +kernel
theorem dX10_skips_15 : decode cX10_skips 15 = .ok (.dup, 1) := by decide +kernel
theorem dX10_skips_16 : decode cX10_skips 16 = .ok (.getfield 276, 3) := by decide +kernel
theorem dX10_skips_19 : decode cX10_skips 19 = .ok (.iconst 1, 1) := by decide +kernel
theorem dX10_skips_20 : decode cX10_skips 20 = .ok (.iadd, 1) := by decide +kernel
theorem dX10_skips_21 : decode cX10_skips 21 = .ok (.putfield 276, 3) := by decide +kernel
theorem dX10_skips_24 : decode cX10_skips 24 = .ok (.goto (-19), 3) := by decide +kernel
theorem dX10_skips_27 : decode cX10_skips 27 = .ok (.aload_n 0, 1) := by decide +kernel
theorem dX10_skips_28 : decode cX10_skips 28 = .ok (.getfield 276, 3) := by decide +kernel
theorem dX10_skips_31 : decode cX10_skips 31 = .ok (.iload_n 1, 1) := by decide +kernel
theorem dX10_skips_32 : decode cX10_skips 32 = .ok (.if_icmp .le 7, 3) := by decide +kernel
theorem dX10_skips_35 : decode cX10_skips 35 = .ok (.iconst 1, 1) := by decide +kernel
theorem dX10_skips_36 : decode cX10_skips 36 = .ok (.goto 4, 3) := by decide +kernel
theorem dX10_skips_39 : decode cX10_skips 39 = .ok (.iconst 0, 1) := by decide +kernel
theorem dX10_skips_40 : decode cX10_skips 40 = .ok (.ireturn, 1) := by decide +kernel
theorem dX10_commandOf_0 : decode cX10_commandOf 0 = .ok (.lload_n 0, 1) := by decide +kernel
theorem dX10_commandOf_1 : decode cX10_commandOf 1 = .ok (.ldc2_w 282, 3) := by decide +kernel
theorem dX10_commandOf_4 : decode cX10_commandOf 4 = .ok (.lcmp, 1) := by decide +kernel
theorem dX10_commandOf_5 : decode cX10_commandOf 5 = .ok (.ifCond .ne 7, 3) := by decide +kernel
theorem dX10_commandOf_8 : decode cX10_commandOf 8 = .ok (.iconst 0, 1) := by decide +kernel
theorem dX10_commandOf_9 : decode cX10_commandOf 9 = .ok (.goto 105, 3) := by decide +kernel
theorem dX10_commandOf_12 : decode cX10_commandOf 12 = .ok (.lload_n 0, 1) := by decide +kernel
theorem dX10_commandOf_13 : decode cX10_commandOf 13 = .ok (.ldc2_w 284, 3) := by decide +kernel
theorem dX10_commandOf_16 : decode cX10_commandOf 16 = .ok (.lcmp, 1) := by decide +kernel
theorem dX10_commandOf_17 : decode cX10_commandOf 17 = .ok (.ifCond .ne 7, 3) := by decide +kernel
theorem dX10_commandOf_20 : decode cX10_commandOf 20 = .ok (.iconst 1, 1) := by decide +kernel
theorem dX10_commandOf_21 : decode cX10_commandOf 21 = .ok (.goto 93, 3) := by decide +kernel
theorem dX10_commandOf_24 : decode cX10_commandOf 24 = .ok (.lload_n 0, 1) := by decide +kernel
theorem dX10_commandOf_25 : decode cX10_commandOf 25 = .ok (.ldc2_w 286, 3) := by decide +kernel
theorem dX10_commandOf_28 : decode cX10_commandOf 28 = .ok (.lcmp, 1) := by decide +kernel
theorem dX10_commandOf_29 : decode cX10_commandOf 29 = .ok (.ifCond .ne 7, 3) := by decide +kernel
theorem dX10_commandOf_32 : decode cX10_commandOf 32 = .ok (.iconst 2, 1) := by decide +kernel
theorem dX10_commandOf_33 : decode cX10_commandOf 33 = .ok (.goto 81, 3) := by decide +kernel
theorem dX10_commandOf_36 : decode cX10_commandOf 36 = .ok (.lload_n 0, 1) := by decide +kernel
theorem dX10_commandOf_37 : decode cX10_commandOf 37 = .ok (.ldc2_w 288, 3) := by decide +kernel
theorem dX10_commandOf_40 : decode cX10_commandOf 40 = .ok (.lcmp, 1) := by decide +kernel
theorem dX10_commandOf_41 : decode cX10_commandOf 41 = .ok (.ifCond .ne 7, 3) := by decide +kernel
theorem dX10_commandOf_44 : decode cX10_commandOf 44 = .ok (.iconst 3, 1) := by decide +kernel
theorem dX10_commandOf_45 : decode cX10_commandOf 45 = .ok (.goto 69, 3) := by decide +kernel
theorem dX10_commandOf_48 : decode cX10_commandOf 48 = .ok (.lload_n 0, 1) := by decide +kernel
theorem dX10_commandOf_49 : decode cX10_commandOf 49 = .ok (.ldc2_w 290, 3) := by decide +kernel
theorem dX10_commandOf_52 : decode cX10_commandOf 52 = .ok (.lcmp, 1) := by decide +kernel
theorem dX10_commandOf_53 : decode cX10_commandOf 53 = .ok (.ifCond .ne 7, 3) := by decide +kernel
theorem dX10_commandOf_56 : decode cX10_commandOf 56 = .ok (.iconst 4, 1) := by decide +kernel
theorem dX10_commandOf_57 : decode cX10_commandOf 57 = .ok (.goto 57, 3) := by decide +kernel
theorem dX10_commandOf_60 : decode cX10_commandOf 60 = .ok (.lload_n 0, 1) := by decide +kernel
theorem dX10_commandOf_61 : decode cX10_commandOf 61 = .ok (.ldc2_w 292, 3) := by decide +kernel
theorem dX10_commandOf_64 : decode cX10_commandOf 64 = .ok (.lcmp, 1) := by decide +kernel
theorem dX10_commandOf_65 : decode cX10_commandOf 65 = .ok (.ifCond .ne 7, 3) := by decide +kernel
theorem dX10_commandOf_68 : decode cX10_commandOf 68 = .ok (.iconst 5, 1) := by decide +kernel
theorem dX10_commandOf_69 : decode cX10_commandOf 69 = .ok (.goto 45, 3) := by decide +kernel
theorem dX10_commandOf_72 : decode cX10_commandOf 72 = .ok (.lload_n 0, 1) := by decide +kernel
theorem dX10_commandOf_73 : decode cX10_commandOf 73 = .ok (.ldc2_w 294, 3) := by decide +kernel
theorem dX10_commandOf_76 : decode cX10_commandOf 76 = .ok (.lcmp, 1) := by decide +kernel
theorem dX10_commandOf_77 : decode cX10_commandOf 77 = .ok (.ifCond .ne 8, 3) := by decide +kernel
theorem dX10_commandOf_80 : decode cX10_commandOf 80 = .ok (.bipush 6, 2) := by decide +kernel
theorem dX10_commandOf_82 : decode cX10_commandOf 82 = .ok (.goto 32, 3) := by decide +kernel
theorem dX10_commandOf_85 : decode cX10_commandOf 85 = .ok (.lload_n 0, 1) := by decide +kernel
theorem dX10_commandOf_86 : decode cX10_commandOf 86 = .ok (.ldc2_w 296, 3) := by decide +kernel
theorem dX10_commandOf_89 : decode cX10_commandOf 89 = .ok (.lcmp, 1) := by decide +kernel
theorem dX10_commandOf_90 : decode cX10_commandOf 90 = .ok (.ifCond .ne 8, 3) := by decide +kernel
theorem dX10_commandOf_93 : decode cX10_commandOf 93 = .ok (.bipush 7, 2) := by decide +kernel
theorem dX10_commandOf_95 : decode cX10_commandOf 95 = .ok (.goto 19, 3) := by decide +kernel
theorem dX10_commandOf_98 : decode cX10_commandOf 98 = .ok (.lload_n 0, 1) := by decide +kernel
theorem dX10_commandOf_99 : decode cX10_commandOf 99 = .ok (.ldc2_w 298, 3) := by decide +kernel
theorem dX10_commandOf_102 : decode cX10_commandOf 102 = .ok (.lcmp, 1) := by decide +kernel
theorem dX10_commandOf_103 : decode cX10_commandOf 103 = .ok (.ifCond .ne 8, 3) := by decide +kernel
theorem dX10_commandOf_106 : decode cX10_commandOf 106 = .ok (.bipush 8, 2) := by decide +kernel
theorem dX10_commandOf_108 : decode cX10_commandOf 108 = .ok (.goto 6, 3) := by decide +kernel
theorem dX10_commandOf_111 : decode cX10_commandOf 111 = .ok (.sipush (-1000), 3) := by decide +kernel
theorem dX10_commandOf_114 : decode cX10_commandOf 114 = .ok (.ireturn, 1) := by decide +kernel
theorem dX10_readWord_0 : decode cX10_readWord 0 = .ok (.aload_n 0, 1) := by decide +kernel
theorem dX10_readWord_1 : decode cX10_readWord 1 = .ok (.getfield 276, 3) := by decide +kernel
theorem dX10_readWord_4 : decode cX10_readWord 4 = .ok (.istore_n 1, 1) := by decide +kernel
theorem dX10_readWord_5 : decode cX10_readWord 5 = .ok (.lconst 0, 1) := by decide +kernel
theorem dX10_readWord_6 : decode cX10_readWord 6 = .ok (.lstore_n 2, 1) := by decide +kernel
theorem dX10_readWord_7 : decode cX10_readWord 7 = .ok (.aload_n 0, 1) := by decide +kernel
theorem dX10_readWord_8 : decode cX10_readWord 8 = .ok (.invokevirtual 279, 3) := by decide +kernel
theorem dX10_readWord_11 : decode cX10_readWord 11 = .ok (.bipush 97, 2) := by decide +kernel
theorem dX10_readWord_13 : decode cX10_readWord 13 = .ok (.bipush 122, 2) := by decide +kernel
theorem dX10_readWord_15 : decode cX10_readWord 15 = .ok (.invokestatic 58, 3) := by decide +kernel
theorem dX10_readWord_18 : decode cX10_readWord 18 = .ok (.ifCond .eq 49, 3) := by decide +kernel
theorem dX10_readWord_21 : decode cX10_readWord 21 = .ok (.aload_n 0, 1) := by decide +kernel
theorem dX10_readWord_22 : decode cX10_readWord 22 = .ok (.getfield 276, 3) := by decide +kernel
theorem dX10_readWord_25 : decode cX10_readWord 25 = .ok (.iload_n 1, 1) := by decide +kernel
theorem dX10_readWord_26 : decode cX10_readWord 26 = .ok (.isub, 1) := by decide +kernel
theorem dX10_readWord_27 : decode cX10_readWord 27 = .ok (.bipush 6, 2) := by decide +kernel
theorem dX10_readWord_29 : decode cX10_readWord 29 = .ok (.if_icmp .ge 21, 3) := by decide +kernel
theorem dX10_readWord_32 : decode cX10_readWord 32 = .ok (.lload_n 2, 1) := by decide +kernel
theorem dX10_readWord_33 : decode cX10_readWord 33 = .ok (.ldc2_w 300, 3) := by decide +kernel
theorem dX10_readWord_36 : decode cX10_readWord 36 = .ok (.lmul, 1) := by decide +kernel
theorem dX10_readWord_37 : decode cX10_readWord 37 = .ok (.aload_n 0, 1) := by decide +kernel
theorem dX10_readWord_38 : decode cX10_readWord 38 = .ok (.invokevirtual 279, 3) := by decide +kernel
theorem dX10_readWord_41 : decode cX10_readWord 41 = .ok (.i2l, 1) := by decide +kernel
theorem dX10_readWord_42 : decode cX10_readWord 42 = .ok (.ladd, 1) := by decide +kernel
theorem dX10_readWord_43 : decode cX10_readWord 43 = .ok (.ldc2_w 302, 3) := by decide +kernel
theorem dX10_readWord_46 : decode cX10_readWord 46 = .ok (.lsub, 1) := by decide +kernel
theorem dX10_readWord_47 : decode cX10_readWord 47 = .ok (.goto 6, 3) := by decide +kernel
theorem dX10_readWord_50 : decode cX10_readWord 50 = .ok (.ldc2_w 304, 3) := by decide +kernel
theorem dX10_readWord_53 : decode cX10_readWord 53 = .ok (.lstore_n 2, 1) := by decide +kernel
theorem dX10_readWord_54 : decode cX10_readWord 54 = .ok (.aload_n 0, 1) := by decide +kernel
theorem dX10_readWord_55 : decode cX10_readWord 55 = .ok (.dup, 1) := by decide +kernel
theorem dX10_readWord_56 : decode cX10_readWord 56 = .ok (.getfield 276, 3) := by decide +kernel
theorem dX10_readWord_59 : decode cX10_readWord 59 = .ok (.iconst 1, 1) := by decide +kernel
theorem dX10_readWord_60 : decode cX10_readWord 60 = .ok (.iadd, 1) := by decide +kernel
theorem dX10_readWord_61 : decode cX10_readWord 61 = .ok (.putfield 276, 3) := by decide +kernel
theorem dX10_readWord_64 : decode cX10_readWord 64 = .ok (.goto (-57), 3) := by decide +kernel
theorem dX10_readWord_67 : decode cX10_readWord 67 = .ok (.aload_n 0, 1) := by decide +kernel
theorem dX10_readWord_68 : decode cX10_readWord 68 = .ok (.aload_n 0, 1) := by decide +kernel
theorem dX10_readWord_69 : decode cX10_readWord 69 = .ok (.getfield 276, 3) := by decide +kernel
theorem dX10_readWord_72 : decode cX10_readWord 72 = .ok (.iload_n 1, 1) := by decide +kernel
theorem dX10_readWord_73 : decode cX10_readWord 73 = .ok (.isub, 1) := by decide +kernel
theorem dX10_readWord_74 : decode cX10_readWord 74 = .ok (.iconst 5, 1) := by decide +kernel
theorem dX10_readWord_75 : decode cX10_readWord 75 = .ok (.if_icmp .le 9, 3) := by decide +kernel
theorem dX10_readWord_78 : decode cX10_readWord 78 = .ok (.sipush (-1000), 3) := by decide +kernel
theorem dX10_readWord_81 : decode cX10_readWord 81 = .ok (.goto 7, 3) := by decide +kernel
theorem dX10_readWord_84 : decode cX10_readWord 84 = .ok (.lload_n 2, 1) := by decide +kernel
theorem dX10_readWord_85 : decode cX10_readWord 85 = .ok (.invokestatic 306, 3) := by decide +kernel
theorem dX10_readWord_88 : decode cX10_readWord 88 = .ok (.putfield 310, 3) := by decide +kernel
theorem dX10_readWord_91 : decode cX10_readWord 91 = .ok (.aload_n 0, 1) := by decide +kernel
theorem dX10_readWord_92 : decode cX10_readWord 92 = .ok (.aload_n 0, 1) := by decide +kernel
theorem dX10_readWord_93 : decode cX10_readWord 93 = .ok (.getfield 310, 3) := by decide +kernel
theorem dX10_readWord_96 : decode cX10_readWord 96 = .ok (.sipush (-1000), 3) := by decide +kernel
theorem dX10_readWord_99 : decode cX10_readWord 99 = .ok (.if_icmp .ne 7, 3) := by decide +kernel
theorem dX10_readWord_102 : decode cX10_readWord 102 = .ok (.iload_n 1, 1) := by decide +kernel
theorem dX10_readWord_103 : decode cX10_readWord 103 = .ok (.goto 7, 3) := by decide +kernel
theorem dX10_readWord_106 : decode cX10_readWord 106 = .ok (.aload_n 0, 1) := by decide +kernel
theorem dX10_readWord_107 : decode cX10_readWord 107 = .ok (.getfield 276, 3) := by decide +kernel
theorem dX10_readWord_110 : decode cX10_readWord 110 = .ok (.putfield 276, 3) := by decide +kernel
theorem dX10_readWord_113 : decode cX10_readWord 113 = .ok (.aload_n 0, 1) := by decide +kernel
theorem dX10_readWord_114 : decode cX10_readWord 114 = .ok (.getfield 310, 3) := by decide +kernel
theorem dX10_readWord_117 : decode cX10_readWord 117 = .ok (.sipush (-1000), 3) := by decide +kernel
theorem dX10_readWord_120 : decode cX10_readWord 120 = .ok (.if_icmp .eq 7, 3) := by decide +kernel
theorem dX10_readWord_123 : decode cX10_readWord 123 = .ok (.iconst 1, 1) := by decide +kernel
theorem dX10_readWord_124 : decode cX10_readWord 124 = .ok (.goto 4, 3) := by decide +kernel
theorem dX10_readWord_127 : decode cX10_readWord 127 = .ok (.iconst 0, 1) := by decide +kernel
theorem dX10_readWord_128 : decode cX10_readWord 128 = .ok (.ireturn, 1) := by decide +kernel
theorem dX10_readNumber_0 : decode cX10_readNumber 0 = .ok (.aload_n 0, 1) := by decide +kernel
theorem dX10_readNumber_1 : decode cX10_readNumber 1 = .ok (.invokevirtual 313, 3) := by decide +kernel
theorem dX10_readNumber_4 : decode cX10_readNumber 4 = .ok (.ifCond .ne 5, 3) := by decide +kernel
theorem dX10_readNumber_7 : decode cX10_readNumber 7 = .ok (.iconst 0, 1) := by decide +kernel
theorem dX10_readNumber_8 : decode cX10_readNumber 8 = .ok (.ireturn, 1) := by decide +kernel
theorem dX10_readNumber_9 : decode cX10_readNumber 9 = .ok (.aload_n 0, 1) := by decide +kernel
theorem dX10_readNumber_10 : decode cX10_readNumber 10 = .ok (.getfield 276, 3) := by decide +kernel
theorem dX10_readNumber_13 : decode cX10_readNumber 13 = .ok (.istore_n 2, 1) := by decide +kernel
theorem dX10_readNumber_14 : decode cX10_readNumber 14 = .ok (.iconst 0, 1) := by decide +kernel
theorem dX10_readNumber_15 : decode cX10_readNumber 15 = .ok (.istore_n 3, 1) := by decide +kernel
theorem dX10_readNumber_16 : decode cX10_readNumber 16 = .ok (.aload_n 0, 1) := by decide +kernel
theorem dX10_readNumber_17 : decode cX10_readNumber 17 = .ok (.getfield 276, 3) := by decide +kernel
theorem dX10_readNumber_20 : decode cX10_readNumber 20 = .ok (.iload_n 2, 1) := by decide +kernel
theorem dX10_readNumber_21 : decode cX10_readNumber 21 = .ok (.iconst 3, 1) := by decide +kernel
theorem dX10_readNumber_22 : decode cX10_readNumber 22 = .ok (.iadd, 1) := by decide +kernel
theorem dX10_readNumber_23 : decode cX10_readNumber 23 = .ok (.if_icmp .ge 43, 3) := by decide +kernel
theorem dX10_readNumber_26 : decode cX10_readNumber 26 = .ok (.aload_n 0, 1) := by decide +kernel
theorem dX10_readNumber_27 : decode cX10_readNumber 27 = .ok (.invokevirtual 279, 3) := by decide +kernel
theorem dX10_readNumber_30 : decode cX10_readNumber 30 = .ok (.bipush 48, 2) := by decide +kernel
theorem dX10_readNumber_32 : decode cX10_readNumber 32 = .ok (.bipush 57, 2) := by decide +kernel
theorem dX10_readNumber_34 : decode cX10_readNumber 34 = .ok (.invokestatic 58, 3) := by decide +kernel
theorem dX10_readNumber_37 : decode cX10_readNumber 37 = .ok (.ifCond .eq 29, 3) := by decide +kernel
theorem dX10_readNumber_40 : decode cX10_readNumber 40 = .ok (.bipush 10, 2) := by decide +kernel
theorem dX10_readNumber_42 : decode cX10_readNumber 42 = .ok (.iload_n 3, 1) := by decide +kernel
theorem dX10_readNumber_43 : decode cX10_readNumber 43 = .ok (.imul, 1) := by decide +kernel
theorem dX10_readNumber_44 : decode cX10_readNumber 44 = .ok (.aload_n 0, 1) := by decide +kernel
theorem dX10_readNumber_45 : decode cX10_readNumber 45 = .ok (.invokevirtual 279, 3) := by decide +kernel
theorem dX10_readNumber_48 : decode cX10_readNumber 48 = .ok (.iadd, 1) := by decide +kernel
theorem dX10_readNumber_49 : decode cX10_readNumber 49 = .ok (.bipush 48, 2) := by decide +kernel
theorem dX10_readNumber_51 : decode cX10_readNumber 51 = .ok (.isub, 1) := by decide +kernel
theorem dX10_readNumber_52 : decode cX10_readNumber 52 = .ok (.istore_n 3, 1) := by decide +kernel
theorem dX10_readNumber_53 : decode cX10_readNumber 53 = .ok (.aload_n 0, 1) := by decide +kernel
theorem dX10_readNumber_54 : decode cX10_readNumber 54 = .ok (.dup, 1) := by decide +kernel
theorem dX10_readNumber_55 : decode cX10_readNumber 55 = .ok (.getfield 276, 3) := by decide +kernel
theorem dX10_readNumber_58 : decode cX10_readNumber 58 = .ok (.iconst 1, 1) := by decide +kernel
theorem dX10_readNumber_59 : decode cX10_readNumber 59 = .ok (.iadd, 1) := by decide +kernel
theorem dX10_readNumber_60 : decode cX10_readNumber 60 = .ok (.putfield 276, 3) := by decide +kernel
theorem dX10_readNumber_63 : decode cX10_readNumber 63 = .ok (.goto (-47), 3) := by decide +kernel
theorem dX10_readNumber_66 : decode cX10_readNumber 66 = .ok (.aload_n 0, 1) := by decide +kernel
theorem dX10_readNumber_67 : decode cX10_readNumber 67 = .ok (.getfield 40, 3) := by decide +kernel
theorem dX10_readNumber_70 : decode cX10_readNumber 70 = .ok (.iload_n 1, 1) := by decide +kernel
theorem dX10_readNumber_71 : decode cX10_readNumber 71 = .ok (.iload_n 3, 1) := by decide +kernel
theorem dX10_readNumber_72 : decode cX10_readNumber 72 = .ok (.iastore, 1) := by decide +kernel
theorem dX10_readNumber_73 : decode cX10_readNumber 73 = .ok (.aload_n 0, 1) := by decide +kernel
theorem dX10_readNumber_74 : decode cX10_readNumber 74 = .ok (.getfield 276, 3) := by decide +kernel
theorem dX10_readNumber_77 : decode cX10_readNumber 77 = .ok (.iload_n 2, 1) := by decide +kernel
theorem dX10_readNumber_78 : decode cX10_readNumber 78 = .ok (.if_icmp .le 7, 3) := by decide +kernel
theorem dX10_readNumber_81 : decode cX10_readNumber 81 = .ok (.iconst 1, 1) := by decide +kernel
theorem dX10_readNumber_82 : decode cX10_readNumber 82 = .ok (.goto 4, 3) := by decide +kernel
theorem dX10_readNumber_85 : decode cX10_readNumber 85 = .ok (.iconst 0, 1) := by decide +kernel
theorem dX10_readNumber_86 : decode cX10_readNumber 86 = .ok (.ireturn, 1) := by decide +kernel
theorem dX10_manyFor_0 : decode cX10_manyFor 0 = .ok (.aload_n 0, 1) := by decide +kernel
theorem dX10_manyFor_1 : decode cX10_manyFor 1 = .ok (.getfield 310, 3) := by decide +kernel
theorem dX10_manyFor_4 : decode cX10_manyFor 4 = .ok (.tableswitch 61 0 8 #[54, 61, 58, 56, 61, 54, 61, 52, 52], 52) := by decide +kernel
theorem dX10_manyFor_56 : decode cX10_manyFor 56 = .ok (.iconst 1, 1) := by decide +kernel
theorem dX10_manyFor_57 : decode cX10_manyFor 57 = .ok (.ireturn, 1) := by decide +kernel
theorem dX10_manyFor_58 : decode cX10_manyFor 58 = .ok (.iconst 2, 1) := by decide +kernel
theorem dX10_manyFor_59 : decode cX10_manyFor 59 = .ok (.ireturn, 1) := by decide +kernel
theorem dX10_manyFor_60 : decode cX10_manyFor 60 = .ok (.iconst 4, 1) := by decide +kernel
theorem dX10_manyFor_61 : decode cX10_manyFor 61 = .ok (.ireturn, 1) := by decide +kernel
theorem dX10_manyFor_62 : decode cX10_manyFor 62 = .ok (.bipush 6, 2) := by decide +kernel
theorem dX10_manyFor_64 : decode cX10_manyFor 64 = .ok (.ireturn, 1) := by decide +kernel
theorem dX10_manyFor_65 : decode cX10_manyFor 65 = .ok (.iconst 3, 1) := by decide +kernel
theorem dX10_manyFor_66 : decode cX10_manyFor 66 = .ok (.ireturn, 1) := by decide +kernel
theorem dX10_readCommand_0 : decode cX10_readCommand 0 = .ok (.aload_n 0, 1) := by decide +kernel
theorem dX10_readCommand_1 : decode cX10_readCommand 1 = .ok (.invokevirtual 317, 3) := by decide +kernel
theorem dX10_readCommand_4 : decode cX10_readCommand 4 = .ok (.ifCond .ne 5, 3) := by decide +kernel
theorem dX10_readCommand_7 : decode cX10_readCommand 7 = .ok (.iconst 0, 1) := by decide +kernel
theorem dX10_readCommand_8 : decode cX10_readCommand 8 = .ok (.ireturn, 1) := by decide +kernel
theorem dX10_readCommand_9 : decode cX10_readCommand 9 = .ok (.iconst 0, 1) := by decide +kernel
theorem dX10_readCommand_10 : decode cX10_readCommand 10 = .ok (.istore_n 1, 1) := by decide +kernel
theorem dX10_readCommand_11 : decode cX10_readCommand 11 = .ok (.iload_n 1, 1) := by decide +kernel
theorem dX10_readCommand_12 : decode cX10_readCommand 12 = .ok (.aload_n 0, 1) := by decide +kernel
theorem dX10_readCommand_13 : decode cX10_readCommand 13 = .ok (.invokevirtual 320, 3) := by decide +kernel
theorem dX10_readCommand_16 : decode cX10_readCommand 16 = .ok (.if_icmp .ge 19, 3) := by decide +kernel
theorem dX10_readCommand_19 : decode cX10_readCommand 19 = .ok (.aload_n 0, 1) := by decide +kernel
theorem dX10_readCommand_20 : decode cX10_readCommand 20 = .ok (.iload_n 1, 1) := by decide +kernel
theorem dX10_readCommand_21 : decode cX10_readCommand 21 = .ok (.invokevirtual 323, 3) := by decide +kernel
theorem dX10_readCommand_24 : decode cX10_readCommand 24 = .ok (.ifCond .ne 5, 3) := by decide +kernel
theorem dX10_readCommand_27 : decode cX10_readCommand 27 = .ok (.iconst 0, 1) := by decide +kernel
theorem dX10_readCommand_28 : decode cX10_readCommand 28 = .ok (.ireturn, 1) := by decide +kernel
theorem dX10_readCommand_29 : decode cX10_readCommand 29 = .ok (.iinc 1 1, 3) := by decide +kernel
theorem dX10_readCommand_32 : decode cX10_readCommand 32 = .ok (.goto (-21), 3) := by decide +kernel
theorem dX10_readCommand_35 : decode cX10_readCommand 35 = .ok (.aload_n 0, 1) := by decide +kernel
theorem dX10_readCommand_36 : decode cX10_readCommand 36 = .ok (.invokevirtual 313, 3) := by decide +kernel
theorem dX10_readCommand_39 : decode cX10_readCommand 39 = .ok (.istore_n 1, 1) := by decide +kernel
theorem dX10_readCommand_40 : decode cX10_readCommand 40 = .ok (.aload_n 0, 1) := by decide +kernel
theorem dX10_readCommand_41 : decode cX10_readCommand 41 = .ok (.invokevirtual 279, 3) := by decide +kernel
theorem dX10_readCommand_44 : decode cX10_readCommand 44 = .ok (.bipush 59, 2) := by decide +kernel
theorem dX10_readCommand_46 : decode cX10_readCommand 46 = .ok (.if_icmp .eq 5, 3) := by decide +kernel
theorem dX10_readCommand_49 : decode cX10_readCommand 49 = .ok (.iconst 0, 1) := by decide +kernel
theorem dX10_readCommand_50 : decode cX10_readCommand 50 = .ok (.ireturn, 1) := by decide +kernel
theorem dX10_readCommand_51 : decode cX10_readCommand 51 = .ok (.aload_n 0, 1) := by decide +kernel
theorem dX10_readCommand_52 : decode cX10_readCommand 52 = .ok (.dup, 1) := by decide +kernel
theorem dX10_readCommand_53 : decode cX10_readCommand 53 = .ok (.getfield 276, 3) := by decide +kernel
theorem dX10_readCommand_56 : decode cX10_readCommand 56 = .ok (.iconst 1, 1) := by decide +kernel
theorem dX10_readCommand_57 : decode cX10_readCommand 57 = .ok (.iadd, 1) := by decide +kernel
theorem dX10_readCommand_58 : decode cX10_readCommand 58 = .ok (.putfield 276, 3) := by decide +kernel
theorem dX10_readCommand_61 : decode cX10_readCommand 61 = .ok (.iconst 1, 1) := by decide +kernel
theorem dX10_readCommand_62 : decode cX10_readCommand 62 = .ok (.ireturn, 1) := by decide +kernel
theorem dX10_isGood_0 : decode cX10_isGood 0 = .ok (.aload_n 0, 1) := by decide +kernel
theorem dX10_isGood_1 : decode cX10_isGood 1 = .ok (.iconst 0, 1) := by decide +kernel
theorem dX10_isGood_2 : decode cX10_isGood 2 = .ok (.putfield 276, 3) := by decide +kernel
theorem dX10_isGood_5 : decode cX10_isGood 5 = .ok (.iconst 1, 1) := by decide +kernel
theorem dX10_isGood_6 : decode cX10_isGood 6 = .ok (.istore_n 1, 1) := by decide +kernel
theorem dX10_isGood_7 : decode cX10_isGood 7 = .ok (.aload_n 0, 1) := by decide +kernel
theorem dX10_isGood_8 : decode cX10_isGood 8 = .ok (.invokevirtual 313, 3) := by decide +kernel
theorem dX10_isGood_11 : decode cX10_isGood 11 = .ok (.istore_n 2, 1) := by decide +kernel
theorem dX10_isGood_12 : decode cX10_isGood 12 = .ok (.iload_n 1, 1) := by decide +kernel
theorem dX10_isGood_13 : decode cX10_isGood 13 = .ok (.ifCond .eq 39, 3) := by decide +kernel
theorem dX10_isGood_16 : decode cX10_isGood 16 = .ok (.aload_n 0, 1) := by decide +kernel
theorem dX10_isGood_17 : decode cX10_isGood 17 = .ok (.getfield 276, 3) := by decide +kernel
theorem dX10_isGood_20 : decode cX10_isGood 20 = .ok (.aload_n 0, 1) := by decide +kernel
theorem dX10_isGood_21 : decode cX10_isGood 21 = .ok (.getfield 273, 3) := by decide +kernel
theorem dX10_isGood_24 : decode cX10_isGood 24 = .ok (.if_icmp .ge 28, 3) := by decide +kernel
theorem dX10_isGood_27 : decode cX10_isGood 27 = .ok (.aload_n 0, 1) := by decide +kernel
theorem dX10_isGood_28 : decode cX10_isGood 28 = .ok (.invokevirtual 326, 3) := by decide +kernel
theorem dX10_isGood_31 : decode cX10_isGood 31 = .ok (.istore_n 1, 1) := by decide +kernel
theorem dX10_isGood_32 : decode cX10_isGood 32 = .ok (.iload_n 1, 1) := by decide +kernel
theorem dX10_isGood_33 : decode cX10_isGood 33 = .ok (.ifCond .eq 14, 3) := by decide +kernel
theorem dX10_isGood_36 : decode cX10_isGood 36 = .ok (.aload_n 0, 1) := by decide +kernel
theorem dX10_isGood_37 : decode cX10_isGood 37 = .ok (.invokevirtual 313, 3) := by decide +kernel
theorem dX10_isGood_40 : decode cX10_isGood 40 = .ok (.ifCond .eq 7, 3) := by decide +kernel
theorem dX10_isGood_43 : decode cX10_isGood 43 = .ok (.iconst 1, 1) := by decide +kernel
theorem dX10_isGood_44 : decode cX10_isGood 44 = .ok (.goto 4, 3) := by decide +kernel
theorem dX10_isGood_47 : decode cX10_isGood 47 = .ok (.iconst 0, 1) := by decide +kernel
theorem dX10_isGood_48 : decode cX10_isGood 48 = .ok (.istore_n 2, 1) := by decide +kernel
theorem dX10_isGood_49 : decode cX10_isGood 49 = .ok (.goto (-37), 3) := by decide +kernel
theorem dX10_isGood_52 : decode cX10_isGood 52 = .ok (.iload_n 1, 1) := by decide +kernel
theorem dX10_isGood_53 : decode cX10_isGood 53 = .ok (.ireturn, 1) := by decide +kernel
theorem dX10_whyNot_0 : decode cX10_whyNot 0 = .ok (.aload_n 0, 1) := by decide +kernel
theorem dX10_whyNot_1 : decode cX10_whyNot 1 = .ok (.getfield 310, 3) := by decide +kernel
theorem dX10_whyNot_4 : decode cX10_whyNot 4 = .ok (.tableswitch 235 0 7 #[48, 64, 90, 131, 161, 185, 201, 224], 48) := by decide +kernel
theorem dX10_whyNot_52 : decode cX10_whyNot 52 = .ok (.aload_n 0, 1) := by decide +kernel
theorem dX10_whyNot_53 : decode cX10_whyNot 53 = .ok (.getfield 40, 3) := by decide +kernel
theorem dX10_whyNot_56 : decode cX10_whyNot 56 = .ok (.iconst 0, 1) := by decide +kernel
theorem dX10_whyNot_57 : decode cX10_whyNot 57 = .ok (.iaload, 1) := by decide +kernel
theorem dX10_whyNot_58 : decode cX10_whyNot 58 = .ok (.aload_n 0, 1) := by decide +kernel
theorem dX10_whyNot_59 : decode cX10_whyNot 59 = .ok (.getfield 40, 3) := by decide +kernel
theorem dX10_whyNot_62 : decode cX10_whyNot 62 = .ok (.iconst 1, 1) := by decide +kernel
theorem dX10_whyNot_63 : decode cX10_whyNot 63 = .ok (.iaload, 1) := by decide +kernel
theorem dX10_whyNot_64 : decode cX10_whyNot 64 = .ok (.invokestatic 66, 3) := by decide +kernel
theorem dX10_whyNot_67 : decode cX10_whyNot 67 = .ok (.ireturn, 1) := by decide +kernel
theorem dX10_whyNot_68 : decode cX10_whyNot 68 = .ok (.aload_n 0, 1) := by decide +kernel
theorem dX10_whyNot_69 : decode cX10_whyNot 69 = .ok (.sipush (-1000), 3) := by decide +kernel
theorem dX10_whyNot_72 : decode cX10_whyNot 72 = .ok (.aload_n 0, 1) := by decide +kernel
theorem dX10_whyNot_73 : decode cX10_whyNot 73 = .ok (.getfield 40, 3) := by decide +kernel
theorem dX10_whyNot_76 : decode cX10_whyNot 76 = .ok (.iconst 0, 1) := by decide +kernel
theorem dX10_whyNot_77 : decode cX10_whyNot 77 = .ok (.iaload, 1) := by decide +kernel
theorem dX10_whyNot_78 : decode cX10_whyNot 78 = .ok (.aload_n 0, 1) := by decide +kernel
theorem dX10_whyNot_79 : decode cX10_whyNot 79 = .ok (.getfield 40, 3) := by decide +kernel
theorem dX10_whyNot_82 : decode cX10_whyNot 82 = .ok (.iconst 1, 1) := by decide +kernel
theorem dX10_whyNot_83 : decode cX10_whyNot 83 = .ok (.iaload, 1) := by decide +kernel
theorem dX10_whyNot_84 : decode cX10_whyNot 84 = .ok (.aload_n 0, 1) := by decide +kernel
theorem dX10_whyNot_85 : decode cX10_whyNot 85 = .ok (.getfield 40, 3) := by decide +kernel
theorem dX10_whyNot_88 : decode cX10_whyNot 88 = .ok (.iconst 2, 1) := by decide +kernel
theorem dX10_whyNot_89 : decode cX10_whyNot 89 = .ok (.iaload, 1) := by decide +kernel
theorem dX10_whyNot_90 : decode cX10_whyNot 90 = .ok (.invokevirtual 89, 3) := by decide +kernel
theorem dX10_whyNot_93 : decode cX10_whyNot 93 = .ok (.ireturn, 1) := by decide +kernel
theorem dX10_whyNot_94 : decode cX10_whyNot 94 = .ok (.aload_n 0, 1) := by decide +kernel
theorem dX10_whyNot_95 : decode cX10_whyNot 95 = .ok (.aload_n 0, 1) := by decide +kernel
theorem dX10_whyNot_96 : decode cX10_whyNot 96 = .ok (.getfield 40, 3) := by decide +kernel
theorem dX10_whyNot_99 : decode cX10_whyNot 99 = .ok (.iconst 0, 1) := by decide +kernel
theorem dX10_whyNot_100 : decode cX10_whyNot 100 = .ok (.iaload, 1) := by decide +kernel
theorem dX10_whyNot_101 : decode cX10_whyNot 101 = .ok (.aload_n 0, 1) := by decide +kernel
theorem dX10_whyNot_102 : decode cX10_whyNot 102 = .ok (.getfield 40, 3) := by decide +kernel
theorem dX10_whyNot_105 : decode cX10_whyNot 105 = .ok (.iconst 1, 1) := by decide +kernel
theorem dX10_whyNot_106 : decode cX10_whyNot 106 = .ok (.iaload, 1) := by decide +kernel
theorem dX10_whyNot_107 : decode cX10_whyNot 107 = .ok (.aload_n 0, 1) := by decide +kernel
theorem dX10_whyNot_108 : decode cX10_whyNot 108 = .ok (.getfield 40, 3) := by decide +kernel
theorem dX10_whyNot_111 : decode cX10_whyNot 111 = .ok (.iconst 2, 1) := by decide +kernel
theorem dX10_whyNot_112 : decode cX10_whyNot 112 = .ok (.iaload, 1) := by decide +kernel
theorem dX10_whyNot_113 : decode cX10_whyNot 113 = .ok (.aload_n 0, 1) := by decide +kernel
theorem dX10_whyNot_114 : decode cX10_whyNot 114 = .ok (.getfield 40, 3) := by decide +kernel
theorem dX10_whyNot_117 : decode cX10_whyNot 117 = .ok (.iconst 3, 1) := by decide +kernel
theorem dX10_whyNot_118 : decode cX10_whyNot 118 = .ok (.iaload, 1) := by decide +kernel
theorem dX10_whyNot_119 : decode cX10_whyNot 119 = .ok (.aload_n 0, 1) := by decide +kernel
theorem dX10_whyNot_120 : decode cX10_whyNot 120 = .ok (.getfield 40, 3) := by decide +kernel
theorem dX10_whyNot_123 : decode cX10_whyNot 123 = .ok (.iconst 4, 1) := by decide +kernel
theorem dX10_whyNot_124 : decode cX10_whyNot 124 = .ok (.iaload, 1) := by decide +kernel
theorem dX10_whyNot_125 : decode cX10_whyNot 125 = .ok (.aload_n 0, 1) := by decide +kernel
theorem dX10_whyNot_126 : decode cX10_whyNot 126 = .ok (.getfield 40, 3) := by decide +kernel
theorem dX10_whyNot_129 : decode cX10_whyNot 129 = .ok (.iconst 5, 1) := by decide +kernel
theorem dX10_whyNot_130 : decode cX10_whyNot 130 = .ok (.iaload, 1) := by decide +kernel
theorem dX10_whyNot_131 : decode cX10_whyNot 131 = .ok (.invokevirtual 97, 3) := by decide +kernel
theorem dX10_whyNot_134 : decode cX10_whyNot 134 = .ok (.ireturn, 1) := by decide +kernel
theorem dX10_whyNot_135 : decode cX10_whyNot 135 = .ok (.aload_n 0, 1) := by decide +kernel
theorem dX10_whyNot_136 : decode cX10_whyNot 136 = .ok (.aload_n 0, 1) := by decide +kernel
theorem dX10_whyNot_137 : decode cX10_whyNot 137 = .ok (.getfield 40, 3) := by decide +kernel
theorem dX10_whyNot_140 : decode cX10_whyNot 140 = .ok (.iconst 0, 1) := by decide +kernel
theorem dX10_whyNot_141 : decode cX10_whyNot 141 = .ok (.iaload, 1) := by decide +kernel
theorem dX10_whyNot_142 : decode cX10_whyNot 142 = .ok (.aload_n 0, 1) := by decide +kernel
theorem dX10_whyNot_143 : decode cX10_whyNot 143 = .ok (.getfield 40, 3) := by decide +kernel
theorem dX10_whyNot_146 : decode cX10_whyNot 146 = .ok (.iconst 1, 1) := by decide +kernel
theorem dX10_whyNot_147 : decode cX10_whyNot 147 = .ok (.iaload, 1) := by decide +kernel
theorem dX10_whyNot_148 : decode cX10_whyNot 148 = .ok (.aload_n 0, 1) := by decide +kernel
theorem dX10_whyNot_149 : decode cX10_whyNot 149 = .ok (.getfield 40, 3) := by decide +kernel
theorem dX10_whyNot_152 : decode cX10_whyNot 152 = .ok (.iconst 2, 1) := by decide +kernel
theorem dX10_whyNot_153 : decode cX10_whyNot 153 = .ok (.iaload, 1) := by decide +kernel
theorem dX10_whyNot_154 : decode cX10_whyNot 154 = .ok (.aload_n 0, 1) := by decide +kernel
theorem dX10_whyNot_155 : decode cX10_whyNot 155 = .ok (.getfield 40, 3) := by decide +kernel
theorem dX10_whyNot_158 : decode cX10_whyNot 158 = .ok (.iconst 3, 1) := by decide +kernel
theorem dX10_whyNot_159 : decode cX10_whyNot 159 = .ok (.iaload, 1) := by decide +kernel
theorem dX10_whyNot_160 : decode cX10_whyNot 160 = .ok (.ineg, 1) := by decide +kernel
theorem dX10_whyNot_161 : decode cX10_whyNot 161 = .ok (.invokevirtual 100, 3) := by decide +kernel
theorem dX10_whyNot_164 : decode cX10_whyNot 164 = .ok (.ireturn, 1) := by decide +kernel
theorem dX10_whyNot_165 : decode cX10_whyNot 165 = .ok (.aload_n 0, 1) := by decide +kernel
theorem dX10_whyNot_166 : decode cX10_whyNot 166 = .ok (.aload_n 0, 1) := by decide +kernel
theorem dX10_whyNot_167 : decode cX10_whyNot 167 = .ok (.getfield 40, 3) := by decide +kernel
theorem dX10_whyNot_170 : decode cX10_whyNot 170 = .ok (.iconst 0, 1) := by decide +kernel
theorem dX10_whyNot_171 : decode cX10_whyNot 171 = .ok (.iaload, 1) := by decide +kernel
theorem dX10_whyNot_172 : decode cX10_whyNot 172 = .ok (.ineg, 1) := by decide +kernel
theorem dX10_whyNot_173 : decode cX10_whyNot 173 = .ok (.aload_n 0, 1) := by decide +kernel
theorem dX10_whyNot_174 : decode cX10_whyNot 174 = .ok (.getfield 40, 3) := by decide +kernel
theorem dX10_whyNot_177 : decode cX10_whyNot 177 = .ok (.iconst 1, 1) := by decide +kernel
theorem dX10_whyNot_178 : decode cX10_whyNot 178 = .ok (.iaload, 1) := by decide +kernel
theorem dX10_whyNot_179 : decode cX10_whyNot 179 = .ok (.aload_n 0, 1) := by decide +kernel
theorem dX10_whyNot_180 : decode cX10_whyNot 180 = .ok (.getfield 40, 3) := by decide +kernel
theorem dX10_whyNot_183 : decode cX10_whyNot 183 = .ok (.iconst 2, 1) := by decide +kernel
theorem dX10_whyNot_184 : decode cX10_whyNot 184 = .ok (.iaload, 1) := by decide +kernel
theorem dX10_whyNot_185 : decode cX10_whyNot 185 = .ok (.invokevirtual 116, 3) := by decide +kernel
theorem dX10_whyNot_188 : decode cX10_whyNot 188 = .ok (.ireturn, 1) := by decide +kernel
theorem dX10_whyNot_189 : decode cX10_whyNot 189 = .ok (.aload_n 0, 1) := by decide +kernel
theorem dX10_whyNot_190 : decode cX10_whyNot 190 = .ok (.getfield 40, 3) := by decide +kernel
theorem dX10_whyNot_193 : decode cX10_whyNot 193 = .ok (.iconst 0, 1) := by decide +kernel
theorem dX10_whyNot_194 : decode cX10_whyNot 194 = .ok (.iaload, 1) := by decide +kernel
theorem dX10_whyNot_195 : decode cX10_whyNot 195 = .ok (.aload_n 0, 1) := by decide +kernel
theorem dX10_whyNot_196 : decode cX10_whyNot 196 = .ok (.getfield 40, 3) := by decide +kernel
theorem dX10_whyNot_199 : decode cX10_whyNot 199 = .ok (.iconst 1, 1) := by decide +kernel
theorem dX10_whyNot_200 : decode cX10_whyNot 200 = .ok (.iaload, 1) := by decide +kernel
theorem dX10_whyNot_201 : decode cX10_whyNot 201 = .ok (.invokestatic 123, 3) := by decide +kernel
theorem dX10_whyNot_204 : decode cX10_whyNot 204 = .ok (.ireturn, 1) := by decide +kernel
theorem dX10_whyNot_205 : decode cX10_whyNot 205 = .ok (.aload_n 0, 1) := by decide +kernel
theorem dX10_whyNot_206 : decode cX10_whyNot 206 = .ok (.aload_n 0, 1) := by decide +kernel
theorem dX10_whyNot_207 : decode cX10_whyNot 207 = .ok (.getfield 40, 3) := by decide +kernel
theorem dX10_whyNot_210 : decode cX10_whyNot 210 = .ok (.iconst 0, 1) := by decide +kernel
theorem dX10_whyNot_211 : decode cX10_whyNot 211 = .ok (.iaload, 1) := by decide +kernel
theorem dX10_whyNot_212 : decode cX10_whyNot 212 = .ok (.aload_n 0, 1) := by decide +kernel
theorem dX10_whyNot_213 : decode cX10_whyNot 213 = .ok (.getfield 40, 3) := by decide +kernel
theorem dX10_whyNot_216 : decode cX10_whyNot 216 = .ok (.iconst 1, 1) := by decide +kernel
theorem dX10_whyNot_217 : decode cX10_whyNot 217 = .ok (.iaload, 1) := by decide +kernel
theorem dX10_whyNot_218 : decode cX10_whyNot 218 = .ok (.aload_n 0, 1) := by decide +kernel
theorem dX10_whyNot_219 : decode cX10_whyNot 219 = .ok (.getfield 40, 3) := by decide +kernel
theorem dX10_whyNot_222 : decode cX10_whyNot 222 = .ok (.iconst 2, 1) := by decide +kernel
theorem dX10_whyNot_223 : decode cX10_whyNot 223 = .ok (.iaload, 1) := by decide +kernel
theorem dX10_whyNot_224 : decode cX10_whyNot 224 = .ok (.invokevirtual 129, 3) := by decide +kernel
theorem dX10_whyNot_227 : decode cX10_whyNot 227 = .ok (.ireturn, 1) := by decide +kernel
theorem dX10_whyNot_228 : decode cX10_whyNot 228 = .ok (.aload_n 0, 1) := by decide +kernel
theorem dX10_whyNot_229 : decode cX10_whyNot 229 = .ok (.aload_n 0, 1) := by decide +kernel
theorem dX10_whyNot_230 : decode cX10_whyNot 230 = .ok (.getfield 40, 3) := by decide +kernel
theorem dX10_whyNot_233 : decode cX10_whyNot 233 = .ok (.iconst 0, 1) := by decide +kernel
theorem dX10_whyNot_234 : decode cX10_whyNot 234 = .ok (.iaload, 1) := by decide +kernel
theorem dX10_whyNot_235 : decode cX10_whyNot 235 = .ok (.invokevirtual 110, 3) := by decide +kernel
theorem dX10_whyNot_238 : decode cX10_whyNot 238 = .ok (.ireturn, 1) := by decide +kernel
theorem dX10_whyNot_239 : decode cX10_whyNot 239 = .ok (.aload_n 0, 1) := by decide +kernel
theorem dX10_whyNot_240 : decode cX10_whyNot 240 = .ok (.getfield 40, 3) := by decide +kernel
theorem dX10_whyNot_243 : decode cX10_whyNot 243 = .ok (.iconst 0, 1) := by decide +kernel
theorem dX10_whyNot_244 : decode cX10_whyNot 244 = .ok (.iaload, 1) := by decide +kernel
theorem dX10_whyNot_245 : decode cX10_whyNot 245 = .ok (.invokestatic 145, 3) := by decide +kernel
theorem dX10_whyNot_248 : decode cX10_whyNot 248 = .ok (.ireturn, 1) := by decide +kernel
theorem dX10_carryOut_0 : decode cX10_carryOut 0 = .ok (.aload_n 0, 1) := by decide +kernel
theorem dX10_carryOut_1 : decode cX10_carryOut 1 = .ok (.getfield 310, 3) := by decide +kernel
theorem dX10_carryOut_4 : decode cX10_carryOut 4 = .ok (.tableswitch 239 0 7 #[48, 65, 93, 134, 164, 188, 205, 228], 48) := by decide +kernel
theorem dX10_carryOut_52 : decode cX10_carryOut 52 = .ok (.aload_n 0, 1) := by decide +kernel
theorem dX10_carryOut_53 : decode cX10_carryOut 53 = .ok (.aload_n 0, 1) := by decide +kernel
theorem dX10_carryOut_54 : decode cX10_carryOut 54 = .ok (.getfield 40, 3) := by decide +kernel
theorem dX10_carryOut_57 : decode cX10_carryOut 57 = .ok (.iconst 0, 1) := by decide +kernel
theorem dX10_carryOut_58 : decode cX10_carryOut 58 = .ok (.iaload, 1) := by decide +kernel
theorem dX10_carryOut_59 : decode cX10_carryOut 59 = .ok (.aload_n 0, 1) := by decide +kernel
theorem dX10_carryOut_60 : decode cX10_carryOut 60 = .ok (.getfield 40, 3) := by decide +kernel
theorem dX10_carryOut_63 : decode cX10_carryOut 63 = .ok (.iconst 1, 1) := by decide +kernel
theorem dX10_carryOut_64 : decode cX10_carryOut 64 = .ok (.iaload, 1) := by decide +kernel
theorem dX10_carryOut_65 : decode cX10_carryOut 65 = .ok (.invokevirtual 72, 3) := by decide +kernel
theorem dX10_carryOut_68 : decode cX10_carryOut 68 = .ok (.ireturn, 1) := by decide +kernel
theorem dX10_carryOut_69 : decode cX10_carryOut 69 = .ok (.aload_n 0, 1) := by decide +kernel
theorem dX10_carryOut_70 : decode cX10_carryOut 70 = .ok (.sipush (-1000), 3) := by decide +kernel
theorem dX10_carryOut_73 : decode cX10_carryOut 73 = .ok (.aload_n 0, 1) := by decide +kernel
theorem dX10_carryOut_74 : decode cX10_carryOut 74 = .ok (.getfield 40, 3) := by decide +kernel
theorem dX10_carryOut_77 : decode cX10_carryOut 77 = .ok (.iconst 0, 1) := by decide +kernel
theorem dX10_carryOut_78 : decode cX10_carryOut 78 = .ok (.iaload, 1) := by decide +kernel
theorem dX10_carryOut_79 : decode cX10_carryOut 79 = .ok (.aload_n 0, 1) := by decide +kernel
theorem dX10_carryOut_80 : decode cX10_carryOut 80 = .ok (.getfield 40, 3) := by decide +kernel
theorem dX10_carryOut_83 : decode cX10_carryOut 83 = .ok (.iconst 1, 1) := by decide +kernel
theorem dX10_carryOut_84 : decode cX10_carryOut 84 = .ok (.iaload, 1) := by decide +kernel
theorem dX10_carryOut_85 : decode cX10_carryOut 85 = .ok (.aload_n 0, 1) := by decide +kernel
theorem dX10_carryOut_86 : decode cX10_carryOut 86 = .ok (.getfield 40, 3) := by decide +kernel
theorem dX10_carryOut_89 : decode cX10_carryOut 89 = .ok (.iconst 2, 1) := by decide +kernel
theorem dX10_carryOut_90 : decode cX10_carryOut 90 = .ok (.iaload, 1) := by decide +kernel
theorem dX10_carryOut_91 : decode cX10_carryOut 91 = .ok (.iconst 0, 1) := by decide +kernel
theorem dX10_carryOut_92 : decode cX10_carryOut 92 = .ok (.iconst 0, 1) := by decide +kernel
theorem dX10_carryOut_93 : decode cX10_carryOut 93 = .ok (.invokevirtual 93, 3) := by decide +kernel
theorem dX10_carryOut_96 : decode cX10_carryOut 96 = .ok (.ireturn, 1) := by decide +kernel
theorem dX10_carryOut_97 : decode cX10_carryOut 97 = .ok (.aload_n 0, 1) := by decide +kernel
theorem dX10_carryOut_98 : decode cX10_carryOut 98 = .ok (.aload_n 0, 1) := by decide +kernel
theorem dX10_carryOut_99 : decode cX10_carryOut 99 = .ok (.getfield 40, 3) := by decide +kernel
theorem dX10_carryOut_102 : decode cX10_carryOut 102 = .ok (.iconst 0, 1) := by decide +kernel
theorem dX10_carryOut_103 : decode cX10_carryOut 103 = .ok (.iaload, 1) := by decide +kernel
theorem dX10_carryOut_104 : decode cX10_carryOut 104 = .ok (.aload_n 0, 1) := by decide +kernel
theorem dX10_carryOut_105 : decode cX10_carryOut 105 = .ok (.getfield 40, 3) := by decide +kernel
theorem dX10_carryOut_108 : decode cX10_carryOut 108 = .ok (.iconst 1, 1) := by decide +kernel
theorem dX10_carryOut_109 : decode cX10_carryOut 109 = .ok (.iaload, 1) := by decide +kernel
theorem dX10_carryOut_110 : decode cX10_carryOut 110 = .ok (.aload_n 0, 1) := by decide +kernel
theorem dX10_carryOut_111 : decode cX10_carryOut 111 = .ok (.getfield 40, 3) := by decide +kernel
theorem dX10_carryOut_114 : decode cX10_carryOut 114 = .ok (.iconst 2, 1) := by decide +kernel
theorem dX10_carryOut_115 : decode cX10_carryOut 115 = .ok (.iaload, 1) := by decide +kernel
theorem dX10_carryOut_116 : decode cX10_carryOut 116 = .ok (.aload_n 0, 1) := by decide +kernel
theorem dX10_carryOut_117 : decode cX10_carryOut 117 = .ok (.getfield 40, 3) := by decide +kernel
theorem dX10_carryOut_120 : decode cX10_carryOut 120 = .ok (.iconst 3, 1) := by decide +kernel
theorem dX10_carryOut_121 : decode cX10_carryOut 121 = .ok (.iaload, 1) := by decide +kernel
theorem dX10_carryOut_122 : decode cX10_carryOut 122 = .ok (.aload_n 0, 1) := by decide +kernel
theorem dX10_carryOut_123 : decode cX10_carryOut 123 = .ok (.getfield 40, 3) := by decide +kernel
theorem dX10_carryOut_126 : decode cX10_carryOut 126 = .ok (.iconst 4, 1) := by decide +kernel
theorem dX10_carryOut_127 : decode cX10_carryOut 127 = .ok (.iaload, 1) := by decide +kernel
theorem dX10_carryOut_128 : decode cX10_carryOut 128 = .ok (.aload_n 0, 1) := by decide +kernel
theorem dX10_carryOut_129 : decode cX10_carryOut 129 = .ok (.getfield 40, 3) := by decide +kernel
theorem dX10_carryOut_132 : decode cX10_carryOut 132 = .ok (.iconst 5, 1) := by decide +kernel
theorem dX10_carryOut_133 : decode cX10_carryOut 133 = .ok (.iaload, 1) := by decide +kernel
theorem dX10_carryOut_134 : decode cX10_carryOut 134 = .ok (.invokevirtual 93, 3) := by decide +kernel
theorem dX10_carryOut_137 : decode cX10_carryOut 137 = .ok (.ireturn, 1) := by decide +kernel
theorem dX10_carryOut_138 : decode cX10_carryOut 138 = .ok (.aload_n 0, 1) := by decide +kernel
theorem dX10_carryOut_139 : decode cX10_carryOut 139 = .ok (.aload_n 0, 1) := by decide +kernel
theorem dX10_carryOut_140 : decode cX10_carryOut 140 = .ok (.getfield 40, 3) := by decide +kernel
theorem dX10_carryOut_143 : decode cX10_carryOut 143 = .ok (.iconst 0, 1) := by decide +kernel
theorem dX10_carryOut_144 : decode cX10_carryOut 144 = .ok (.iaload, 1) := by decide +kernel
theorem dX10_carryOut_145 : decode cX10_carryOut 145 = .ok (.aload_n 0, 1) := by decide +kernel
theorem dX10_carryOut_146 : decode cX10_carryOut 146 = .ok (.getfield 40, 3) := by decide +kernel
theorem dX10_carryOut_149 : decode cX10_carryOut 149 = .ok (.iconst 1, 1) := by decide +kernel
theorem dX10_carryOut_150 : decode cX10_carryOut 150 = .ok (.iaload, 1) := by decide +kernel
theorem dX10_carryOut_151 : decode cX10_carryOut 151 = .ok (.aload_n 0, 1) := by decide +kernel
theorem dX10_carryOut_152 : decode cX10_carryOut 152 = .ok (.getfield 40, 3) := by decide +kernel
theorem dX10_carryOut_155 : decode cX10_carryOut 155 = .ok (.iconst 2, 1) := by decide +kernel
theorem dX10_carryOut_156 : decode cX10_carryOut 156 = .ok (.iaload, 1) := by decide +kernel
theorem dX10_carryOut_157 : decode cX10_carryOut 157 = .ok (.aload_n 0, 1) := by decide +kernel
theorem dX10_carryOut_158 : decode cX10_carryOut 158 = .ok (.getfield 40, 3) := by decide +kernel
theorem dX10_carryOut_161 : decode cX10_carryOut 161 = .ok (.iconst 3, 1) := by decide +kernel
theorem dX10_carryOut_162 : decode cX10_carryOut 162 = .ok (.iaload, 1) := by decide +kernel
theorem dX10_carryOut_163 : decode cX10_carryOut 163 = .ok (.ineg, 1) := by decide +kernel
theorem dX10_carryOut_164 : decode cX10_carryOut 164 = .ok (.invokevirtual 103, 3) := by decide +kernel
theorem dX10_carryOut_167 : decode cX10_carryOut 167 = .ok (.ireturn, 1) := by decide +kernel
theorem dX10_carryOut_168 : decode cX10_carryOut 168 = .ok (.aload_n 0, 1) := by decide +kernel
theorem dX10_carryOut_169 : decode cX10_carryOut 169 = .ok (.aload_n 0, 1) := by decide +kernel
theorem dX10_carryOut_170 : decode cX10_carryOut 170 = .ok (.getfield 40, 3) := by decide +kernel
theorem dX10_carryOut_173 : decode cX10_carryOut 173 = .ok (.iconst 0, 1) := by decide +kernel
theorem dX10_carryOut_174 : decode cX10_carryOut 174 = .ok (.iaload, 1) := by decide +kernel
theorem dX10_carryOut_175 : decode cX10_carryOut 175 = .ok (.ineg, 1) := by decide +kernel
theorem dX10_carryOut_176 : decode cX10_carryOut 176 = .ok (.aload_n 0, 1) := by decide +kernel
theorem dX10_carryOut_177 : decode cX10_carryOut 177 = .ok (.getfield 40, 3) := by decide +kernel
theorem dX10_carryOut_180 : decode cX10_carryOut 180 = .ok (.iconst 1, 1) := by decide +kernel
theorem dX10_carryOut_181 : decode cX10_carryOut 181 = .ok (.iaload, 1) := by decide +kernel
theorem dX10_carryOut_182 : decode cX10_carryOut 182 = .ok (.aload_n 0, 1) := by decide +kernel
theorem dX10_carryOut_183 : decode cX10_carryOut 183 = .ok (.getfield 40, 3) := by decide +kernel
theorem dX10_carryOut_186 : decode cX10_carryOut 186 = .ok (.iconst 2, 1) := by decide +kernel
theorem dX10_carryOut_187 : decode cX10_carryOut 187 = .ok (.iaload, 1) := by decide +kernel
theorem dX10_carryOut_188 : decode cX10_carryOut 188 = .ok (.invokevirtual 120, 3) := by decide +kernel
theorem dX10_carryOut_191 : decode cX10_carryOut 191 = .ok (.ireturn, 1) := by decide +kernel
theorem dX10_carryOut_192 : decode cX10_carryOut 192 = .ok (.aload_n 0, 1) := by decide +kernel
theorem dX10_carryOut_193 : decode cX10_carryOut 193 = .ok (.aload_n 0, 1) := by decide +kernel
theorem dX10_carryOut_194 : decode cX10_carryOut 194 = .ok (.getfield 40, 3) := by decide +kernel
theorem dX10_carryOut_197 : decode cX10_carryOut 197 = .ok (.iconst 0, 1) := by decide +kernel
theorem dX10_carryOut_198 : decode cX10_carryOut 198 = .ok (.iaload, 1) := by decide +kernel
theorem dX10_carryOut_199 : decode cX10_carryOut 199 = .ok (.aload_n 0, 1) := by decide +kernel
theorem dX10_carryOut_200 : decode cX10_carryOut 200 = .ok (.getfield 40, 3) := by decide +kernel
theorem dX10_carryOut_203 : decode cX10_carryOut 203 = .ok (.iconst 1, 1) := by decide +kernel
theorem dX10_carryOut_204 : decode cX10_carryOut 204 = .ok (.iaload, 1) := by decide +kernel
theorem dX10_carryOut_205 : decode cX10_carryOut 205 = .ok (.invokevirtual 126, 3) := by decide +kernel
theorem dX10_carryOut_208 : decode cX10_carryOut 208 = .ok (.ireturn, 1) := by decide +kernel
theorem dX10_carryOut_209 : decode cX10_carryOut 209 = .ok (.aload_n 0, 1) := by decide +kernel
theorem dX10_carryOut_210 : decode cX10_carryOut 210 = .ok (.aload_n 0, 1) := by decide +kernel
theorem dX10_carryOut_211 : decode cX10_carryOut 211 = .ok (.getfield 40, 3) := by decide +kernel
theorem dX10_carryOut_214 : decode cX10_carryOut 214 = .ok (.iconst 0, 1) := by decide +kernel
theorem dX10_carryOut_215 : decode cX10_carryOut 215 = .ok (.iaload, 1) := by decide +kernel
theorem dX10_carryOut_216 : decode cX10_carryOut 216 = .ok (.aload_n 0, 1) := by decide +kernel
theorem dX10_carryOut_217 : decode cX10_carryOut 217 = .ok (.getfield 40, 3) := by decide +kernel
theorem dX10_carryOut_220 : decode cX10_carryOut 220 = .ok (.iconst 1, 1) := by decide +kernel
theorem dX10_carryOut_221 : decode cX10_carryOut 221 = .ok (.iaload, 1) := by decide +kernel
theorem dX10_carryOut_222 : decode cX10_carryOut 222 = .ok (.aload_n 0, 1) := by decide +kernel
theorem dX10_carryOut_223 : decode cX10_carryOut 223 = .ok (.getfield 40, 3) := by decide +kernel
theorem dX10_carryOut_226 : decode cX10_carryOut 226 = .ok (.iconst 2, 1) := by decide +kernel
theorem dX10_carryOut_227 : decode cX10_carryOut 227 = .ok (.iaload, 1) := by decide +kernel
theorem dX10_carryOut_228 : decode cX10_carryOut 228 = .ok (.invokevirtual 132, 3) := by decide +kernel
theorem dX10_carryOut_231 : decode cX10_carryOut 231 = .ok (.ireturn, 1) := by decide +kernel
theorem dX10_carryOut_232 : decode cX10_carryOut 232 = .ok (.aload_n 0, 1) := by decide +kernel
theorem dX10_carryOut_233 : decode cX10_carryOut 233 = .ok (.aload_n 0, 1) := by decide +kernel
theorem dX10_carryOut_234 : decode cX10_carryOut 234 = .ok (.getfield 40, 3) := by decide +kernel
theorem dX10_carryOut_237 : decode cX10_carryOut 237 = .ok (.iconst 0, 1) := by decide +kernel
theorem dX10_carryOut_238 : decode cX10_carryOut 238 = .ok (.iaload, 1) := by decide +kernel
theorem dX10_carryOut_239 : decode cX10_carryOut 239 = .ok (.invokevirtual 113, 3) := by decide +kernel
theorem dX10_carryOut_242 : decode cX10_carryOut 242 = .ok (.ireturn, 1) := by decide +kernel
theorem dX10_carryOut_243 : decode cX10_carryOut 243 = .ok (.aload_n 0, 1) := by decide +kernel
theorem dX10_carryOut_244 : decode cX10_carryOut 244 = .ok (.aload_n 0, 1) := by decide +kernel
theorem dX10_carryOut_245 : decode cX10_carryOut 245 = .ok (.getfield 40, 3) := by decide +kernel
theorem dX10_carryOut_248 : decode cX10_carryOut 248 = .ok (.iconst 0, 1) := by decide +kernel
theorem dX10_carryOut_249 : decode cX10_carryOut 249 = .ok (.iaload, 1) := by decide +kernel
theorem dX10_carryOut_250 : decode cX10_carryOut 250 = .ok (.invokevirtual 148, 3) := by decide +kernel
theorem dX10_carryOut_253 : decode cX10_carryOut 253 = .ok (.ireturn, 1) := by decide +kernel
theorem dX10_runCommands_0 : decode cX10_runCommands 0 = .ok (.aload_n 0, 1) := by decide +kernel
theorem dX10_runCommands_1 : decode cX10_runCommands 1 = .ok (.iconst 0, 1) := by decide +kernel
theorem dX10_runCommands_2 : decode cX10_runCommands 2 = .ok (.putfield 47, 3) := by decide +kernel
theorem dX10_runCommands_5 : decode cX10_runCommands 5 = .ok (.aload_n 0, 1) := by decide +kernel
theorem dX10_runCommands_6 : decode cX10_runCommands 6 = .ok (.invokevirtual 329, 3) := by decide +kernel
theorem dX10_runCommands_9 : decode cX10_runCommands 9 = .ok (.ifCond .ne 11, 3) := by decide +kernel
theorem dX10_runCommands_12 : decode cX10_runCommands 12 = .ok (.bipush (-10), 2) := by decide +kernel
theorem dX10_runCommands_14 : decode cX10_runCommands 14 = .ok (.aload_n 0, 1) := by decide +kernel
theorem dX10_runCommands_15 : decode cX10_runCommands 15 = .ok (.getfield 276, 3) := by decide +kernel
theorem dX10_runCommands_18 : decode cX10_runCommands 18 = .ok (.isub, 1) := by decide +kernel
theorem dX10_runCommands_19 : decode cX10_runCommands 19 = .ok (.ireturn, 1) := by decide +kernel
theorem dX10_runCommands_20 : decode cX10_runCommands 20 = .ok (.aload_n 0, 1) := by decide +kernel
theorem dX10_runCommands_21 : decode cX10_runCommands 21 = .ok (.invokevirtual 69, 3) := by decide +kernel
theorem dX10_runCommands_24 : decode cX10_runCommands 24 = .ok (.aload_n 0, 1) := by decide +kernel
theorem dX10_runCommands_25 : decode cX10_runCommands 25 = .ok (.iconst 0, 1) := by decide +kernel
theorem dX10_runCommands_26 : decode cX10_runCommands 26 = .ok (.putfield 276, 3) := by decide +kernel
theorem dX10_runCommands_29 : decode cX10_runCommands 29 = .ok (.iconst 0, 1) := by decide +kernel
theorem dX10_runCommands_30 : decode cX10_runCommands 30 = .ok (.istore_n 1, 1) := by decide +kernel
theorem dX10_runCommands_31 : decode cX10_runCommands 31 = .ok (.iconst 1, 1) := by decide +kernel
theorem dX10_runCommands_32 : decode cX10_runCommands 32 = .ok (.istore_n 2, 1) := by decide +kernel
theorem dX10_runCommands_33 : decode cX10_runCommands 33 = .ok (.aload_n 0, 1) := by decide +kernel
theorem dX10_runCommands_34 : decode cX10_runCommands 34 = .ok (.invokevirtual 313, 3) := by decide +kernel
theorem dX10_runCommands_37 : decode cX10_runCommands 37 = .ok (.istore_n 3, 1) := by decide +kernel
theorem dX10_runCommands_38 : decode cX10_runCommands 38 = .ok (.iload_n 2, 1) := by decide +kernel
theorem dX10_runCommands_39 : decode cX10_runCommands 39 = .ok (.ifCond .eq 55, 3) := by decide +kernel
theorem dX10_runCommands_42 : decode cX10_runCommands 42 = .ok (.aload_n 0, 1) := by decide +kernel
theorem dX10_runCommands_43 : decode cX10_runCommands 43 = .ok (.getfield 276, 3) := by decide +kernel
theorem dX10_runCommands_46 : decode cX10_runCommands 46 = .ok (.aload_n 0, 1) := by decide +kernel
theorem dX10_runCommands_47 : decode cX10_runCommands 47 = .ok (.getfield 273, 3) := by decide +kernel
theorem dX10_runCommands_50 : decode cX10_runCommands 50 = .ok (.if_icmp .ge 44, 3) := by decide +kernel
theorem dX10_runCommands_53 : decode cX10_runCommands 53 = .ok (.aload_n 0, 1) := by decide +kernel
theorem dX10_runCommands_54 : decode cX10_runCommands 54 = .ok (.invokevirtual 326, 3) := by decide +kernel
theorem dX10_runCommands_57 : decode cX10_runCommands 57 = .ok (.ifCond .eq 37, 3) := by decide +kernel
theorem dX10_runCommands_60 : decode cX10_runCommands 60 = .ok (.aload_n 0, 1) := by decide +kernel
theorem dX10_runCommands_61 : decode cX10_runCommands 61 = .ok (.invokevirtual 332, 3) := by decide +kernel
theorem dX10_runCommands_64 : decode cX10_runCommands 64 = .ok (.ifCond .ne 7, 3) := by decide +kernel
theorem dX10_runCommands_67 : decode cX10_runCommands 67 = .ok (.iconst 1, 1) := by decide +kernel
theorem dX10_runCommands_68 : decode cX10_runCommands 68 = .ok (.goto 4, 3) := by decide +kernel
theorem dX10_runCommands_71 : decode cX10_runCommands 71 = .ok (.iconst 0, 1) := by decide +kernel
theorem dX10_runCommands_72 : decode cX10_runCommands 72 = .ok (.istore_n 2, 1) := by decide +kernel
theorem dX10_runCommands_73 : decode cX10_runCommands 73 = .ok (.iload_n 2, 1) := by decide +kernel
theorem dX10_runCommands_74 : decode cX10_runCommands 74 = .ok (.ifCond .eq 12, 3) := by decide +kernel
theorem dX10_runCommands_77 : decode cX10_runCommands 77 = .ok (.aload_n 0, 1) := by decide +kernel
theorem dX10_runCommands_78 : decode cX10_runCommands 78 = .ok (.invokevirtual 335, 3) := by decide +kernel
theorem dX10_runCommands_81 : decode cX10_runCommands 81 = .ok (.istore 4, 2) := by decide +kernel
theorem dX10_runCommands_83 : decode cX10_runCommands 83 = .ok (.iinc 1 1, 3) := by decide +kernel
theorem dX10_runCommands_86 : decode cX10_runCommands 86 = .ok (.aload_n 0, 1) := by decide +kernel
theorem dX10_runCommands_87 : decode cX10_runCommands 87 = .ok (.invokevirtual 313, 3) := by decide +kernel
theorem dX10_runCommands_90 : decode cX10_runCommands 90 = .ok (.istore_n 3, 1) := by decide +kernel
theorem dX10_runCommands_91 : decode cX10_runCommands 91 = .ok (.goto (-53), 3) := by decide +kernel
theorem dX10_runCommands_94 : decode cX10_runCommands 94 = .ok (.iload_n 1, 1) := by decide +kernel
theorem dX10_runCommands_95 : decode cX10_runCommands 95 = .ok (.ireturn, 1) := by decide +kernel
theorem dX10_undo_0 : decode cX10_undo 0 = .ok (.aload_n 0, 1) := by decide +kernel
theorem dX10_undo_1 : decode cX10_undo 1 = .ok (.aload_n 0, 1) := by decide +kernel
theorem dX10_undo_2 : decode cX10_undo 2 = .ok (.getfield 51, 3) := by decide +kernel
theorem dX10_undo_5 : decode cX10_undo 5 = .ok (.ifCond .ne 7, 3) := by decide +kernel
theorem dX10_undo_8 : decode cX10_undo 8 = .ok (.iconst 1, 1) := by decide +kernel
theorem dX10_undo_9 : decode cX10_undo 9 = .ok (.goto 4, 3) := by decide +kernel
theorem dX10_undo_12 : decode cX10_undo 12 = .ok (.iconst 0, 1) := by decide +kernel
theorem dX10_undo_13 : decode cX10_undo 13 = .ok (.putfield 47, 3) := by decide +kernel
theorem dX10_undo_16 : decode cX10_undo 16 = .ok (.aload_n 0, 1) := by decide +kernel
theorem dX10_undo_17 : decode cX10_undo 17 = .ok (.getfield 47, 3) := by decide +kernel
theorem dX10_undo_20 : decode cX10_undo 20 = .ok (.ifCond .eq 5, 3) := by decide +kernel
theorem dX10_undo_23 : decode cX10_undo 23 = .ok (.iconst 0, 1) := by decide +kernel
theorem dX10_undo_24 : decode cX10_undo 24 = .ok (.ireturn, 1) := by decide +kernel
theorem dX10_undo_25 : decode cX10_undo 25 = .ok (.aload_n 0, 1) := by decide +kernel
theorem dX10_undo_26 : decode cX10_undo 26 = .ok (.dup, 1) := by decide +kernel
theorem dX10_undo_27 : decode cX10_undo 27 = .ok (.getfield 51, 3) := by decide +kernel
theorem dX10_undo_30 : decode cX10_undo 30 = .ok (.iconst 1, 1) := by decide +kernel
theorem dX10_undo_31 : decode cX10_undo 31 = .ok (.isub, 1) := by decide +kernel
theorem dX10_undo_32 : decode cX10_undo 32 = .ok (.putfield 51, 3) := by decide +kernel
theorem dX10_undo_35 : decode cX10_undo 35 = .ok (.aload_n 0, 1) := by decide +kernel
theorem dX10_undo_36 : decode cX10_undo 36 = .ok (.getfield 16, 3) := by decide +kernel
theorem dX10_undo_39 : decode cX10_undo 39 = .ok (.sipush 198, 3) := by decide +kernel
theorem dX10_undo_42 : decode cX10_undo 42 = .ok (.aload_n 0, 1) := by decide +kernel
theorem dX10_undo_43 : decode cX10_undo 43 = .ok (.getfield 51, 3) := by decide +kernel
theorem dX10_undo_46 : decode cX10_undo 46 = .ok (.imul, 1) := by decide +kernel
theorem dX10_undo_47 : decode cX10_undo 47 = .ok (.aload_n 0, 1) := by decide +kernel
theorem dX10_undo_48 : decode cX10_undo 48 = .ok (.getfield 7, 3) := by decide +kernel
theorem dX10_undo_51 : decode cX10_undo 51 = .ok (.iconst 0, 1) := by decide +kernel
theorem dX10_undo_52 : decode cX10_undo 52 = .ok (.invokestatic 54, 3) := by decide +kernel
theorem dX10_undo_55 : decode cX10_undo 55 = .ok (.aload_n 0, 1) := by decide +kernel
theorem dX10_undo_56 : decode cX10_undo 56 = .ok (.getfield 51, 3) := by decide +kernel
theorem dX10_undo_59 : decode cX10_undo 59 = .ok (.ireturn, 1) := by decide +kernel
theorem dX10_mix_0 : decode cX10_mix 0 = .ok (.aload_n 0, 1) := by decide +kernel
theorem dX10_mix_1 : decode cX10_mix 1 = .ok (.ldc2_w 338, 3) := by decide +kernel
theorem dX10_mix_4 : decode cX10_mix 4 = .ok (.aload_n 0, 1) := by decide +kernel
theorem dX10_mix_5 : decode cX10_mix 5 = .ok (.getfield 340, 3) := by decide +kernel
theorem dX10_mix_8 : decode cX10_mix 8 = .ok (.lmul, 1) := by decide +kernel
theorem dX10_mix_9 : decode cX10_mix 9 = .ok (.lload_n 1, 1) := by decide +kernel
theorem dX10_mix_10 : decode cX10_mix 10 = .ok (.ladd, 1) := by decide +kernel
theorem dX10_mix_11 : decode cX10_mix 11 = .ok (.putfield 340, 3) := by decide +kernel
theorem dX10_mix_14 : decode cX10_mix 14 = .ok (.return_, 1) := by decide +kernel
theorem dX10_mixThings_0 : decode cX10_mixThings 0 = .ok (.iconst 0, 1) := by decide +kernel
theorem dX10_mixThings_1 : decode cX10_mixThings 1 = .ok (.istore_n 1, 1) := by decide +kernel
theorem dX10_mixThings_2 : decode cX10_mixThings 2 = .ok (.iload_n 1, 1) := by decide +kernel
theorem dX10_mixThings_3 : decode cX10_mixThings 3 = .ok (.aload_n 0, 1) := by decide +kernel
theorem dX10_mixThings_4 : decode cX10_mixThings 4 = .ok (.getfield 7, 3) := by decide +kernel
theorem dX10_mixThings_7 : decode cX10_mixThings 7 = .ok (.iconst 2, 1) := by decide +kernel
theorem dX10_mixThings_8 : decode cX10_mixThings 8 = .ok (.iaload, 1) := by decide +kernel
theorem dX10_mixThings_9 : decode cX10_mixThings 9 = .ok (.if_icmp .ge 34, 3) := by decide +kernel
theorem dX10_mixThings_12 : decode cX10_mixThings 12 = .ok (.iconst 0, 1) := by decide +kernel
theorem dX10_mixThings_13 : decode cX10_mixThings 13 = .ok (.istore_n 2, 1) := by decide +kernel
theorem dX10_mixThings_14 : decode cX10_mixThings 14 = .ok (.iload_n 2, 1) := by decide +kernel
theorem dX10_mixThings_15 : decode cX10_mixThings 15 = .ok (.bipush 16, 2) := by decide +kernel
theorem dX10_mixThings_17 : decode cX10_mixThings 17 = .ok (.if_icmp .ge 20, 3) := by decide +kernel
theorem dX10_mixThings_20 : decode cX10_mixThings 20 = .ok (.aload_n 0, 1) := by decide +kernel
theorem dX10_mixThings_21 : decode cX10_mixThings 21 = .ok (.aload_n 0, 1) := by decide +kernel
theorem dX10_mixThings_22 : decode cX10_mixThings 22 = .ok (.iload_n 1, 1) := by decide +kernel
theorem dX10_mixThings_23 : decode cX10_mixThings 23 = .ok (.iload_n 2, 1) := by decide +kernel
theorem dX10_mixThings_24 : decode cX10_mixThings 24 = .ok (.invokevirtual 238, 3) := by decide +kernel
theorem dX10_mixThings_27 : decode cX10_mixThings 27 = .ok (.i2l, 1) := by decide +kernel
theorem dX10_mixThings_28 : decode cX10_mixThings 28 = .ok (.invokevirtual 344, 3) := by decide +kernel
theorem dX10_mixThings_31 : decode cX10_mixThings 31 = .ok (.iinc 2 1, 3) := by decide +kernel
theorem dX10_mixThings_34 : decode cX10_mixThings 34 = .ok (.goto (-20), 3) := by decide +kernel
theorem dX10_mixThings_37 : decode cX10_mixThings 37 = .ok (.iinc 1 1, 3) := by decide +kernel
theorem dX10_mixThings_40 : decode cX10_mixThings 40 = .ok (.goto (-38), 3) := by decide +kernel
theorem dX10_mixThings_43 : decode cX10_mixThings 43 = .ok (.iconst 0, 1) := by decide +kernel
theorem dX10_mixThings_44 : decode cX10_mixThings 44 = .ok (.istore_n 1, 1) := by decide +kernel
theorem dX10_mixThings_45 : decode cX10_mixThings 45 = .ok (.iload_n 1, 1) := by decide +kernel
theorem dX10_mixThings_46 : decode cX10_mixThings 46 = .ok (.iconst 4, 1) := by decide +kernel
theorem dX10_mixThings_47 : decode cX10_mixThings 47 = .ok (.aload_n 0, 1) := by decide +kernel
theorem dX10_mixThings_48 : decode cX10_mixThings 48 = .ok (.getfield 7, 3) := by decide +kernel
theorem dX10_mixThings_51 : decode cX10_mixThings 51 = .ok (.iconst 3, 1) := by decide +kernel
theorem dX10_mixThings_52 : decode cX10_mixThings 52 = .ok (.iaload, 1) := by decide +kernel
theorem dX10_mixThings_53 : decode cX10_mixThings 53 = .ok (.imul, 1) := by decide +kernel
theorem dX10_mixThings_54 : decode cX10_mixThings 54 = .ok (.if_icmp .ge 24, 3) := by decide +kernel
theorem dX10_mixThings_57 : decode cX10_mixThings 57 = .ok (.aload_n 0, 1) := by decide +kernel
theorem dX10_mixThings_58 : decode cX10_mixThings 58 = .ok (.aload_n 0, 1) := by decide +kernel
theorem dX10_mixThings_59 : decode cX10_mixThings 59 = .ok (.iload_n 1, 1) := by decide +kernel
theorem dX10_mixThings_60 : decode cX10_mixThings 60 = .ok (.iconst 4, 1) := by decide +kernel
theorem dX10_mixThings_61 : decode cX10_mixThings 61 = .ok (.idiv, 1) := by decide +kernel
theorem dX10_mixThings_62 : decode cX10_mixThings 62 = .ok (.iload_n 1, 1) := by decide +kernel
theorem dX10_mixThings_63 : decode cX10_mixThings 63 = .ok (.iconst 4, 1) := by decide +kernel
theorem dX10_mixThings_64 : decode cX10_mixThings 64 = .ok (.irem, 1) := by decide +kernel
theorem dX10_mixThings_65 : decode cX10_mixThings 65 = .ok (.invokevirtual 241, 3) := by decide +kernel
theorem dX10_mixThings_68 : decode cX10_mixThings 68 = .ok (.i2l, 1) := by decide +kernel
theorem dX10_mixThings_69 : decode cX10_mixThings 69 = .ok (.invokevirtual 344, 3) := by decide +kernel
theorem dX10_mixThings_72 : decode cX10_mixThings 72 = .ok (.iinc 1 1, 3) := by decide +kernel
theorem dX10_mixThings_75 : decode cX10_mixThings 75 = .ok (.goto (-30), 3) := by decide +kernel
theorem dX10_mixThings_78 : decode cX10_mixThings 78 = .ok (.iconst 0, 1) := by decide +kernel
theorem dX10_mixThings_79 : decode cX10_mixThings 79 = .ok (.istore_n 1, 1) := by decide +kernel
theorem dX10_mixThings_80 : decode cX10_mixThings 80 = .ok (.iload_n 1, 1) := by decide +kernel
theorem dX10_mixThings_81 : decode cX10_mixThings 81 = .ok (.bipush 7, 2) := by decide +kernel
theorem dX10_mixThings_83 : decode cX10_mixThings 83 = .ok (.if_icmp .ge 19, 3) := by decide +kernel
theorem dX10_mixThings_86 : decode cX10_mixThings 86 = .ok (.aload_n 0, 1) := by decide +kernel
theorem dX10_mixThings_87 : decode cX10_mixThings 87 = .ok (.aload_n 0, 1) := by decide +kernel
theorem dX10_mixThings_88 : decode cX10_mixThings 88 = .ok (.iload_n 1, 1) := by decide +kernel
theorem dX10_mixThings_89 : decode cX10_mixThings 89 = .ok (.invokevirtual 244, 3) := by decide +kernel
theorem dX10_mixThings_92 : decode cX10_mixThings 92 = .ok (.i2l, 1) := by decide +kernel
theorem dX10_mixThings_93 : decode cX10_mixThings 93 = .ok (.invokevirtual 344, 3) := by decide +kernel
theorem dX10_mixThings_96 : decode cX10_mixThings 96 = .ok (.iinc 1 1, 3) := by decide +kernel
theorem dX10_mixThings_99 : decode cX10_mixThings 99 = .ok (.goto (-19), 3) := by decide +kernel
theorem dX10_mixThings_102 : decode cX10_mixThings 102 = .ok (.return_, 1) := by decide +kernel
theorem dX10_digest_0 : decode cX10_digest 0 = .ok (.aload_n 0, 1) := by decide +kernel
theorem dX10_digest_1 : decode cX10_digest 1 = .ok (.iconst 0, 1) := by decide +kernel
theorem dX10_digest_2 : decode cX10_digest 2 = .ok (.putfield 47, 3) := by decide +kernel
theorem dX10_digest_5 : decode cX10_digest 5 = .ok (.aload_n 0, 1) := by decide +kernel
theorem dX10_digest_6 : decode cX10_digest 6 = .ok (.invokevirtual 235, 3) := by decide +kernel
theorem dX10_digest_9 : decode cX10_digest 9 = .ok (.aload_n 0, 1) := by decide +kernel
theorem dX10_digest_10 : decode cX10_digest 10 = .ok (.ldc2_w 348, 3) := by decide +kernel
theorem dX10_digest_13 : decode cX10_digest 13 = .ok (.putfield 340, 3) := by decide +kernel
theorem dX10_digest_16 : decode cX10_digest 16 = .ok (.aload_n 0, 1) := by decide +kernel
theorem dX10_digest_17 : decode cX10_digest 17 = .ok (.aload_n 0, 1) := by decide +kernel
theorem dX10_digest_18 : decode cX10_digest 18 = .ok (.getfield 51, 3) := by decide +kernel
theorem dX10_digest_21 : decode cX10_digest 21 = .ok (.i2l, 1) := by decide +kernel
theorem dX10_digest_22 : decode cX10_digest 22 = .ok (.invokevirtual 344, 3) := by decide +kernel
theorem dX10_digest_25 : decode cX10_digest 25 = .ok (.aload_n 0, 1) := by decide +kernel
theorem dX10_digest_26 : decode cX10_digest 26 = .ok (.aload_n 0, 1) := by decide +kernel
theorem dX10_digest_27 : decode cX10_digest 27 = .ok (.getfield 273, 3) := by decide +kernel
theorem dX10_digest_30 : decode cX10_digest 30 = .ok (.i2l, 1) := by decide +kernel
theorem dX10_digest_31 : decode cX10_digest 31 = .ok (.invokevirtual 344, 3) := by decide +kernel
theorem dX10_digest_34 : decode cX10_digest 34 = .ok (.iconst 0, 1) := by decide +kernel
theorem dX10_digest_35 : decode cX10_digest 35 = .ok (.istore_n 1, 1) := by decide +kernel
theorem dX10_digest_36 : decode cX10_digest 36 = .ok (.iload_n 1, 1) := by decide +kernel
theorem dX10_digest_37 : decode cX10_digest 37 = .ok (.bipush 16, 2) := by decide +kernel
theorem dX10_digest_39 : decode cX10_digest 39 = .ok (.if_icmp .ge 19, 3) := by decide +kernel
theorem dX10_digest_42 : decode cX10_digest 42 = .ok (.aload_n 0, 1) := by decide +kernel
theorem dX10_digest_43 : decode cX10_digest 43 = .ok (.aload_n 0, 1) := by decide +kernel
theorem dX10_digest_44 : decode cX10_digest 44 = .ok (.iload_n 1, 1) := by decide +kernel
theorem dX10_digest_45 : decode cX10_digest 45 = .ok (.invokevirtual 247, 3) := by decide +kernel
theorem dX10_digest_48 : decode cX10_digest 48 = .ok (.i2l, 1) := by decide +kernel
theorem dX10_digest_49 : decode cX10_digest 49 = .ok (.invokevirtual 344, 3) := by decide +kernel
theorem dX10_digest_52 : decode cX10_digest 52 = .ok (.iinc 1 1, 3) := by decide +kernel
theorem dX10_digest_55 : decode cX10_digest 55 = .ok (.goto (-19), 3) := by decide +kernel
theorem dX10_digest_58 : decode cX10_digest 58 = .ok (.aload_n 0, 1) := by decide +kernel
theorem dX10_digest_59 : decode cX10_digest 59 = .ok (.invokevirtual 350, 3) := by decide +kernel
theorem dX10_digest_62 : decode cX10_digest 62 = .ok (.iconst 0, 1) := by decide +kernel
theorem dX10_digest_63 : decode cX10_digest 63 = .ok (.istore_n 1, 1) := by decide +kernel
theorem dX10_digest_64 : decode cX10_digest 64 = .ok (.iload_n 1, 1) := by decide +kernel
theorem dX10_digest_65 : decode cX10_digest 65 = .ok (.aload_n 0, 1) := by decide +kernel
theorem dX10_digest_66 : decode cX10_digest 66 = .ok (.getfield 7, 3) := by decide +kernel
theorem dX10_digest_69 : decode cX10_digest 69 = .ok (.iconst 0, 1) := by decide +kernel
theorem dX10_digest_70 : decode cX10_digest 70 = .ok (.iaload, 1) := by decide +kernel
theorem dX10_digest_71 : decode cX10_digest 71 = .ok (.aload_n 0, 1) := by decide +kernel
theorem dX10_digest_72 : decode cX10_digest 72 = .ok (.getfield 7, 3) := by decide +kernel
theorem dX10_digest_75 : decode cX10_digest 75 = .ok (.iconst 1, 1) := by decide +kernel
theorem dX10_digest_76 : decode cX10_digest 76 = .ok (.iaload, 1) := by decide +kernel
theorem dX10_digest_77 : decode cX10_digest 77 = .ok (.imul, 1) := by decide +kernel
theorem dX10_digest_78 : decode cX10_digest 78 = .ok (.if_icmp .ge 61, 3) := by decide +kernel
theorem dX10_digest_81 : decode cX10_digest 81 = .ok (.aload_n 0, 1) := by decide +kernel
theorem dX10_digest_82 : decode cX10_digest 82 = .ok (.aload_n 0, 1) := by decide +kernel
theorem dX10_digest_83 : decode cX10_digest 83 = .ok (.iconst 1, 1) := by decide +kernel
theorem dX10_digest_84 : decode cX10_digest 84 = .ok (.iload_n 1, 1) := by decide +kernel
theorem dX10_digest_85 : decode cX10_digest 85 = .ok (.aload_n 0, 1) := by decide +kernel
theorem dX10_digest_86 : decode cX10_digest 86 = .ok (.getfield 7, 3) := by decide +kernel
theorem dX10_digest_89 : decode cX10_digest 89 = .ok (.iconst 0, 1) := by decide +kernel
theorem dX10_digest_90 : decode cX10_digest 90 = .ok (.iaload, 1) := by decide +kernel
theorem dX10_digest_91 : decode cX10_digest 91 = .ok (.irem, 1) := by decide +kernel
theorem dX10_digest_92 : decode cX10_digest 92 = .ok (.iload_n 1, 1) := by decide +kernel
theorem dX10_digest_93 : decode cX10_digest 93 = .ok (.aload_n 0, 1) := by decide +kernel
theorem dX10_digest_94 : decode cX10_digest 94 = .ok (.getfield 7, 3) := by decide +kernel
theorem dX10_digest_97 : decode cX10_digest 97 = .ok (.iconst 0, 1) := by decide +kernel
theorem dX10_digest_98 : decode cX10_digest 98 = .ok (.iaload, 1) := by decide +kernel
theorem dX10_digest_99 : decode cX10_digest 99 = .ok (.idiv, 1) := by decide +kernel
theorem dX10_digest_100 : decode cX10_digest 100 = .ok (.invokevirtual 261, 3) := by decide +kernel
theorem dX10_digest_103 : decode cX10_digest 103 = .ok (.i2l, 1) := by decide +kernel
theorem dX10_digest_104 : decode cX10_digest 104 = .ok (.invokevirtual 344, 3) := by decide +kernel
theorem dX10_digest_107 : decode cX10_digest 107 = .ok (.aload_n 0, 1) := by decide +kernel
theorem dX10_digest_108 : decode cX10_digest 108 = .ok (.aload_n 0, 1) := by decide +kernel
theorem dX10_digest_109 : decode cX10_digest 109 = .ok (.iconst 0, 1) := by decide +kernel
theorem dX10_digest_110 : decode cX10_digest 110 = .ok (.iload_n 1, 1) := by decide +kernel
theorem dX10_digest_111 : decode cX10_digest 111 = .ok (.aload_n 0, 1) := by decide +kernel
theorem dX10_digest_112 : decode cX10_digest 112 = .ok (.getfield 7, 3) := by decide +kernel
theorem dX10_digest_115 : decode cX10_digest 115 = .ok (.iconst 0, 1) := by decide +kernel
theorem dX10_digest_116 : decode cX10_digest 116 = .ok (.iaload, 1) := by decide +kernel
theorem dX10_digest_117 : decode cX10_digest 117 = .ok (.irem, 1) := by decide +kernel
theorem dX10_digest_118 : decode cX10_digest 118 = .ok (.iload_n 1, 1) := by decide +kernel
theorem dX10_digest_119 : decode cX10_digest 119 = .ok (.aload_n 0, 1) := by decide +kernel
theorem dX10_digest_120 : decode cX10_digest 120 = .ok (.getfield 7, 3) := by decide +kernel
theorem dX10_digest_123 : decode cX10_digest 123 = .ok (.iconst 0, 1) := by decide +kernel
theorem dX10_digest_124 : decode cX10_digest 124 = .ok (.iaload, 1) := by decide +kernel
theorem dX10_digest_125 : decode cX10_digest 125 = .ok (.idiv, 1) := by decide +kernel
theorem dX10_digest_126 : decode cX10_digest 126 = .ok (.invokevirtual 261, 3) := by decide +kernel
theorem dX10_digest_129 : decode cX10_digest 129 = .ok (.i2l, 1) := by decide +kernel
theorem dX10_digest_130 : decode cX10_digest 130 = .ok (.invokevirtual 344, 3) := by decide +kernel
theorem dX10_digest_133 : decode cX10_digest 133 = .ok (.iinc 1 1, 3) := by decide +kernel
theorem dX10_digest_136 : decode cX10_digest 136 = .ok (.goto (-72), 3) := by decide +kernel
theorem dX10_digest_139 : decode cX10_digest 139 = .ok (.aload_n 0, 1) := by decide +kernel
theorem dX10_digest_140 : decode cX10_digest 140 = .ok (.getfield 340, 3) := by decide +kernel
theorem dX10_digest_143 : decode cX10_digest 143 = .ok (.lreturn, 1) := by decide +kernel
