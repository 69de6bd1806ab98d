theorem dX0_init_0 : decode cX0_init 0 = .ok (.aload_n 0, 1) := by decide +kernel
theorem dX0_init_1 : decode cX0_init 1 = .ok (.invokespecial 3, 3) := by decide +kernel
theorem dX0_init_4 : decode cX0_init 4 = .ok (.aload_n 0, 1) := by decide +kernel
theorem dX0_init_5 : decode cX0_init 5 = .ok (.bipush 24, 2) := by decide +kernel
theorem dX0_init_7 : decode cX0_init 7 = .ok (.newarray .int, 2) := by decide +kernel
theorem dX0_init_9 : decode cX0_init 9 = .ok (.putfield 9, 3) := by decide +kernel
theorem dX0_init_12 : decode cX0_init 12 = .ok (.aload_n 0, 1) := by decide +kernel
theorem dX0_init_13 : decode cX0_init 13 = .ok (.bipush 24, 2) := by decide +kernel
theorem dX0_init_15 : decode cX0_init 15 = .ok (.newarray .int, 2) := by decide +kernel
theorem dX0_init_17 : decode cX0_init 17 = .ok (.putfield 15, 3) := by decide +kernel
theorem dX0_init_20 : decode cX0_init 20 = .ok (.aload_n 0, 1) := by decide +kernel
theorem dX0_init_21 : decode cX0_init 21 = .ok (.bipush 24, 2) := by decide +kernel
theorem dX0_init_23 : decode cX0_init 23 = .ok (.newarray .int, 2) := by decide +kernel
theorem dX0_init_25 : decode cX0_init 25 = .ok (.putfield 18, 3) := by decide +kernel
theorem dX0_init_28 : decode cX0_init 28 = .ok (.aload_n 0, 1) := by decide +kernel
theorem dX0_init_29 : decode cX0_init 29 = .ok (.bipush 24, 2) := by decide +kernel
theorem dX0_init_31 : decode cX0_init 31 = .ok (.newarray .int, 2) := by decide +kernel
theorem dX0_init_33 : decode cX0_init 33 = .ok (.putfield 21, 3) := by decide +kernel
theorem dX0_init_36 : decode cX0_init 36 = .ok (.aload_n 0, 1) := by decide +kernel
theorem dX0_init_37 : decode cX0_init 37 = .ok (.bipush 24, 2) := by decide +kernel
theorem dX0_init_39 : decode cX0_init 39 = .ok (.newarray .int, 2) := by decide +kernel
theorem dX0_init_41 : decode cX0_init 41 = .ok (.putfield 24, 3) := by decide +kernel
theorem dX0_init_44 : decode cX0_init 44 = .ok (.aload_n 0, 1) := by decide +kernel
theorem dX0_init_45 : decode cX0_init 45 = .ok (.bipush 24, 2) := by decide +kernel
theorem dX0_init_47 : decode cX0_init 47 = .ok (.newarray .int, 2) := by decide +kernel
theorem dX0_init_49 : decode cX0_init 49 = .ok (.putfield 27, 3) := by decide +kernel
theorem dX0_init_52 : decode cX0_init 52 = .ok (.return_, 1) := by decide +kernel
theorem dX0_study_0 : decode cX0_study 0 = .ok (.iconst 0, 1) := by decide +kernel
theorem dX0_study_1 : decode cX0_study 1 = .ok (.istore_n 3, 1) := by decide +kernel
theorem dX0_study_2 : decode cX0_study 2 = .ok (.iload_n 3, 1) := by decide +kernel
theorem dX0_study_3 : decode cX0_study 3 = .ok (.aload_n 1, 1) := by decide +kernel
theorem dX0_study_4 : decode cX0_study 4 = .ok (.getfield 30, 3) := by decide +kernel
theorem dX0_study_7 : decode cX0_study 7 = .ok (.if_icmp .ge 54, 3) := by decide +kernel
theorem dX0_study_10 : decode cX0_study 10 = .ok (.aload_n 2, 1) := by decide +kernel
theorem dX0_study_11 : decode cX0_study 11 = .ok (.getfield 36, 3) := by decide +kernel
theorem dX0_study_14 : decode cX0_study 14 = .ok (.ifCond .eq 12, 3) := by decide +kernel
theorem dX0_study_17 : decode cX0_study 17 = .ok (.aload_n 0, 1) := by decide +kernel
theorem dX0_study_18 : decode cX0_study 18 = .ok (.aload_n 1, 1) := by decide +kernel
theorem dX0_study_19 : decode cX0_study 19 = .ok (.iload_n 3, 1) := by decide +kernel
theorem dX0_study_20 : decode cX0_study 20 = .ok (.invokevirtual 42, 3) := by decide +kernel
theorem dX0_study_23 : decode cX0_study 23 = .ok (.goto 22, 3) := by decide +kernel
theorem dX0_study_26 : decode cX0_study 26 = .ok (.aload_n 0, 1) := by decide +kernel
theorem dX0_study_27 : decode cX0_study 27 = .ok (.iload_n 3, 1) := by decide +kernel
theorem dX0_study_28 : decode cX0_study 28 = .ok (.iconst 0, 1) := by decide +kernel
theorem dX0_study_29 : decode cX0_study 29 = .ok (.iconst 0, 1) := by decide +kernel
theorem dX0_study_30 : decode cX0_study 30 = .ok (.aload_n 1, 1) := by decide +kernel
theorem dX0_study_31 : decode cX0_study 31 = .ok (.getfield 46, 3) := by decide +kernel
theorem dX0_study_34 : decode cX0_study 34 = .ok (.iload_n 3, 1) := by decide +kernel
theorem dX0_study_35 : decode cX0_study 35 = .ok (.iaload, 1) := by decide +kernel
theorem dX0_study_36 : decode cX0_study 36 = .ok (.aload_n 1, 1) := by decide +kernel
theorem dX0_study_37 : decode cX0_study 37 = .ok (.getfield 47, 3) := by decide +kernel
theorem dX0_study_40 : decode cX0_study 40 = .ok (.iload_n 3, 1) := by decide +kernel
theorem dX0_study_41 : decode cX0_study 41 = .ok (.iaload, 1) := by decide +kernel
theorem dX0_study_42 : decode cX0_study 42 = .ok (.invokevirtual 48, 3) := by decide +kernel
theorem dX0_study_45 : decode cX0_study 45 = .ok (.aload_n 0, 1) := by decide +kernel
theorem dX0_study_46 : decode cX0_study 46 = .ok (.aload_n 1, 1) := by decide +kernel
theorem dX0_study_47 : decode cX0_study 47 = .ok (.iload_n 3, 1) := by decide +kernel
theorem dX0_study_48 : decode cX0_study 48 = .ok (.aload_n 2, 1) := by decide +kernel
theorem dX0_study_49 : decode cX0_study 49 = .ok (.invokevirtual 52, 3) := by decide +kernel
theorem dX0_study_52 : decode cX0_study 52 = .ok (.invokevirtual 56, 3) := by decide +kernel
theorem dX0_study_55 : decode cX0_study 55 = .ok (.iinc 3 1, 3) := by decide +kernel
theorem dX0_study_58 : decode cX0_study 58 = .ok (.goto (-56), 3) := by decide +kernel
theorem dX0_study_61 : decode cX0_study 61 = .ok (.return_, 1) := by decide +kernel
theorem dX0_isBlank_0 : decode cX0_isBlank 0 = .ok (.aload_n 0, 1) := by decide +kernel
theorem dX0_isBlank_1 : decode cX0_isBlank 1 = .ok (.getfield 18, 3) := by decide +kernel
theorem dX0_isBlank_4 : decode cX0_isBlank 4 = .ok (.iload_n 1, 1) := by decide +kernel
theorem dX0_isBlank_5 : decode cX0_isBlank 5 = .ok (.iaload, 1) := by decide +kernel
theorem dX0_isBlank_6 : decode cX0_isBlank 6 = .ok (.ifCond .ne 7, 3) := by decide +kernel
theorem dX0_isBlank_9 : decode cX0_isBlank 9 = .ok (.iconst 1, 1) := by decide +kernel
theorem dX0_isBlank_10 : decode cX0_isBlank 10 = .ok (.goto 4, 3) := by decide +kernel
theorem dX0_isBlank_13 : decode cX0_isBlank 13 = .ok (.iconst 0, 1) := by decide +kernel
theorem dX0_isBlank_14 : decode cX0_isBlank 14 = .ok (.ireturn, 1) := by decide +kernel
theorem dX0_isOriginal_0 : decode cX0_isOriginal 0 = .ok (.aload_n 0, 1) := by decide +kernel
theorem dX0_isOriginal_1 : decode cX0_isOriginal 1 = .ok (.iload_n 1, 1) := by decide +kernel
theorem dX0_isOriginal_2 : decode cX0_isOriginal 2 = .ok (.invokevirtual 60, 3) := by decide +kernel
theorem dX0_isOriginal_5 : decode cX0_isOriginal 5 = .ok (.ifCond .ne 18, 3) := by decide +kernel
theorem dX0_isOriginal_8 : decode cX0_isOriginal 8 = .ok (.aload_n 0, 1) := by decide +kernel
theorem dX0_isOriginal_9 : decode cX0_isOriginal 9 = .ok (.getfield 24, 3) := by decide +kernel
theorem dX0_isOriginal_12 : decode cX0_isOriginal 12 = .ok (.iload_n 1, 1) := by decide +kernel
theorem dX0_isOriginal_13 : decode cX0_isOriginal 13 = .ok (.iaload, 1) := by decide +kernel
theorem dX0_isOriginal_14 : decode cX0_isOriginal 14 = .ok (.bipush (-4), 2) := by decide +kernel
theorem dX0_isOriginal_16 : decode cX0_isOriginal 16 = .ok (.if_icmp .ne 7, 3) := by decide +kernel
theorem dX0_isOriginal_19 : decode cX0_isOriginal 19 = .ok (.iconst 1, 1) := by decide +kernel
theorem dX0_isOriginal_20 : decode cX0_isOriginal 20 = .ok (.goto 4, 3) := by decide +kernel
theorem dX0_isOriginal_23 : decode cX0_isOriginal 23 = .ok (.iconst 0, 1) := by decide +kernel
theorem dX0_isOriginal_24 : decode cX0_isOriginal 24 = .ok (.ireturn, 1) := by decide +kernel
theorem dX0_sourceOf_0 : decode cX0_sourceOf 0 = .ok (.aload_n 0, 1) := by decide +kernel
theorem dX0_sourceOf_1 : decode cX0_sourceOf 1 = .ok (.iload_n 1, 1) := by decide +kernel
theorem dX0_sourceOf_2 : decode cX0_sourceOf 2 = .ok (.invokevirtual 60, 3) := by decide +kernel
theorem dX0_sourceOf_5 : decode cX0_sourceOf 5 = .ok (.ifCond .eq 6, 3) := by decide +kernel
theorem dX0_sourceOf_8 : decode cX0_sourceOf 8 = .ok (.bipush (-4), 2) := by decide +kernel
theorem dX0_sourceOf_10 : decode cX0_sourceOf 10 = .ok (.ireturn, 1) := by decide +kernel
theorem dX0_sourceOf_11 : decode cX0_sourceOf 11 = .ok (.aload_n 0, 1) := by decide +kernel
theorem dX0_sourceOf_12 : decode cX0_sourceOf 12 = .ok (.getfield 24, 3) := by decide +kernel
theorem dX0_sourceOf_15 : decode cX0_sourceOf 15 = .ok (.iload_n 1, 1) := by decide +kernel
theorem dX0_sourceOf_16 : decode cX0_sourceOf 16 = .ok (.iaload, 1) := by decide +kernel
theorem dX0_sourceOf_17 : decode cX0_sourceOf 17 = .ok (.bipush (-4), 2) := by decide +kernel
theorem dX0_sourceOf_19 : decode cX0_sourceOf 19 = .ok (.if_icmp .ne 7, 3) := by decide +kernel
theorem dX0_sourceOf_22 : decode cX0_sourceOf 22 = .ok (.iload_n 1, 1) := by decide +kernel
theorem dX0_sourceOf_23 : decode cX0_sourceOf 23 = .ok (.goto 9, 3) := by decide +kernel
theorem dX0_sourceOf_26 : decode cX0_sourceOf 26 = .ok (.aload_n 0, 1) := by decide +kernel
theorem dX0_sourceOf_27 : decode cX0_sourceOf 27 = .ok (.getfield 24, 3) := by decide +kernel
theorem dX0_sourceOf_30 : decode cX0_sourceOf 30 = .ok (.iload_n 1, 1) := by decide +kernel
theorem dX0_sourceOf_31 : decode cX0_sourceOf 31 = .ok (.iaload, 1) := by decide +kernel
theorem dX0_sourceOf_32 : decode cX0_sourceOf 32 = .ok (.ireturn, 1) := by decide +kernel
theorem dX0_findRecord_0 : decode cX0_findRecord 0 = .ok (.iconst 0, 1) := by decide +kernel
theorem dX0_findRecord_1 : decode cX0_findRecord 1 = .ok (.istore 5, 2) := by decide +kernel
theorem dX0_findRecord_3 : decode cX0_findRecord 3 = .ok (.iload 5, 2) := by decide +kernel
theorem dX0_findRecord_5 : decode cX0_findRecord 5 = .ok (.bipush 8, 2) := by decide +kernel
theorem dX0_findRecord_7 : decode cX0_findRecord 7 = .ok (.if_icmp .ge 37, 3) := by decide +kernel
theorem dX0_findRecord_10 : decode cX0_findRecord 10 = .ok (.aload_n 0, 1) := by decide +kernel
theorem dX0_findRecord_11 : decode cX0_findRecord 11 = .ok (.aload_n 1, 1) := by decide +kernel
theorem dX0_findRecord_12 : decode cX0_findRecord 12 = .ok (.iload_n 2, 1) := by decide +kernel
theorem dX0_findRecord_13 : decode cX0_findRecord 13 = .ok (.iload_n 3, 1) := by decide +kernel
theorem dX0_findRecord_14 : decode cX0_findRecord 14 = .ok (.iload 4, 2) := by decide +kernel
theorem dX0_findRecord_16 : decode cX0_findRecord 16 = .ok (.ifCond .eq 11, 3) := by decide +kernel
theorem dX0_findRecord_19 : decode cX0_findRecord 19 = .ok (.iload 5, 2) := by decide +kernel
theorem dX0_findRecord_21 : decode cX0_findRecord 21 = .ok (.invokestatic 64, 3) := by decide +kernel
theorem dX0_findRecord_24 : decode cX0_findRecord 24 = .ok (.goto 5, 3) := by decide +kernel
theorem dX0_findRecord_27 : decode cX0_findRecord 27 = .ok (.iload 5, 2) := by decide +kernel
theorem dX0_findRecord_29 : decode cX0_findRecord 29 = .ok (.invokevirtual 68, 3) := by decide +kernel
theorem dX0_findRecord_32 : decode cX0_findRecord 32 = .ok (.ifCond .eq 6, 3) := by decide +kernel
theorem dX0_findRecord_35 : decode cX0_findRecord 35 = .ok (.iload 5, 2) := by decide +kernel
theorem dX0_findRecord_37 : decode cX0_findRecord 37 = .ok (.ireturn, 1) := by decide +kernel
theorem dX0_findRecord_38 : decode cX0_findRecord 38 = .ok (.iinc 5 1, 3) := by decide +kernel
theorem dX0_findRecord_41 : decode cX0_findRecord 41 = .ok (.goto (-38), 3) := by decide +kernel
theorem dX0_findRecord_44 : decode cX0_findRecord 44 = .ok (.bipush (-4), 2) := by decide +kernel
theorem dX0_findRecord_46 : decode cX0_findRecord 46 = .ok (.ireturn, 1) := by decide +kernel
theorem dX0_colorIn_0 : decode cX0_colorIn 0 = .ok (.aload_n 0, 1) := by decide +kernel
theorem dX0_colorIn_1 : decode cX0_colorIn 1 = .ok (.getfield 18, 3) := by decide +kernel
theorem dX0_colorIn_4 : decode cX0_colorIn 4 = .ok (.iload_n 2, 1) := by decide +kernel
theorem dX0_colorIn_5 : decode cX0_colorIn 5 = .ok (.iaload, 1) := by decide +kernel
theorem dX0_colorIn_6 : decode cX0_colorIn 6 = .ok (.iconst 1, 1) := by decide +kernel
theorem dX0_colorIn_7 : decode cX0_colorIn 7 = .ok (.isub, 1) := by decide +kernel
theorem dX0_colorIn_8 : decode cX0_colorIn 8 = .ok (.istore 6, 2) := by decide +kernel
theorem dX0_colorIn_10 : decode cX0_colorIn 10 = .ok (.aload_n 0, 1) := by decide +kernel
theorem dX0_colorIn_11 : decode cX0_colorIn 11 = .ok (.getfield 21, 3) := by decide +kernel
theorem dX0_colorIn_14 : decode cX0_colorIn 14 = .ok (.iload_n 2, 1) := by decide +kernel
theorem dX0_colorIn_15 : decode cX0_colorIn 15 = .ok (.iaload, 1) := by decide +kernel
theorem dX0_colorIn_16 : decode cX0_colorIn 16 = .ok (.iconst 1, 1) := by decide +kernel
theorem dX0_colorIn_17 : decode cX0_colorIn 17 = .ok (.isub, 1) := by decide +kernel
theorem dX0_colorIn_18 : decode cX0_colorIn 18 = .ok (.istore 7, 2) := by decide +kernel
theorem dX0_colorIn_20 : decode cX0_colorIn 20 = .ok (.iload_n 3, 1) := by decide +kernel
theorem dX0_colorIn_21 : decode cX0_colorIn 21 = .ok (.iconst 4, 1) := by decide +kernel
theorem dX0_colorIn_22 : decode cX0_colorIn 22 = .ok (.irem, 1) := by decide +kernel
theorem dX0_colorIn_23 : decode cX0_colorIn 23 = .ok (.istore 8, 2) := by decide +kernel
theorem dX0_colorIn_25 : decode cX0_colorIn 25 = .ok (.iload 4, 2) := by decide +kernel
theorem dX0_colorIn_27 : decode cX0_colorIn 27 = .ok (.istore 9, 2) := by decide +kernel
theorem dX0_colorIn_29 : decode cX0_colorIn 29 = .ok (.iload 5, 2) := by decide +kernel
theorem dX0_colorIn_31 : decode cX0_colorIn 31 = .ok (.istore 10, 2) := by decide +kernel
theorem dX0_colorIn_33 : decode cX0_colorIn 33 = .ok (.iload 8, 2) := by decide +kernel
theorem dX0_colorIn_35 : decode cX0_colorIn 35 = .ok (.iconst 1, 1) := by decide +kernel
theorem dX0_colorIn_36 : decode cX0_colorIn 36 = .ok (.if_icmp .ne 17, 3) := by decide +kernel
theorem dX0_colorIn_39 : decode cX0_colorIn 39 = .ok (.iload 5, 2) := by decide +kernel
theorem dX0_colorIn_41 : decode cX0_colorIn 41 = .ok (.istore 9, 2) := by decide +kernel
theorem dX0_colorIn_43 : decode cX0_colorIn 43 = .ok (.iload 7, 2) := by decide +kernel
theorem dX0_colorIn_45 : decode cX0_colorIn 45 = .ok (.iload 4, 2) := by decide +kernel
theorem dX0_colorIn_47 : decode cX0_colorIn 47 = .ok (.isub, 1) := by decide +kernel
theorem dX0_colorIn_48 : decode cX0_colorIn 48 = .ok (.istore 10, 2) := by decide +kernel
theorem dX0_colorIn_50 : decode cX0_colorIn 50 = .ok (.goto 43, 3) := by decide +kernel
theorem dX0_colorIn_53 : decode cX0_colorIn 53 = .ok (.iload 8, 2) := by decide +kernel
theorem dX0_colorIn_55 : decode cX0_colorIn 55 = .ok (.iconst 2, 1) := by decide +kernel
theorem dX0_colorIn_56 : decode cX0_colorIn 56 = .ok (.if_icmp .ne 20, 3) := by decide +kernel
theorem dX0_colorIn_59 : decode cX0_colorIn 59 = .ok (.iload 6, 2) := by decide +kernel
theorem dX0_colorIn_61 : decode cX0_colorIn 61 = .ok (.iload 4, 2) := by decide +kernel
theorem dX0_colorIn_63 : decode cX0_colorIn 63 = .ok (.isub, 1) := by decide +kernel
theorem dX0_colorIn_64 : decode cX0_colorIn 64 = .ok (.istore 9, 2) := by decide +kernel
theorem dX0_colorIn_66 : decode cX0_colorIn 66 = .ok (.iload 7, 2) := by decide +kernel
theorem dX0_colorIn_68 : decode cX0_colorIn 68 = .ok (.iload 5, 2) := by decide +kernel
theorem dX0_colorIn_70 : decode cX0_colorIn 70 = .ok (.isub, 1) := by decide +kernel
theorem dX0_colorIn_71 : decode cX0_colorIn 71 = .ok (.istore 10, 2) := by decide +kernel
theorem dX0_colorIn_73 : decode cX0_colorIn 73 = .ok (.goto 20, 3) := by decide +kernel
theorem dX0_colorIn_76 : decode cX0_colorIn 76 = .ok (.iload 8, 2) := by decide +kernel
theorem dX0_colorIn_78 : decode cX0_colorIn 78 = .ok (.iconst 3, 1) := by decide +kernel
theorem dX0_colorIn_79 : decode cX0_colorIn 79 = .ok (.if_icmp .ne 14, 3) := by decide +kernel
theorem dX0_colorIn_82 : decode cX0_colorIn 82 = .ok (.iload 6, 2) := by decide +kernel
theorem dX0_colorIn_84 : decode cX0_colorIn 84 = .ok (.iload 5, 2) := by decide +kernel
theorem dX0_colorIn_86 : decode cX0_colorIn 86 = .ok (.isub, 1) := by decide +kernel
theorem dX0_colorIn_87 : decode cX0_colorIn 87 = .ok (.istore 9, 2) := by decide +kernel
theorem dX0_colorIn_89 : decode cX0_colorIn 89 = .ok (.iload 4, 2) := by decide +kernel
theorem dX0_colorIn_91 : decode cX0_colorIn 91 = .ok (.istore 10, 2) := by decide +kernel
theorem dX0_colorIn_93 : decode cX0_colorIn 93 = .ok (.iload_n 3, 1) := by decide +kernel
theorem dX0_colorIn_94 : decode cX0_colorIn 94 = .ok (.iconst 4, 1) := by decide +kernel
theorem dX0_colorIn_95 : decode cX0_colorIn 95 = .ok (.if_icmp .lt 10, 3) := by decide +kernel
theorem dX0_colorIn_98 : decode cX0_colorIn 98 = .ok (.iload 6, 2) := by decide +kernel
theorem dX0_colorIn_100 : decode cX0_colorIn 100 = .ok (.iload 9, 2) := by decide +kernel
theorem dX0_colorIn_102 : decode cX0_colorIn 102 = .ok (.isub, 1) := by decide +kernel
theorem dX0_colorIn_103 : decode cX0_colorIn 103 = .ok (.istore 9, 2) := by decide +kernel
theorem dX0_colorIn_105 : decode cX0_colorIn 105 = .ok (.aload_n 1, 1) := by decide +kernel
theorem dX0_colorIn_106 : decode cX0_colorIn 106 = .ok (.iload_n 2, 1) := by decide +kernel
theorem dX0_colorIn_107 : decode cX0_colorIn 107 = .ok (.aload_n 0, 1) := by decide +kernel
theorem dX0_colorIn_108 : decode cX0_colorIn 108 = .ok (.getfield 9, 3) := by decide +kernel
theorem dX0_colorIn_111 : decode cX0_colorIn 111 = .ok (.iload_n 2, 1) := by decide +kernel
theorem dX0_colorIn_112 : decode cX0_colorIn 112 = .ok (.iaload, 1) := by decide +kernel
theorem dX0_colorIn_113 : decode cX0_colorIn 113 = .ok (.iload 9, 2) := by decide +kernel
theorem dX0_colorIn_115 : decode cX0_colorIn 115 = .ok (.iadd, 1) := by decide +kernel
theorem dX0_colorIn_116 : decode cX0_colorIn 116 = .ok (.aload_n 0, 1) := by decide +kernel
theorem dX0_colorIn_117 : decode cX0_colorIn 117 = .ok (.getfield 15, 3) := by decide +kernel
theorem dX0_colorIn_120 : decode cX0_colorIn 120 = .ok (.iload_n 2, 1) := by decide +kernel
theorem dX0_colorIn_121 : decode cX0_colorIn 121 = .ok (.iaload, 1) := by decide +kernel
theorem dX0_colorIn_122 : decode cX0_colorIn 122 = .ok (.iload 10, 2) := by decide +kernel
theorem dX0_colorIn_124 : decode cX0_colorIn 124 = .ok (.iadd, 1) := by decide +kernel
theorem dX0_colorIn_125 : decode cX0_colorIn 125 = .ok (.invokevirtual 72, 3) := by decide +kernel
theorem dX0_colorIn_128 : decode cX0_colorIn 128 = .ok (.ireturn, 1) := by decide +kernel
theorem dX0_trim_0 : decode cX0_trim 0 = .ok (.bipush (-4), 2) := by decide +kernel
theorem dX0_trim_2 : decode cX0_trim 2 = .ok (.istore_n 3, 1) := by decide +kernel
theorem dX0_trim_3 : decode cX0_trim 3 = .ok (.bipush (-4), 2) := by decide +kernel
theorem dX0_trim_5 : decode cX0_trim 5 = .ok (.istore 4, 2) := by decide +kernel
theorem dX0_trim_7 : decode cX0_trim 7 = .ok (.iconst 0, 1) := by decide +kernel
theorem dX0_trim_8 : decode cX0_trim 8 = .ok (.istore 5, 2) := by decide +kernel
theorem dX0_trim_10 : decode cX0_trim 10 = .ok (.iconst 0, 1) := by decide +kernel
theorem dX0_trim_11 : decode cX0_trim 11 = .ok (.istore 6, 2) := by decide +kernel
theorem dX0_trim_13 : decode cX0_trim 13 = .ok (.iload 6, 2) := by decide +kernel
theorem dX0_trim_15 : decode cX0_trim 15 = .ok (.aload_n 1, 1) := by decide +kernel
theorem dX0_trim_16 : decode cX0_trim 16 = .ok (.getfield 47, 3) := by decide +kernel
theorem dX0_trim_19 : decode cX0_trim 19 = .ok (.iload_n 2, 1) := by decide +kernel
theorem dX0_trim_20 : decode cX0_trim 20 = .ok (.iaload, 1) := by decide +kernel
theorem dX0_trim_21 : decode cX0_trim 21 = .ok (.if_icmp .ge 47, 3) := by decide +kernel
theorem dX0_trim_24 : decode cX0_trim 24 = .ok (.aload_n 1, 1) := by decide +kernel
theorem dX0_trim_25 : decode cX0_trim 25 = .ok (.iload_n 2, 1) := by decide +kernel
theorem dX0_trim_26 : decode cX0_trim 26 = .ok (.iload 6, 2) := by decide +kernel
theorem dX0_trim_28 : decode cX0_trim 28 = .ok (.invokevirtual 76, 3) := by decide +kernel
theorem dX0_trim_31 : decode cX0_trim 31 = .ok (.istore 7, 2) := by decide +kernel
theorem dX0_trim_33 : decode cX0_trim 33 = .ok (.iload 7, 2) := by decide +kernel
theorem dX0_trim_35 : decode cX0_trim 35 = .ok (.ifCond .eq 27, 3) := by decide +kernel
theorem dX0_trim_38 : decode cX0_trim 38 = .ok (.iload_n 3, 1) := by decide +kernel
theorem dX0_trim_39 : decode cX0_trim 39 = .ok (.bipush (-4), 2) := by decide +kernel
theorem dX0_trim_41 : decode cX0_trim 41 = .ok (.if_icmp .ne 8, 3) := by decide +kernel
theorem dX0_trim_44 : decode cX0_trim 44 = .ok (.iload 6, 2) := by decide +kernel
theorem dX0_trim_46 : decode cX0_trim 46 = .ok (.goto 4, 3) := by decide +kernel
theorem dX0_trim_49 : decode cX0_trim 49 = .ok (.iload_n 3, 1) := by decide +kernel
theorem dX0_trim_50 : decode cX0_trim 50 = .ok (.istore_n 3, 1) := by decide +kernel
theorem dX0_trim_51 : decode cX0_trim 51 = .ok (.iload 6, 2) := by decide +kernel
theorem dX0_trim_53 : decode cX0_trim 53 = .ok (.istore 4, 2) := by decide +kernel
theorem dX0_trim_55 : decode cX0_trim 55 = .ok (.iload 5, 2) := by decide +kernel
theorem dX0_trim_57 : decode cX0_trim 57 = .ok (.iload 7, 2) := by decide +kernel
theorem dX0_trim_59 : decode cX0_trim 59 = .ok (.ior, 1) := by decide +kernel
theorem dX0_trim_60 : decode cX0_trim 60 = .ok (.istore 5, 2) := by decide +kernel
theorem dX0_trim_62 : decode cX0_trim 62 = .ok (.iinc 6 1, 3) := by decide +kernel
theorem dX0_trim_65 : decode cX0_trim 65 = .ok (.goto (-52), 3) := by decide +kernel
theorem dX0_trim_68 : decode cX0_trim 68 = .ok (.iload 5, 2) := by decide +kernel
theorem dX0_trim_70 : decode cX0_trim 70 = .ok (.ifCond .ne 15, 3) := by decide +kernel
theorem dX0_trim_73 : decode cX0_trim 73 = .ok (.aload_n 0, 1) := by decide +kernel
theorem dX0_trim_74 : decode cX0_trim 74 = .ok (.iload_n 2, 1) := by decide +kernel
theorem dX0_trim_75 : decode cX0_trim 75 = .ok (.bipush (-4), 2) := by decide +kernel
theorem dX0_trim_77 : decode cX0_trim 77 = .ok (.bipush (-4), 2) := by decide +kernel
theorem dX0_trim_79 : decode cX0_trim 79 = .ok (.iconst 0, 1) := by decide +kernel
theorem dX0_trim_80 : decode cX0_trim 80 = .ok (.iconst 0, 1) := by decide +kernel
theorem dX0_trim_81 : decode cX0_trim 81 = .ok (.invokevirtual 48, 3) := by decide +kernel
theorem dX0_trim_84 : decode cX0_trim 84 = .ok (.return_, 1) := by decide +kernel
theorem dX0_trim_85 : decode cX0_trim 85 = .ok (.bipush 8, 2) := by decide +kernel
theorem dX0_trim_87 : decode cX0_trim 87 = .ok (.istore 6, 2) := by decide +kernel
theorem dX0_trim_89 : decode cX0_trim 89 = .ok (.iconst 0, 1) := by decide +kernel
theorem dX0_trim_90 : decode cX0_trim 90 = .ok (.istore 7, 2) := by decide +kernel
theorem dX0_trim_92 : decode cX0_trim 92 = .ok (.iconst 0, 1) := by decide +kernel
theorem dX0_trim_93 : decode cX0_trim 93 = .ok (.istore 8, 2) := by decide +kernel
theorem dX0_trim_95 : decode cX0_trim 95 = .ok (.iload 8, 2) := by decide +kernel
theorem dX0_trim_97 : decode cX0_trim 97 = .ok (.bipush 8, 2) := by decide +kernel
theorem dX0_trim_99 : decode cX0_trim 99 = .ok (.if_icmp .ge 35, 3) := by decide +kernel
theorem dX0_trim_102 : decode cX0_trim 102 = .ok (.iload 5, 2) := by decide +kernel
theorem dX0_trim_104 : decode cX0_trim 104 = .ok (.iconst 4, 1) := by decide +kernel
theorem dX0_trim_105 : decode cX0_trim 105 = .ok (.iload 8, 2) := by decide +kernel
theorem dX0_trim_107 : decode cX0_trim 107 = .ok (.imul, 1) := by decide +kernel
theorem dX0_trim_108 : decode cX0_trim 108 = .ok (.iushr, 1) := by decide +kernel
theorem dX0_trim_109 : decode cX0_trim 109 = .ok (.bipush 15, 2) := by decide +kernel
theorem dX0_trim_111 : decode cX0_trim 111 = .ok (.iand, 1) := by decide +kernel
theorem dX0_trim_112 : decode cX0_trim 112 = .ok (.ifCond .eq 16, 3) := by decide +kernel
theorem dX0_trim_115 : decode cX0_trim 115 = .ok (.iload 6, 2) := by decide +kernel
theorem dX0_trim_117 : decode cX0_trim 117 = .ok (.iload 8, 2) := by decide +kernel
theorem dX0_trim_119 : decode cX0_trim 119 = .ok (.invokestatic 80, 3) := by decide +kernel
theorem dX0_trim_122 : decode cX0_trim 122 = .ok (.istore 6, 2) := by decide +kernel
theorem dX0_trim_124 : decode cX0_trim 124 = .ok (.iload 8, 2) := by decide +kernel
theorem dX0_trim_126 : decode cX0_trim 126 = .ok (.istore 7, 2) := by decide +kernel
theorem dX0_trim_128 : decode cX0_trim 128 = .ok (.iinc 8 1, 3) := by decide +kernel
theorem dX0_trim_131 : decode cX0_trim 131 = .ok (.goto (-36), 3) := by decide +kernel
theorem dX0_trim_134 : decode cX0_trim 134 = .ok (.aload_n 0, 1) := by decide +kernel
theorem dX0_trim_135 : decode cX0_trim 135 = .ok (.iload_n 2, 1) := by decide +kernel
theorem dX0_trim_136 : decode cX0_trim 136 = .ok (.iload 6, 2) := by decide +kernel
theorem dX0_trim_138 : decode cX0_trim 138 = .ok (.iload_n 3, 1) := by decide +kernel
theorem dX0_trim_139 : decode cX0_trim 139 = .ok (.iload 7, 2) := by decide +kernel
theorem dX0_trim_141 : decode cX0_trim 141 = .ok (.iload 6, 2) := by decide +kernel
theorem dX0_trim_143 : decode cX0_trim 143 = .ok (.isub, 1) := by decide +kernel
theorem dX0_trim_144 : decode cX0_trim 144 = .ok (.iconst 1, 1) := by decide +kernel
theorem dX0_trim_145 : decode cX0_trim 145 = .ok (.iadd, 1) := by decide +kernel
theorem dX0_trim_146 : decode cX0_trim 146 = .ok (.iload 4, 2) := by decide +kernel
theorem dX0_trim_148 : decode cX0_trim 148 = .ok (.iload_n 3, 1) := by decide +kernel
theorem dX0_trim_149 : decode cX0_trim 149 = .ok (.isub, 1) := by decide +kernel
theorem dX0_trim_150 : decode cX0_trim 150 = .ok (.iconst 1, 1) := by decide +kernel
theorem dX0_trim_151 : decode cX0_trim 151 = .ok (.iadd, 1) := by decide +kernel
theorem dX0_trim_152 : decode cX0_trim 152 = .ok (.invokevirtual 48, 3) := by decide +kernel
theorem dX0_trim_155 : decode cX0_trim 155 = .ok (.return_, 1) := by decide +kernel
theorem dX0_setTrim_0 : decode cX0_setTrim 0 = .ok (.aload_n 0, 1) := by decide +kernel
theorem dX0_setTrim_1 : decode cX0_setTrim 1 = .ok (.getfield 9, 3) := by decide +kernel
theorem dX0_setTrim_4 : decode cX0_setTrim 4 = .ok (.iload_n 1, 1) := by decide +kernel
theorem dX0_setTrim_5 : decode cX0_setTrim 5 = .ok (.iload_n 2, 1) := by decide +kernel
theorem dX0_setTrim_6 : decode cX0_setTrim 6 = .ok (.iastore, 1) := by decide +kernel
theorem dX0_setTrim_7 : decode cX0_setTrim 7 = .ok (.aload_n 0, 1) := by decide +kernel
theorem dX0_setTrim_8 : decode cX0_setTrim 8 = .ok (.getfield 15, 3) := by decide +kernel
theorem dX0_setTrim_11 : decode cX0_setTrim 11 = .ok (.iload_n 1, 1) := by decide +kernel
theorem dX0_setTrim_12 : decode cX0_setTrim 12 = .ok (.iload_n 3, 1) := by decide +kernel
theorem dX0_setTrim_13 : decode cX0_setTrim 13 = .ok (.iastore, 1) := by decide +kernel
theorem dX0_setTrim_14 : decode cX0_setTrim 14 = .ok (.aload_n 0, 1) := by decide +kernel
theorem dX0_setTrim_15 : decode cX0_setTrim 15 = .ok (.getfield 18, 3) := by decide +kernel
theorem dX0_setTrim_18 : decode cX0_setTrim 18 = .ok (.iload_n 1, 1) := by decide +kernel
theorem dX0_setTrim_19 : decode cX0_setTrim 19 = .ok (.iload 4, 2) := by decide +kernel
theorem dX0_setTrim_21 : decode cX0_setTrim 21 = .ok (.iastore, 1) := by decide +kernel
theorem dX0_setTrim_22 : decode cX0_setTrim 22 = .ok (.aload_n 0, 1) := by decide +kernel
theorem dX0_setTrim_23 : decode cX0_setTrim 23 = .ok (.getfield 21, 3) := by decide +kernel
theorem dX0_setTrim_26 : decode cX0_setTrim 26 = .ok (.iload_n 1, 1) := by decide +kernel
theorem dX0_setTrim_27 : decode cX0_setTrim 27 = .ok (.iload 5, 2) := by decide +kernel
theorem dX0_setTrim_29 : decode cX0_setTrim 29 = .ok (.iastore, 1) := by decide +kernel
theorem dX0_setTrim_30 : decode cX0_setTrim 30 = .ok (.return_, 1) := by decide +kernel
theorem dX0_findOriginal_0 : decode cX0_findOriginal 0 = .ok (.aload_n 0, 1) := by decide +kernel
theorem dX0_findOriginal_1 : decode cX0_findOriginal 1 = .ok (.getfield 24, 3) := by decide +kernel
theorem dX0_findOriginal_4 : decode cX0_findOriginal 4 = .ok (.iload_n 2, 1) := by decide +kernel
theorem dX0_findOriginal_5 : decode cX0_findOriginal 5 = .ok (.bipush (-4), 2) := by decide +kernel
theorem dX0_findOriginal_7 : decode cX0_findOriginal 7 = .ok (.iastore, 1) := by decide +kernel
theorem dX0_findOriginal_8 : decode cX0_findOriginal 8 = .ok (.aload_n 0, 1) := by decide +kernel
theorem dX0_findOriginal_9 : decode cX0_findOriginal 9 = .ok (.getfield 27, 3) := by decide +kernel
theorem dX0_findOriginal_12 : decode cX0_findOriginal 12 = .ok (.iload_n 2, 1) := by decide +kernel
theorem dX0_findOriginal_13 : decode cX0_findOriginal 13 = .ok (.bipush (-4), 2) := by decide +kernel
theorem dX0_findOriginal_15 : decode cX0_findOriginal 15 = .ok (.iastore, 1) := by decide +kernel
theorem dX0_findOriginal_16 : decode cX0_findOriginal 16 = .ok (.aload_n 0, 1) := by decide +kernel
theorem dX0_findOriginal_17 : decode cX0_findOriginal 17 = .ok (.iload_n 2, 1) := by decide +kernel
theorem dX0_findOriginal_18 : decode cX0_findOriginal 18 = .ok (.invokevirtual 60, 3) := by decide +kernel
theorem dX0_findOriginal_21 : decode cX0_findOriginal 21 = .ok (.ifCond .eq 4, 3) := by decide +kernel
theorem dX0_findOriginal_24 : decode cX0_findOriginal 24 = .ok (.return_, 1) := by decide +kernel
theorem dX0_findOriginal_25 : decode cX0_findOriginal 25 = .ok (.iconst 0, 1) := by decide +kernel
theorem dX0_findOriginal_26 : decode cX0_findOriginal 26 = .ok (.istore 4, 2) := by decide +kernel
theorem dX0_findOriginal_28 : decode cX0_findOriginal 28 = .ok (.iload 4, 2) := by decide +kernel
theorem dX0_findOriginal_30 : decode cX0_findOriginal 30 = .ok (.iload_n 2, 1) := by decide +kernel
theorem dX0_findOriginal_31 : decode cX0_findOriginal 31 = .ok (.if_icmp .ge 63, 3) := by decide +kernel
theorem dX0_findOriginal_34 : decode cX0_findOriginal 34 = .ok (.iconst 0, 1) := by decide +kernel
theorem dX0_findOriginal_35 : decode cX0_findOriginal 35 = .ok (.istore 5, 2) := by decide +kernel
theorem dX0_findOriginal_37 : decode cX0_findOriginal 37 = .ok (.iload 5, 2) := by decide +kernel
theorem dX0_findOriginal_39 : decode cX0_findOriginal 39 = .ok (.iload_n 3, 1) := by decide +kernel
theorem dX0_findOriginal_40 : decode cX0_findOriginal 40 = .ok (.if_icmp .ge 48, 3) := by decide +kernel
theorem dX0_findOriginal_43 : decode cX0_findOriginal 43 = .ok (.aload_n 0, 1) := by decide +kernel
theorem dX0_findOriginal_44 : decode cX0_findOriginal 44 = .ok (.iload 4, 2) := by decide +kernel
theorem dX0_findOriginal_46 : decode cX0_findOriginal 46 = .ok (.invokevirtual 85, 3) := by decide +kernel
theorem dX0_findOriginal_49 : decode cX0_findOriginal 49 = .ok (.ifCond .eq 39, 3) := by decide +kernel
theorem dX0_findOriginal_52 : decode cX0_findOriginal 52 = .ok (.aload_n 0, 1) := by decide +kernel
theorem dX0_findOriginal_53 : decode cX0_findOriginal 53 = .ok (.aload_n 1, 1) := by decide +kernel
theorem dX0_findOriginal_54 : decode cX0_findOriginal 54 = .ok (.iload_n 2, 1) := by decide +kernel
theorem dX0_findOriginal_55 : decode cX0_findOriginal 55 = .ok (.iload 4, 2) := by decide +kernel
theorem dX0_findOriginal_57 : decode cX0_findOriginal 57 = .ok (.iload 5, 2) := by decide +kernel
theorem dX0_findOriginal_59 : decode cX0_findOriginal 59 = .ok (.invokevirtual 68, 3) := by decide +kernel
theorem dX0_findOriginal_62 : decode cX0_findOriginal 62 = .ok (.ifCond .eq 20, 3) := by decide +kernel
theorem dX0_findOriginal_65 : decode cX0_findOriginal 65 = .ok (.aload_n 0, 1) := by decide +kernel
theorem dX0_findOriginal_66 : decode cX0_findOriginal 66 = .ok (.getfield 24, 3) := by decide +kernel
theorem dX0_findOriginal_69 : decode cX0_findOriginal 69 = .ok (.iload_n 2, 1) := by decide +kernel
theorem dX0_findOriginal_70 : decode cX0_findOriginal 70 = .ok (.iload 4, 2) := by decide +kernel
theorem dX0_findOriginal_72 : decode cX0_findOriginal 72 = .ok (.iastore, 1) := by decide +kernel
theorem dX0_findOriginal_73 : decode cX0_findOriginal 73 = .ok (.aload_n 0, 1) := by decide +kernel
theorem dX0_findOriginal_74 : decode cX0_findOriginal 74 = .ok (.getfield 27, 3) := by decide +kernel
theorem dX0_findOriginal_77 : decode cX0_findOriginal 77 = .ok (.iload_n 2, 1) := by decide +kernel
theorem dX0_findOriginal_78 : decode cX0_findOriginal 78 = .ok (.iload 5, 2) := by decide +kernel
theorem dX0_findOriginal_80 : decode cX0_findOriginal 80 = .ok (.iastore, 1) := by decide +kernel
theorem dX0_findOriginal_81 : decode cX0_findOriginal 81 = .ok (.return_, 1) := by decide +kernel
theorem dX0_findOriginal_82 : decode cX0_findOriginal 82 = .ok (.iinc 5 1, 3) := by decide +kernel
theorem dX0_findOriginal_85 : decode cX0_findOriginal 85 = .ok (.goto (-48), 3) := by decide +kernel
theorem dX0_findOriginal_88 : decode cX0_findOriginal 88 = .ok (.iinc 4 1, 3) := by decide +kernel
theorem dX0_findOriginal_91 : decode cX0_findOriginal 91 = .ok (.goto (-63), 3) := by decide +kernel
theorem dX0_findOriginal_94 : decode cX0_findOriginal 94 = .ok (.return_, 1) := by decide +kernel
theorem dX0_matches_0 : decode cX0_matches 0 = .ok (.iload 4, 2) := by decide +kernel
theorem dX0_matches_2 : decode cX0_matches 2 = .ok (.iconst 2, 1) := by decide +kernel
theorem dX0_matches_3 : decode cX0_matches 3 = .ok (.irem, 1) := by decide +kernel
theorem dX0_matches_4 : decode cX0_matches 4 = .ok (.iconst 1, 1) := by decide +kernel
theorem dX0_matches_5 : decode cX0_matches 5 = .ok (.if_icmp .ne 7, 3) := by decide +kernel
theorem dX0_matches_8 : decode cX0_matches 8 = .ok (.iconst 1, 1) := by decide +kernel
theorem dX0_matches_9 : decode cX0_matches 9 = .ok (.goto 4, 3) := by decide +kernel
theorem dX0_matches_12 : decode cX0_matches 12 = .ok (.iconst 0, 1) := by decide +kernel
theorem dX0_matches_13 : decode cX0_matches 13 = .ok (.istore 5, 2) := by decide +kernel
theorem dX0_matches_15 : decode cX0_matches 15 = .ok (.iload 5, 2) := by decide +kernel
theorem dX0_matches_17 : decode cX0_matches 17 = .ok (.ifCond .eq 12, 3) := by decide +kernel
theorem dX0_matches_20 : decode cX0_matches 20 = .ok (.aload_n 0, 1) := by decide +kernel
theorem dX0_matches_21 : decode cX0_matches 21 = .ok (.getfield 21, 3) := by decide +kernel
theorem dX0_matches_24 : decode cX0_matches 24 = .ok (.iload_n 3, 1) := by decide +kernel
theorem dX0_matches_25 : decode cX0_matches 25 = .ok (.iaload, 1) := by decide +kernel
theorem dX0_matches_26 : decode cX0_matches 26 = .ok (.goto 9, 3) := by decide +kernel
theorem dX0_matches_29 : decode cX0_matches 29 = .ok (.aload_n 0, 1) := by decide +kernel
theorem dX0_matches_30 : decode cX0_matches 30 = .ok (.getfield 18, 3) := by decide +kernel
theorem dX0_matches_33 : decode cX0_matches 33 = .ok (.iload_n 3, 1) := by decide +kernel
theorem dX0_matches_34 : decode cX0_matches 34 = .ok (.iaload, 1) := by decide +kernel
theorem dX0_matches_35 : decode cX0_matches 35 = .ok (.istore 6, 2) := by decide +kernel
theorem dX0_matches_37 : decode cX0_matches 37 = .ok (.iload 5, 2) := by decide +kernel
theorem dX0_matches_39 : decode cX0_matches 39 = .ok (.ifCond .eq 12, 3) := by decide +kernel
theorem dX0_matches_42 : decode cX0_matches 42 = .ok (.aload_n 0, 1) := by decide +kernel
theorem dX0_matches_43 : decode cX0_matches 43 = .ok (.getfield 18, 3) := by decide +kernel
theorem dX0_matches_46 : decode cX0_matches 46 = .ok (.iload_n 3, 1) := by decide +kernel
theorem dX0_matches_47 : decode cX0_matches 47 = .ok (.iaload, 1) := by decide +kernel
theorem dX0_matches_48 : decode cX0_matches 48 = .ok (.goto 9, 3) := by decide +kernel
theorem dX0_matches_51 : decode cX0_matches 51 = .ok (.aload_n 0, 1) := by decide +kernel
theorem dX0_matches_52 : decode cX0_matches 52 = .ok (.getfield 21, 3) := by decide +kernel
theorem dX0_matches_55 : decode cX0_matches 55 = .ok (.iload_n 3, 1) := by decide +kernel
theorem dX0_matches_56 : decode cX0_matches 56 = .ok (.iaload, 1) := by decide +kernel
theorem dX0_matches_57 : decode cX0_matches 57 = .ok (.istore 7, 2) := by decide +kernel
theorem dX0_matches_59 : decode cX0_matches 59 = .ok (.aload_n 0, 1) := by decide +kernel
theorem dX0_matches_60 : decode cX0_matches 60 = .ok (.getfield 18, 3) := by decide +kernel
theorem dX0_matches_63 : decode cX0_matches 63 = .ok (.iload_n 2, 1) := by decide +kernel
theorem dX0_matches_64 : decode cX0_matches 64 = .ok (.iaload, 1) := by decide +kernel
theorem dX0_matches_65 : decode cX0_matches 65 = .ok (.iload 6, 2) := by decide +kernel
theorem dX0_matches_67 : decode cX0_matches 67 = .ok (.if_icmp .ne 14, 3) := by decide +kernel
theorem dX0_matches_70 : decode cX0_matches 70 = .ok (.aload_n 0, 1) := by decide +kernel
theorem dX0_matches_71 : decode cX0_matches 71 = .ok (.getfield 21, 3) := by decide +kernel
theorem dX0_matches_74 : decode cX0_matches 74 = .ok (.iload_n 2, 1) := by decide +kernel
theorem dX0_matches_75 : decode cX0_matches 75 = .ok (.iaload, 1) := by decide +kernel
theorem dX0_matches_76 : decode cX0_matches 76 = .ok (.iload 7, 2) := by decide +kernel
theorem dX0_matches_78 : decode cX0_matches 78 = .ok (.if_icmp .eq 5, 3) := by decide +kernel
theorem dX0_matches_81 : decode cX0_matches 81 = .ok (.iconst 0, 1) := by decide +kernel
theorem dX0_matches_82 : decode cX0_matches 82 = .ok (.ireturn, 1) := by decide +kernel
theorem dX0_matches_83 : decode cX0_matches 83 = .ok (.iconst 0, 1) := by decide +kernel
theorem dX0_matches_84 : decode cX0_matches 84 = .ok (.istore 8, 2) := by decide +kernel
theorem dX0_matches_86 : decode cX0_matches 86 = .ok (.iload 8, 2) := by decide +kernel
theorem dX0_matches_88 : decode cX0_matches 88 = .ok (.iload 7, 2) := by decide +kernel
theorem dX0_matches_90 : decode cX0_matches 90 = .ok (.if_icmp .ge 53, 3) := by decide +kernel
theorem dX0_matches_93 : decode cX0_matches 93 = .ok (.iconst 0, 1) := by decide +kernel
theorem dX0_matches_94 : decode cX0_matches 94 = .ok (.istore 9, 2) := by decide +kernel
theorem dX0_matches_96 : decode cX0_matches 96 = .ok (.iload 9, 2) := by decide +kernel
theorem dX0_matches_98 : decode cX0_matches 98 = .ok (.iload 6, 2) := by decide +kernel
theorem dX0_matches_100 : decode cX0_matches 100 = .ok (.if_icmp .ge 37, 3) := by decide +kernel
theorem dX0_matches_103 : decode cX0_matches 103 = .ok (.aload_n 0, 1) := by decide +kernel
theorem dX0_matches_104 : decode cX0_matches 104 = .ok (.aload_n 1, 1) := by decide +kernel
theorem dX0_matches_105 : decode cX0_matches 105 = .ok (.iload_n 2, 1) := by decide +kernel
theorem dX0_matches_106 : decode cX0_matches 106 = .ok (.iconst 0, 1) := by decide +kernel
theorem dX0_matches_107 : decode cX0_matches 107 = .ok (.iload 9, 2) := by decide +kernel
theorem dX0_matches_109 : decode cX0_matches 109 = .ok (.iload 8, 2) := by decide +kernel
theorem dX0_matches_111 : decode cX0_matches 111 = .ok (.invokevirtual 88, 3) := by decide +kernel
theorem dX0_matches_114 : decode cX0_matches 114 = .ok (.aload_n 0, 1) := by decide +kernel
theorem dX0_matches_115 : decode cX0_matches 115 = .ok (.aload_n 1, 1) := by decide +kernel
theorem dX0_matches_116 : decode cX0_matches 116 = .ok (.iload_n 3, 1) := by decide +kernel
theorem dX0_matches_117 : decode cX0_matches 117 = .ok (.iload 4, 2) := by decide +kernel
theorem dX0_matches_119 : decode cX0_matches 119 = .ok (.iload 9, 2) := by decide +kernel
theorem dX0_matches_121 : decode cX0_matches 121 = .ok (.iload 8, 2) := by decide +kernel
theorem dX0_matches_123 : decode cX0_matches 123 = .ok (.invokevirtual 88, 3) := by decide +kernel
theorem dX0_matches_126 : decode cX0_matches 126 = .ok (.if_icmp .eq 5, 3) := by decide +kernel
theorem dX0_matches_129 : decode cX0_matches 129 = .ok (.iconst 0, 1) := by decide +kernel
theorem dX0_matches_130 : decode cX0_matches 130 = .ok (.ireturn, 1) := by decide +kernel
theorem dX0_matches_131 : decode cX0_matches 131 = .ok (.iinc 9 1, 3) := by decide +kernel
theorem dX0_matches_134 : decode cX0_matches 134 = .ok (.goto (-38), 3) := by decide +kernel
theorem dX0_matches_137 : decode cX0_matches 137 = .ok (.iinc 8 1, 3) := by decide +kernel
theorem dX0_matches_140 : decode cX0_matches 140 = .ok (.goto (-54), 3) := by decide +kernel
theorem dX0_matches_143 : decode cX0_matches 143 = .ok (.iconst 1, 1) := by decide +kernel
theorem dX0_matches_144 : decode cX0_matches 144 = .ok (.ireturn, 1) := by decide +kernel
theorem dX0_afterTurn_0 : decode cX0_afterTurn 0 = .ok (.iload_n 0, 1) := by decide +kernel
theorem dX0_afterTurn_1 : decode cX0_afterTurn 1 = .ok (.iconst 4, 1) := by decide +kernel
theorem dX0_afterTurn_2 : decode cX0_afterTurn 2 = .ok (.if_icmp .ge 11, 3) := by decide +kernel
theorem dX0_afterTurn_5 : decode cX0_afterTurn 5 = .ok (.iload_n 0, 1) := by decide +kernel
theorem dX0_afterTurn_6 : decode cX0_afterTurn 6 = .ok (.iconst 1, 1) := by decide +kernel
theorem dX0_afterTurn_7 : decode cX0_afterTurn 7 = .ok (.iadd, 1) := by decide +kernel
theorem dX0_afterTurn_8 : decode cX0_afterTurn 8 = .ok (.iconst 4, 1) := by decide +kernel
theorem dX0_afterTurn_9 : decode cX0_afterTurn 9 = .ok (.irem, 1) := by decide +kernel
theorem dX0_afterTurn_10 : decode cX0_afterTurn 10 = .ok (.goto 10, 3) := by decide +kernel
theorem dX0_afterTurn_13 : decode cX0_afterTurn 13 = .ok (.iconst 4, 1) := by decide +kernel
theorem dX0_afterTurn_14 : decode cX0_afterTurn 14 = .ok (.iload_n 0, 1) := by decide +kernel
theorem dX0_afterTurn_15 : decode cX0_afterTurn 15 = .ok (.iconst 3, 1) := by decide +kernel
theorem dX0_afterTurn_16 : decode cX0_afterTurn 16 = .ok (.iadd, 1) := by decide +kernel
theorem dX0_afterTurn_17 : decode cX0_afterTurn 17 = .ok (.iconst 4, 1) := by decide +kernel
theorem dX0_afterTurn_18 : decode cX0_afterTurn 18 = .ok (.irem, 1) := by decide +kernel
theorem dX0_afterTurn_19 : decode cX0_afterTurn 19 = .ok (.iadd, 1) := by decide +kernel
theorem dX0_afterTurn_20 : decode cX0_afterTurn 20 = .ok (.ireturn, 1) := by decide +kernel
theorem dX1_init_0 : decode cX1_init 0 = .ok (.aload_n 0, 1) := by decide +kernel
theorem dX1_init_1 : decode cX1_init 1 = .ok (.invokespecial 1, 3) := by decide +kernel
theorem dX1_init_4 : decode cX1_init 4 = .ok (.return_, 1) := by decide +kernel
theorem dX1_startOn_0 : decode cX1_startOn 0 = .ok (.aload_n 0, 1) := by decide +kernel
theorem dX1_startOn_1 : decode cX1_startOn 1 = .ok (.iconst 0, 1) := by decide +kernel
theorem dX1_startOn_2 : decode cX1_startOn 2 = .ok (.putfield 7, 3) := by decide +kernel
theorem dX1_startOn_5 : decode cX1_startOn 5 = .ok (.aload_n 0, 1) := by decide +kernel
theorem dX1_startOn_6 : decode cX1_startOn 6 = .ok (.iload_n 1, 1) := by decide +kernel
theorem dX1_startOn_7 : decode cX1_startOn 7 = .ok (.putfield 13, 3) := by decide +kernel
theorem dX1_startOn_10 : decode cX1_startOn 10 = .ok (.return_, 1) := by decide +kernel
theorem dX1_offer_0 : decode cX1_offer 0 = .ok (.iload_n 3, 1) := by decide +kernel
theorem dX1_offer_1 : decode cX1_offer 1 = .ok (.aload_n 0, 1) := by decide +kernel
theorem dX1_offer_2 : decode cX1_offer 2 = .ok (.getfield 17, 3) := by decide +kernel
theorem dX1_offer_5 : decode cX1_offer 5 = .ok (.if_icmp .lt 20, 3) := by decide +kernel
theorem dX1_offer_8 : decode cX1_offer 8 = .ok (.iload_n 3, 1) := by decide +kernel
theorem dX1_offer_9 : decode cX1_offer 9 = .ok (.aload_n 0, 1) := by decide +kernel
theorem dX1_offer_10 : decode cX1_offer 10 = .ok (.getfield 17, 3) := by decide +kernel
theorem dX1_offer_13 : decode cX1_offer 13 = .ok (.if_icmp .ne 16, 3) := by decide +kernel
theorem dX1_offer_16 : decode cX1_offer 16 = .ok (.iload 4, 2) := by decide +kernel
theorem dX1_offer_18 : decode cX1_offer 18 = .ok (.aload_n 0, 1) := by decide +kernel
theorem dX1_offer_19 : decode cX1_offer 19 = .ok (.getfield 20, 3) := by decide +kernel
theorem dX1_offer_22 : decode cX1_offer 22 = .ok (.if_icmp .ge 7, 3) := by decide +kernel
theorem dX1_offer_25 : decode cX1_offer 25 = .ok (.iconst 1, 1) := by decide +kernel
theorem dX1_offer_26 : decode cX1_offer 26 = .ok (.goto 4, 3) := by decide +kernel
theorem dX1_offer_29 : decode cX1_offer 29 = .ok (.iconst 0, 1) := by decide +kernel
theorem dX1_offer_30 : decode cX1_offer 30 = .ok (.istore 5, 2) := by decide +kernel
theorem dX1_offer_32 : decode cX1_offer 32 = .ok (.aload_n 0, 1) := by decide +kernel
theorem dX1_offer_33 : decode cX1_offer 33 = .ok (.getfield 7, 3) := by decide +kernel
theorem dX1_offer_36 : decode cX1_offer 36 = .ok (.ifCond .eq 9, 3) := by decide +kernel
theorem dX1_offer_39 : decode cX1_offer 39 = .ok (.iload 5, 2) := by decide +kernel
theorem dX1_offer_41 : decode cX1_offer 41 = .ok (.ifCond .ne 4, 3) := by decide +kernel
theorem dX1_offer_44 : decode cX1_offer 44 = .ok (.return_, 1) := by decide +kernel
theorem dX1_offer_45 : decode cX1_offer 45 = .ok (.aload_n 0, 1) := by decide +kernel
theorem dX1_offer_46 : decode cX1_offer 46 = .ok (.iconst 1, 1) := by decide +kernel
theorem dX1_offer_47 : decode cX1_offer 47 = .ok (.putfield 7, 3) := by decide +kernel
theorem dX1_offer_50 : decode cX1_offer 50 = .ok (.aload_n 0, 1) := by decide +kernel
theorem dX1_offer_51 : decode cX1_offer 51 = .ok (.iload_n 1, 1) := by decide +kernel
theorem dX1_offer_52 : decode cX1_offer 52 = .ok (.invokestatic 23, 3) := by decide +kernel
theorem dX1_offer_55 : decode cX1_offer 55 = .ok (.putfield 29, 3) := by decide +kernel
theorem dX1_offer_58 : decode cX1_offer 58 = .ok (.aload_n 0, 1) := by decide +kernel
theorem dX1_offer_59 : decode cX1_offer 59 = .ok (.iload_n 1, 1) := by decide +kernel
theorem dX1_offer_60 : decode cX1_offer 60 = .ok (.invokestatic 32, 3) := by decide +kernel
theorem dX1_offer_63 : decode cX1_offer 63 = .ok (.putfield 35, 3) := by decide +kernel
theorem dX1_offer_66 : decode cX1_offer 66 = .ok (.aload_n 0, 1) := by decide +kernel
theorem dX1_offer_67 : decode cX1_offer 67 = .ok (.iload_n 2, 1) := by decide +kernel
theorem dX1_offer_68 : decode cX1_offer 68 = .ok (.putfield 38, 3) := by decide +kernel
theorem dX1_offer_71 : decode cX1_offer 71 = .ok (.aload_n 0, 1) := by decide +kernel
theorem dX1_offer_72 : decode cX1_offer 72 = .ok (.iload_n 3, 1) := by decide +kernel
theorem dX1_offer_73 : decode cX1_offer 73 = .ok (.putfield 17, 3) := by decide +kernel
theorem dX1_offer_76 : decode cX1_offer 76 = .ok (.aload_n 0, 1) := by decide +kernel
theorem dX1_offer_77 : decode cX1_offer 77 = .ok (.iload 4, 2) := by decide +kernel
theorem dX1_offer_79 : decode cX1_offer 79 = .ok (.putfield 20, 3) := by decide +kernel
theorem dX1_offer_82 : decode cX1_offer 82 = .ok (.return_, 1) := by decide +kernel
theorem dX2_init_0 : decode cX2_init 0 = .ok (.aload_n 0, 1) := by decide +kernel
theorem dX2_init_1 : decode cX2_init 1 = .ok (.invokespecial 3, 3) := by decide +kernel
theorem dX2_init_4 : decode cX2_init 4 = .ok (.aload_n 0, 1) := by decide +kernel
theorem dX2_init_5 : decode cX2_init 5 = .ok (.iconst 5, 1) := by decide +kernel
theorem dX2_init_6 : decode cX2_init 6 = .ok (.anewarray 9, 3) := by decide +kernel
theorem dX2_init_9 : decode cX2_init 9 = .ok (.putfield 11, 3) := by decide +kernel
theorem dX2_init_12 : decode cX2_init 12 = .ok (.iconst 0, 1) := by decide +kernel
theorem dX2_init_13 : decode cX2_init 13 = .ok (.istore_n 1, 1) := by decide +kernel
theorem dX2_init_14 : decode cX2_init 14 = .ok (.iload_n 1, 1) := by decide +kernel
theorem dX2_init_15 : decode cX2_init 15 = .ok (.iconst 5, 1) := by decide +kernel
theorem dX2_init_16 : decode cX2_init 16 = .ok (.if_icmp .ge 22, 3) := by decide +kernel
theorem dX2_init_19 : decode cX2_init 19 = .ok (.aload_n 0, 1) := by decide +kernel
theorem dX2_init_20 : decode cX2_init 20 = .ok (.getfield 11, 3) := by decide +kernel
theorem dX2_init_23 : decode cX2_init 23 = .ok (.iload_n 1, 1) := by decide +kernel
theorem dX2_init_24 : decode cX2_init 24 = .ok (.new 9, 3) := by decide +kernel
theorem dX2_init_27 : decode cX2_init 27 = .ok (.dup, 1) := by decide +kernel
theorem dX2_init_28 : decode cX2_init 28 = .ok (.invokespecial 17, 3) := by decide +kernel
theorem dX2_init_31 : decode cX2_init 31 = .ok (.aastore, 1) := by decide +kernel
theorem dX2_init_32 : decode cX2_init 32 = .ok (.iinc 1 1, 3) := by decide +kernel
theorem dX2_init_35 : decode cX2_init 35 = .ok (.goto (-21), 3) := by decide +kernel
theorem dX2_init_38 : decode cX2_init 38 = .ok (.return_, 1) := by decide +kernel
theorem dX2_record_0 : decode cX2_record 0 = .ok (.aload_n 0, 1) := by decide +kernel
theorem dX2_record_1 : decode cX2_record 1 = .ok (.aload_n 0, 1) := by decide +kernel
theorem dX2_record_2 : decode cX2_record 2 = .ok (.getfield 18, 3) := by decide +kernel
theorem dX2_record_5 : decode cX2_record 5 = .ok (.iconst 1, 1) := by decide +kernel
theorem dX2_record_6 : decode cX2_record 6 = .ok (.iadd, 1) := by decide +kernel
theorem dX2_record_7 : decode cX2_record 7 = .ok (.iconst 5, 1) := by decide +kernel
theorem dX2_record_8 : decode cX2_record 8 = .ok (.irem, 1) := by decide +kernel
theorem dX2_record_9 : decode cX2_record 9 = .ok (.putfield 18, 3) := by decide +kernel
theorem dX2_record_12 : decode cX2_record 12 = .ok (.aload_n 0, 1) := by decide +kernel
theorem dX2_record_13 : decode cX2_record 13 = .ok (.getfield 11, 3) := by decide +kernel
theorem dX2_record_16 : decode cX2_record 16 = .ok (.aload_n 0, 1) := by decide +kernel
theorem dX2_record_17 : decode cX2_record 17 = .ok (.getfield 18, 3) := by decide +kernel
theorem dX2_record_20 : decode cX2_record 20 = .ok (.aaload, 1) := by decide +kernel
theorem dX2_record_21 : decode cX2_record 21 = .ok (.astore_n 2, 1) := by decide +kernel
theorem dX2_record_22 : decode cX2_record 22 = .ok (.aload_n 2, 1) := by decide +kernel
theorem dX2_record_23 : decode cX2_record 23 = .ok (.ifnull 8, 3) := by decide +kernel
theorem dX2_record_26 : decode cX2_record 26 = .ok (.aload_n 2, 1) := by decide +kernel
theorem dX2_record_27 : decode cX2_record 27 = .ok (.aload_n 1, 1) := by decide +kernel
theorem dX2_record_28 : decode cX2_record 28 = .ok (.invokevirtual 22, 3) := by decide +kernel
theorem dX2_record_31 : decode cX2_record 31 = .ok (.aload_n 0, 1) := by decide +kernel
theorem dX2_record_32 : decode cX2_record 32 = .ok (.aload_n 0, 1) := by decide +kernel
theorem dX2_record_33 : decode cX2_record 33 = .ok (.getfield 26, 3) := by decide +kernel
theorem dX2_record_36 : decode cX2_record 36 = .ok (.iconst 1, 1) := by decide +kernel
theorem dX2_record_37 : decode cX2_record 37 = .ok (.iadd, 1) := by decide +kernel
theorem dX2_record_38 : decode cX2_record 38 = .ok (.iconst 5, 1) := by decide +kernel
theorem dX2_record_39 : decode cX2_record 39 = .ok (.invokestatic 29, 3) := by decide +kernel
theorem dX2_record_42 : decode cX2_record 42 = .ok (.putfield 26, 3) := by decide +kernel
theorem dX2_record_45 : decode cX2_record 45 = .ok (.return_, 1) := by decide +kernel
theorem dX2_takeBack_0 : decode cX2_takeBack 0 = .ok (.aload_n 0, 1) := by decide +kernel
theorem dX2_takeBack_1 : decode cX2_takeBack 1 = .ok (.getfield 11, 3) := by decide +kernel
theorem dX2_takeBack_4 : decode cX2_takeBack 4 = .ok (.aload_n 0, 1) := by decide +kernel
theorem dX2_takeBack_5 : decode cX2_takeBack 5 = .ok (.getfield 18, 3) := by decide +kernel
theorem dX2_takeBack_8 : decode cX2_takeBack 8 = .ok (.aaload, 1) := by decide +kernel
theorem dX2_takeBack_9 : decode cX2_takeBack 9 = .ok (.astore_n 2, 1) := by decide +kernel
theorem dX2_takeBack_10 : decode cX2_takeBack 10 = .ok (.aload_n 0, 1) := by decide +kernel
theorem dX2_takeBack_11 : decode cX2_takeBack 11 = .ok (.getfield 26, 3) := by decide +kernel
theorem dX2_takeBack_14 : decode cX2_takeBack 14 = .ok (.ifCond .le 36, 3) := by decide +kernel
theorem dX2_takeBack_17 : decode cX2_takeBack 17 = .ok (.aload_n 2, 1) := by decide +kernel
theorem dX2_takeBack_18 : decode cX2_takeBack 18 = .ok (.ifnull 32, 3) := by decide +kernel
theorem dX2_takeBack_21 : decode cX2_takeBack 21 = .ok (.aload_n 1, 1) := by decide +kernel
theorem dX2_takeBack_22 : decode cX2_takeBack 22 = .ok (.aload_n 2, 1) := by decide +kernel
theorem dX2_takeBack_23 : decode cX2_takeBack 23 = .ok (.invokevirtual 22, 3) := by decide +kernel
theorem dX2_takeBack_26 : decode cX2_takeBack 26 = .ok (.aload_n 0, 1) := by decide +kernel
theorem dX2_takeBack_27 : decode cX2_takeBack 27 = .ok (.dup, 1) := by decide +kernel
theorem dX2_takeBack_28 : decode cX2_takeBack 28 = .ok (.getfield 26, 3) := by decide +kernel
theorem dX2_takeBack_31 : decode cX2_takeBack 31 = .ok (.iconst 1, 1) := by decide +kernel
theorem dX2_takeBack_32 : decode cX2_takeBack 32 = .ok (.isub, 1) := by decide +kernel
theorem dX2_takeBack_33 : decode cX2_takeBack 33 = .ok (.putfield 26, 3) := by decide +kernel
theorem dX2_takeBack_36 : decode cX2_takeBack 36 = .ok (.aload_n 0, 1) := by decide +kernel
theorem dX2_takeBack_37 : decode cX2_takeBack 37 = .ok (.aload_n 0, 1) := by decide +kernel
theorem dX2_takeBack_38 : decode cX2_takeBack 38 = .ok (.getfield 18, 3) := by decide +kernel
theorem dX2_takeBack_41 : decode cX2_takeBack 41 = .ok (.iconst 5, 1) := by decide +kernel
theorem dX2_takeBack_42 : decode cX2_takeBack 42 = .ok (.iadd, 1) := by decide +kernel
theorem dX2_takeBack_43 : decode cX2_takeBack 43 = .ok (.iconst 1, 1) := by decide +kernel
theorem dX2_takeBack_44 : decode cX2_takeBack 44 = .ok (.isub, 1) := by decide +kernel
theorem dX2_takeBack_45 : decode cX2_takeBack 45 = .ok (.iconst 5, 1) := by decide +kernel
theorem dX2_takeBack_46 : decode cX2_takeBack 46 = .ok (.irem, 1) := by decide +kernel
theorem dX2_takeBack_47 : decode cX2_takeBack 47 = .ok (.putfield 18, 3) := by decide +kernel
theorem dX2_takeBack_50 : decode cX2_takeBack 50 = .ok (.return_, 1) := by decide +kernel
theorem dX3_init_0 : decode cX3_init 0 = .ok (.aload_n 0, 1) := by decide +kernel
theorem dX3_init_1 : decode cX3_init 1 = .ok (.invokespecial 3, 3) := by decide +kernel
theorem dX3_init_4 : decode cX3_init 4 = .ok (.aload_n 0, 1) := by decide +kernel
theorem dX3_init_5 : decode cX3_init 5 = .ok (.new 9, 3) := by decide +kernel
theorem dX3_init_8 : decode cX3_init 8 = .ok (.dup, 1) := by decide +kernel
theorem dX3_init_9 : decode cX3_init 9 = .ok (.invokespecial 11, 3) := by decide +kernel
theorem dX3_init_12 : decode cX3_init 12 = .ok (.putfield 12, 3) := by decide +kernel
theorem dX3_init_15 : decode cX3_init 15 = .ok (.aload_n 0, 1) := by decide +kernel
theorem dX3_init_16 : decode cX3_init 16 = .ok (.new 18, 3) := by decide +kernel
theorem dX3_init_19 : decode cX3_init 19 = .ok (.dup, 1) := by decide +kernel
theorem dX3_init_20 : decode cX3_init 20 = .ok (.invokespecial 20, 3) := by decide +kernel
theorem dX3_init_23 : decode cX3_init 23 = .ok (.putfield 21, 3) := by decide +kernel
theorem dX3_init_26 : decode cX3_init 26 = .ok (.aload_n 0, 1) := by decide +kernel
theorem dX3_init_27 : decode cX3_init 27 = .ok (.bipush 24, 2) := by decide +kernel
theorem dX3_init_29 : decode cX3_init 29 = .ok (.newarray .int, 2) := by decide +kernel
theorem dX3_init_31 : decode cX3_init 31 = .ok (.putfield 25, 3) := by decide +kernel
theorem dX3_init_34 : decode cX3_init 34 = .ok (.aload_n 0, 1) := by decide +kernel
theorem dX3_init_35 : decode cX3_init 35 = .ok (.aload_n 1, 1) := by decide +kernel
theorem dX3_init_36 : decode cX3_init 36 = .ok (.putfield 29, 3) := by decide +kernel
theorem dX3_init_39 : decode cX3_init 39 = .ok (.aload_n 0, 1) := by decide +kernel
theorem dX3_init_40 : decode cX3_init 40 = .ok (.aload_n 2, 1) := by decide +kernel
theorem dX3_init_41 : decode cX3_init 41 = .ok (.putfield 33, 3) := by decide +kernel
theorem dX3_init_44 : decode cX3_init 44 = .ok (.return_, 1) := by decide +kernel
theorem dX3_placeAll_0 : decode cX3_placeAll 0 = .ok (.aload_n 0, 1) := by decide +kernel
theorem dX3_placeAll_1 : decode cX3_placeAll 1 = .ok (.getfield 29, 3) := by decide +kernel
theorem dX3_placeAll_4 : decode cX3_placeAll 4 = .ok (.getfield 37, 3) := by decide +kernel
theorem dX3_placeAll_7 : decode cX3_placeAll 7 = .ok (.invokevirtual 43, 3) := by decide +kernel
theorem dX3_placeAll_10 : decode cX3_placeAll 10 = .ok (.aload_n 0, 1) := by decide +kernel
theorem dX3_placeAll_11 : decode cX3_placeAll 11 = .ok (.invokevirtual 48, 3) := by decide +kernel
theorem dX3_placeAll_14 : decode cX3_placeAll 14 = .ok (.istore_n 1, 1) := by decide +kernel
theorem dX3_placeAll_15 : decode cX3_placeAll 15 = .ok (.iconst 0, 1) := by decide +kernel
theorem dX3_placeAll_16 : decode cX3_placeAll 16 = .ok (.istore_n 2, 1) := by decide +kernel
theorem dX3_placeAll_17 : decode cX3_placeAll 17 = .ok (.iconst 0, 1) := by decide +kernel
theorem dX3_placeAll_18 : decode cX3_placeAll 18 = .ok (.istore_n 3, 1) := by decide +kernel
theorem dX3_placeAll_19 : decode cX3_placeAll 19 = .ok (.iload_n 3, 1) := by decide +kernel
theorem dX3_placeAll_20 : decode cX3_placeAll 20 = .ok (.iload_n 1, 1) := by decide +kernel
theorem dX3_placeAll_21 : decode cX3_placeAll 21 = .ok (.if_icmp .ge 38, 3) := by decide +kernel
theorem dX3_placeAll_24 : decode cX3_placeAll 24 = .ok (.aload_n 0, 1) := by decide +kernel
theorem dX3_placeAll_25 : decode cX3_placeAll 25 = .ok (.aload_n 0, 1) := by decide +kernel
theorem dX3_placeAll_26 : decode cX3_placeAll 26 = .ok (.getfield 25, 3) := by decide +kernel
theorem dX3_placeAll_29 : decode cX3_placeAll 29 = .ok (.iload_n 3, 1) := by decide +kernel
theorem dX3_placeAll_30 : decode cX3_placeAll 30 = .ok (.iaload, 1) := by decide +kernel
theorem dX3_placeAll_31 : decode cX3_placeAll 31 = .ok (.invokevirtual 52, 3) := by decide +kernel
theorem dX3_placeAll_34 : decode cX3_placeAll 34 = .ok (.ifCond .eq 16, 3) := by decide +kernel
theorem dX3_placeAll_37 : decode cX3_placeAll 37 = .ok (.aload_n 0, 1) := by decide +kernel
theorem dX3_placeAll_38 : decode cX3_placeAll 38 = .ok (.aload_n 0, 1) := by decide +kernel
theorem dX3_placeAll_39 : decode cX3_placeAll 39 = .ok (.getfield 25, 3) := by decide +kernel
theorem dX3_placeAll_42 : decode cX3_placeAll 42 = .ok (.iload_n 3, 1) := by decide +kernel
theorem dX3_placeAll_43 : decode cX3_placeAll 43 = .ok (.iaload, 1) := by decide +kernel
theorem dX3_placeAll_44 : decode cX3_placeAll 44 = .ok (.invokevirtual 56, 3) := by decide +kernel
theorem dX3_placeAll_47 : decode cX3_placeAll 47 = .ok (.goto 6, 3) := by decide +kernel
theorem dX3_placeAll_50 : decode cX3_placeAll 50 = .ok (.iinc 2 1, 3) := by decide +kernel
theorem dX3_placeAll_53 : decode cX3_placeAll 53 = .ok (.iinc 3 1, 3) := by decide +kernel
theorem dX3_placeAll_56 : decode cX3_placeAll 56 = .ok (.goto (-37), 3) := by decide +kernel
theorem dX3_placeAll_59 : decode cX3_placeAll 59 = .ok (.iload_n 2, 1) := by decide +kernel
theorem dX3_placeAll_60 : decode cX3_placeAll 60 = .ok (.ireturn, 1) := by decide +kernel
theorem dX3_choose_0 : decode cX3_choose 0 = .ok (.iconst 0, 1) := by decide +kernel
theorem dX3_choose_1 : decode cX3_choose 1 = .ok (.istore_n 2, 1) := by decide +kernel
theorem dX3_choose_2 : decode cX3_choose 2 = .ok (.iload_n 2, 1) := by decide +kernel
theorem dX3_choose_3 : decode cX3_choose 3 = .ok (.aload_n 0, 1) := by decide +kernel
theorem dX3_choose_4 : decode cX3_choose 4 = .ok (.getfield 29, 3) := by decide +kernel
theorem dX3_choose_7 : decode cX3_choose 7 = .ok (.getfield 37, 3) := by decide +kernel
theorem dX3_choose_10 : decode cX3_choose 10 = .ok (.getfield 60, 3) := by decide +kernel
theorem dX3_choose_13 : decode cX3_choose 13 = .ok (.if_icmp .ge 29, 3) := by decide +kernel
theorem dX3_choose_16 : decode cX3_choose 16 = .ok (.aload_n 0, 1) := by decide +kernel
theorem dX3_choose_17 : decode cX3_choose 17 = .ok (.iload_n 2, 1) := by decide +kernel
theorem dX3_choose_18 : decode cX3_choose 18 = .ok (.iload_n 1, 1) := by decide +kernel
theorem dX3_choose_19 : decode cX3_choose 19 = .ok (.invokevirtual 64, 3) := by decide +kernel
theorem dX3_choose_22 : decode cX3_choose 22 = .ok (.ifCond .eq 14, 3) := by decide +kernel
theorem dX3_choose_25 : decode cX3_choose 25 = .ok (.aload_n 0, 1) := by decide +kernel
theorem dX3_choose_26 : decode cX3_choose 26 = .ok (.iload_n 2, 1) := by decide +kernel
theorem dX3_choose_27 : decode cX3_choose 27 = .ok (.iload_n 1, 1) := by decide +kernel
theorem dX3_choose_28 : decode cX3_choose 28 = .ok (.invokevirtual 68, 3) := by decide +kernel
theorem dX3_choose_31 : decode cX3_choose 31 = .ok (.ifCond .eq 5, 3) := by decide +kernel
theorem dX3_choose_34 : decode cX3_choose 34 = .ok (.iconst 1, 1) := by decide +kernel
theorem dX3_choose_35 : decode cX3_choose 35 = .ok (.ireturn, 1) := by decide +kernel
theorem dX3_choose_36 : decode cX3_choose 36 = .ok (.iinc 2 1, 3) := by decide +kernel
theorem dX3_choose_39 : decode cX3_choose 39 = .ok (.goto (-37), 3) := by decide +kernel
theorem dX3_choose_42 : decode cX3_choose 42 = .ok (.aload_n 0, 1) := by decide +kernel
theorem dX3_choose_43 : decode cX3_choose 43 = .ok (.getfield 29, 3) := by decide +kernel
theorem dX3_choose_46 : decode cX3_choose 46 = .ok (.getfield 37, 3) := by decide +kernel
theorem dX3_choose_49 : decode cX3_choose 49 = .ok (.getfield 60, 3) := by decide +kernel
theorem dX3_choose_52 : decode cX3_choose 52 = .ok (.aload_n 0, 1) := by decide +kernel
theorem dX3_choose_53 : decode cX3_choose 53 = .ok (.getfield 29, 3) := by decide +kernel
theorem dX3_choose_56 : decode cX3_choose 56 = .ok (.getfield 71, 3) := by decide +kernel
theorem dX3_choose_59 : decode cX3_choose 59 = .ok (.getfield 75, 3) := by decide +kernel
theorem dX3_choose_62 : decode cX3_choose 62 = .ok (.if_icmp .ge 15, 3) := by decide +kernel
theorem dX3_choose_65 : decode cX3_choose 65 = .ok (.aload_n 0, 1) := by decide +kernel
theorem dX3_choose_66 : decode cX3_choose 66 = .ok (.iload_n 1, 1) := by decide +kernel
theorem dX3_choose_67 : decode cX3_choose 67 = .ok (.invokevirtual 80, 3) := by decide +kernel
theorem dX3_choose_70 : decode cX3_choose 70 = .ok (.ifCond .eq 7, 3) := by decide +kernel
theorem dX3_choose_73 : decode cX3_choose 73 = .ok (.iconst 1, 1) := by decide +kernel
theorem dX3_choose_74 : decode cX3_choose 74 = .ok (.goto 4, 3) := by decide +kernel
theorem dX3_choose_77 : decode cX3_choose 77 = .ok (.iconst 0, 1) := by decide +kernel
theorem dX3_choose_78 : decode cX3_choose 78 = .ok (.ireturn, 1) := by decide +kernel
theorem dX3_putAsChosen_0 : decode cX3_putAsChosen 0 = .ok (.aload_n 0, 1) := by decide +kernel
theorem dX3_putAsChosen_1 : decode cX3_putAsChosen 1 = .ok (.getfield 29, 3) := by decide +kernel
theorem dX3_putAsChosen_4 : decode cX3_putAsChosen 4 = .ok (.getfield 37, 3) := by decide +kernel
theorem dX3_putAsChosen_7 : decode cX3_putAsChosen 7 = .ok (.astore_n 2, 1) := by decide +kernel
theorem dX3_putAsChosen_8 : decode cX3_putAsChosen 8 = .ok (.aload_n 0, 1) := by decide +kernel
theorem dX3_putAsChosen_9 : decode cX3_putAsChosen 9 = .ok (.getfield 21, 3) := by decide +kernel
theorem dX3_putAsChosen_12 : decode cX3_putAsChosen 12 = .ok (.getfield 83, 3) := by decide +kernel
theorem dX3_putAsChosen_15 : decode cX3_putAsChosen 15 = .ok (.istore_n 3, 1) := by decide +kernel
theorem dX3_putAsChosen_16 : decode cX3_putAsChosen 16 = .ok (.aload_n 2, 1) := by decide +kernel
theorem dX3_putAsChosen_17 : decode cX3_putAsChosen 17 = .ok (.iload_n 3, 1) := by decide +kernel
theorem dX3_putAsChosen_18 : decode cX3_putAsChosen 18 = .ok (.invokevirtual 86, 3) := by decide +kernel
theorem dX3_putAsChosen_21 : decode cX3_putAsChosen 21 = .ok (.ifCond .eq 21, 3) := by decide +kernel
theorem dX3_putAsChosen_24 : decode cX3_putAsChosen 24 = .ok (.aload_n 2, 1) := by decide +kernel
theorem dX3_putAsChosen_25 : decode cX3_putAsChosen 25 = .ok (.getfield 89, 3) := by decide +kernel
theorem dX3_putAsChosen_28 : decode cX3_putAsChosen 28 = .ok (.iload_n 3, 1) := by decide +kernel
theorem dX3_putAsChosen_29 : decode cX3_putAsChosen 29 = .ok (.aload_n 0, 1) := by decide +kernel
theorem dX3_putAsChosen_30 : decode cX3_putAsChosen 30 = .ok (.getfield 29, 3) := by decide +kernel
theorem dX3_putAsChosen_33 : decode cX3_putAsChosen 33 = .ok (.getfield 92, 3) := by decide +kernel
theorem dX3_putAsChosen_36 : decode cX3_putAsChosen 36 = .ok (.getfield 96, 3) := by decide +kernel
theorem dX3_putAsChosen_39 : decode cX3_putAsChosen 39 = .ok (.iload_n 1, 1) := by decide +kernel
theorem dX3_putAsChosen_40 : decode cX3_putAsChosen 40 = .ok (.iaload, 1) := by decide +kernel
theorem dX3_putAsChosen_41 : decode cX3_putAsChosen 41 = .ok (.iastore, 1) := by decide +kernel
theorem dX3_putAsChosen_42 : decode cX3_putAsChosen 42 = .ok (.aload_n 2, 1) := by decide +kernel
theorem dX3_putAsChosen_43 : decode cX3_putAsChosen 43 = .ok (.aload_n 2, 1) := by decide +kernel
theorem dX3_putAsChosen_44 : decode cX3_putAsChosen 44 = .ok (.getfield 60, 3) := by decide +kernel
theorem dX3_putAsChosen_47 : decode cX3_putAsChosen 47 = .ok (.iload_n 3, 1) := by decide +kernel
theorem dX3_putAsChosen_48 : decode cX3_putAsChosen 48 = .ok (.iconst 1, 1) := by decide +kernel
theorem dX3_putAsChosen_49 : decode cX3_putAsChosen 49 = .ok (.iadd, 1) := by decide +kernel
theorem dX3_putAsChosen_50 : decode cX3_putAsChosen 50 = .ok (.invokestatic 101, 3) := by decide +kernel
theorem dX3_putAsChosen_53 : decode cX3_putAsChosen 53 = .ok (.putfield 60, 3) := by decide +kernel
theorem dX3_putAsChosen_56 : decode cX3_putAsChosen 56 = .ok (.aload_n 2, 1) := by decide +kernel
theorem dX3_putAsChosen_57 : decode cX3_putAsChosen 57 = .ok (.getfield 107, 3) := by decide +kernel
theorem dX3_putAsChosen_60 : decode cX3_putAsChosen 60 = .ok (.iload_n 1, 1) := by decide +kernel
theorem dX3_putAsChosen_61 : decode cX3_putAsChosen 61 = .ok (.iload_n 3, 1) := by decide +kernel
theorem dX3_putAsChosen_62 : decode cX3_putAsChosen 62 = .ok (.iastore, 1) := by decide +kernel
theorem dX3_putAsChosen_63 : decode cX3_putAsChosen 63 = .ok (.aload_n 2, 1) := by decide +kernel
theorem dX3_putAsChosen_64 : decode cX3_putAsChosen 64 = .ok (.getfield 110, 3) := by decide +kernel
theorem dX3_putAsChosen_67 : decode cX3_putAsChosen 67 = .ok (.iload_n 1, 1) := by decide +kernel
theorem dX3_putAsChosen_68 : decode cX3_putAsChosen 68 = .ok (.aload_n 0, 1) := by decide +kernel
theorem dX3_putAsChosen_69 : decode cX3_putAsChosen 69 = .ok (.getfield 21, 3) := by decide +kernel
theorem dX3_putAsChosen_72 : decode cX3_putAsChosen 72 = .ok (.getfield 113, 3) := by decide +kernel
theorem dX3_putAsChosen_75 : decode cX3_putAsChosen 75 = .ok (.iastore, 1) := by decide +kernel
theorem dX3_putAsChosen_76 : decode cX3_putAsChosen 76 = .ok (.aload_n 2, 1) := by decide +kernel
theorem dX3_putAsChosen_77 : decode cX3_putAsChosen 77 = .ok (.getfield 116, 3) := by decide +kernel
theorem dX3_putAsChosen_80 : decode cX3_putAsChosen 80 = .ok (.iload_n 1, 1) := by decide +kernel
theorem dX3_putAsChosen_81 : decode cX3_putAsChosen 81 = .ok (.aload_n 0, 1) := by decide +kernel
theorem dX3_putAsChosen_82 : decode cX3_putAsChosen 82 = .ok (.getfield 21, 3) := by decide +kernel
theorem dX3_putAsChosen_85 : decode cX3_putAsChosen 85 = .ok (.getfield 119, 3) := by decide +kernel
theorem dX3_putAsChosen_88 : decode cX3_putAsChosen 88 = .ok (.iastore, 1) := by decide +kernel
theorem dX3_putAsChosen_89 : decode cX3_putAsChosen 89 = .ok (.aload_n 2, 1) := by decide +kernel
theorem dX3_putAsChosen_90 : decode cX3_putAsChosen 90 = .ok (.getfield 122, 3) := by decide +kernel
theorem dX3_putAsChosen_93 : decode cX3_putAsChosen 93 = .ok (.iload_n 1, 1) := by decide +kernel
theorem dX3_putAsChosen_94 : decode cX3_putAsChosen 94 = .ok (.aload_n 0, 1) := by decide +kernel
theorem dX3_putAsChosen_95 : decode cX3_putAsChosen 95 = .ok (.getfield 21, 3) := by decide +kernel
theorem dX3_putAsChosen_98 : decode cX3_putAsChosen 98 = .ok (.getfield 126, 3) := by decide +kernel
theorem dX3_putAsChosen_101 : decode cX3_putAsChosen 101 = .ok (.bastore, 1) := by decide +kernel
theorem dX3_putAsChosen_102 : decode cX3_putAsChosen 102 = .ok (.aload_n 0, 1) := by decide +kernel
theorem dX3_putAsChosen_103 : decode cX3_putAsChosen 103 = .ok (.iload_n 3, 1) := by decide +kernel
theorem dX3_putAsChosen_104 : decode cX3_putAsChosen 104 = .ok (.invokevirtual 129, 3) := by decide +kernel
theorem dX3_putAsChosen_107 : decode cX3_putAsChosen 107 = .ok (.return_, 1) := by decide +kernel
theorem dX3_survey_0 : decode cX3_survey 0 = .ok (.aload_n 0, 1) := by decide +kernel
theorem dX3_survey_1 : decode cX3_survey 1 = .ok (.getfield 29, 3) := by decide +kernel
theorem dX3_survey_4 : decode cX3_survey 4 = .ok (.getfield 37, 3) := by decide +kernel
theorem dX3_survey_7 : decode cX3_survey 7 = .ok (.astore_n 2, 1) := by decide +kernel
theorem dX3_survey_8 : decode cX3_survey 8 = .ok (.aload_n 0, 1) := by decide +kernel
theorem dX3_survey_9 : decode cX3_survey 9 = .ok (.getfield 12, 3) := by decide +kernel
theorem dX3_survey_12 : decode cX3_survey 12 = .ok (.aload_n 0, 1) := by decide +kernel
theorem dX3_survey_13 : decode cX3_survey 13 = .ok (.getfield 29, 3) := by decide +kernel
theorem dX3_survey_16 : decode cX3_survey 16 = .ok (.getfield 71, 3) := by decide +kernel
theorem dX3_survey_19 : decode cX3_survey 19 = .ok (.invokevirtual 132, 3) := by decide +kernel
theorem dX3_survey_22 : decode cX3_survey 22 = .ok (.aload_n 0, 1) := by decide +kernel
theorem dX3_survey_23 : decode cX3_survey 23 = .ok (.getfield 29, 3) := by decide +kernel
theorem dX3_survey_26 : decode cX3_survey 26 = .ok (.getfield 71, 3) := by decide +kernel
theorem dX3_survey_29 : decode cX3_survey 29 = .ok (.invokevirtual 135, 3) := by decide +kernel
theorem dX3_survey_32 : decode cX3_survey 32 = .ok (.invokevirtual 138, 3) := by decide +kernel
theorem dX3_survey_35 : decode cX3_survey 35 = .ok (.iconst 0, 1) := by decide +kernel
theorem dX3_survey_36 : decode cX3_survey 36 = .ok (.istore_n 3, 1) := by decide +kernel
theorem dX3_survey_37 : decode cX3_survey 37 = .ok (.iload_n 3, 1) := by decide +kernel
theorem dX3_survey_38 : decode cX3_survey 38 = .ok (.aload_n 0, 1) := by decide +kernel
theorem dX3_survey_39 : decode cX3_survey 39 = .ok (.getfield 29, 3) := by decide +kernel
theorem dX3_survey_42 : decode cX3_survey 42 = .ok (.getfield 92, 3) := by decide +kernel
theorem dX3_survey_45 : decode cX3_survey 45 = .ok (.getfield 142, 3) := by decide +kernel
theorem dX3_survey_48 : decode cX3_survey 48 = .ok (.if_icmp .ge 60, 3) := by decide +kernel
theorem dX3_survey_51 : decode cX3_survey 51 = .ok (.aload_n 2, 1) := by decide +kernel
theorem dX3_survey_52 : decode cX3_survey 52 = .ok (.getfield 107, 3) := by decide +kernel
theorem dX3_survey_55 : decode cX3_survey 55 = .ok (.iload_n 3, 1) := by decide +kernel
theorem dX3_survey_56 : decode cX3_survey 56 = .ok (.iaload, 1) := by decide +kernel
theorem dX3_survey_57 : decode cX3_survey 57 = .ok (.iload_n 1, 1) := by decide +kernel
theorem dX3_survey_58 : decode cX3_survey 58 = .ok (.if_icmp .ne 44, 3) := by decide +kernel
theorem dX3_survey_61 : decode cX3_survey 61 = .ok (.aload_n 2, 1) := by decide +kernel
theorem dX3_survey_62 : decode cX3_survey 62 = .ok (.getfield 122, 3) := by decide +kernel
theorem dX3_survey_65 : decode cX3_survey 65 = .ok (.iload_n 3, 1) := by decide +kernel
theorem dX3_survey_66 : decode cX3_survey 66 = .ok (.baload, 1) := by decide +kernel
theorem dX3_survey_67 : decode cX3_survey 67 = .ok (.istore 4, 2) := by decide +kernel
theorem dX3_survey_69 : decode cX3_survey 69 = .ok (.aload_n 0, 1) := by decide +kernel
theorem dX3_survey_70 : decode cX3_survey 70 = .ok (.getfield 12, 3) := by decide +kernel
theorem dX3_survey_73 : decode cX3_survey 73 = .ok (.aload_n 2, 1) := by decide +kernel
theorem dX3_survey_74 : decode cX3_survey 74 = .ok (.getfield 110, 3) := by decide +kernel
theorem dX3_survey_77 : decode cX3_survey 77 = .ok (.iload_n 3, 1) := by decide +kernel
theorem dX3_survey_78 : decode cX3_survey 78 = .ok (.iaload, 1) := by decide +kernel
theorem dX3_survey_79 : decode cX3_survey 79 = .ok (.aload_n 2, 1) := by decide +kernel
theorem dX3_survey_80 : decode cX3_survey 80 = .ok (.getfield 116, 3) := by decide +kernel
theorem dX3_survey_83 : decode cX3_survey 83 = .ok (.iload_n 3, 1) := by decide +kernel
theorem dX3_survey_84 : decode cX3_survey 84 = .ok (.iaload, 1) := by decide +kernel
theorem dX3_survey_85 : decode cX3_survey 85 = .ok (.aload_n 0, 1) := by decide +kernel
theorem dX3_survey_86 : decode cX3_survey 86 = .ok (.iload_n 3, 1) := by decide +kernel
theorem dX3_survey_87 : decode cX3_survey 87 = .ok (.iload 4, 2) := by decide +kernel
theorem dX3_survey_89 : decode cX3_survey 89 = .ok (.invokevirtual 145, 3) := by decide +kernel
theorem dX3_survey_92 : decode cX3_survey 92 = .ok (.aload_n 0, 1) := by decide +kernel
theorem dX3_survey_93 : decode cX3_survey 93 = .ok (.iload_n 3, 1) := by decide +kernel
theorem dX3_survey_94 : decode cX3_survey 94 = .ok (.iload 4, 2) := by decide +kernel
theorem dX3_survey_96 : decode cX3_survey 96 = .ok (.invokevirtual 149, 3) := by decide +kernel
theorem dX3_survey_99 : decode cX3_survey 99 = .ok (.invokevirtual 152, 3) := by decide +kernel
theorem dX3_survey_102 : decode cX3_survey 102 = .ok (.iinc 3 1, 3) := by decide +kernel
theorem dX3_survey_105 : decode cX3_survey 105 = .ok (.goto (-68), 3) := by decide +kernel
theorem dX3_survey_108 : decode cX3_survey 108 = .ok (.aload_n 0, 1) := by decide +kernel
theorem dX3_survey_109 : decode cX3_survey 109 = .ok (.getfield 12, 3) := by decide +kernel
theorem dX3_survey_112 : decode cX3_survey 112 = .ok (.iload_n 1, 1) := by decide +kernel
theorem dX3_survey_113 : decode cX3_survey 113 = .ok (.invokevirtual 156, 3) := by decide +kernel
theorem dX3_survey_116 : decode cX3_survey 116 = .ok (.return_, 1) := by decide +kernel
theorem dX3_imageColumn_0 : decode cX3_imageColumn 0 = .ok (.aload_n 0, 1) := by decide +kernel
theorem dX3_imageColumn_1 : decode cX3_imageColumn 1 = .ok (.getfield 29, 3) := by decide +kernel
theorem dX3_imageColumn_4 : decode cX3_imageColumn 4 = .ok (.getfield 37, 3) := by decide +kernel
theorem dX3_imageColumn_7 : decode cX3_imageColumn 7 = .ok (.getfield 110, 3) := by decide +kernel
theorem dX3_imageColumn_10 : decode cX3_imageColumn 10 = .ok (.iload_n 1, 1) := by decide +kernel
theorem dX3_imageColumn_11 : decode cX3_imageColumn 11 = .ok (.iaload, 1) := by decide +kernel
theorem dX3_imageColumn_12 : decode cX3_imageColumn 12 = .ok (.aload_n 0, 1) := by decide +kernel
theorem dX3_imageColumn_13 : decode cX3_imageColumn 13 = .ok (.getfield 29, 3) := by decide +kernel
theorem dX3_imageColumn_16 : decode cX3_imageColumn 16 = .ok (.getfield 71, 3) := by decide +kernel
theorem dX3_imageColumn_19 : decode cX3_imageColumn 19 = .ok (.getfield 159, 3) := by decide +kernel
theorem dX3_imageColumn_22 : decode cX3_imageColumn 22 = .ok (.iadd, 1) := by decide +kernel
theorem dX3_imageColumn_23 : decode cX3_imageColumn 23 = .ok (.aload_n 0, 1) := by decide +kernel
theorem dX3_imageColumn_24 : decode cX3_imageColumn 24 = .ok (.getfield 29, 3) := by decide +kernel
theorem dX3_imageColumn_27 : decode cX3_imageColumn 27 = .ok (.getfield 71, 3) := by decide +kernel
theorem dX3_imageColumn_30 : decode cX3_imageColumn 30 = .ok (.getfield 162, 3) := by decide +kernel
theorem dX3_imageColumn_33 : decode cX3_imageColumn 33 = .ok (.iadd, 1) := by decide +kernel
theorem dX3_imageColumn_34 : decode cX3_imageColumn 34 = .ok (.ireturn, 1) := by decide +kernel
theorem dX3_imageRow_0 : decode cX3_imageRow 0 = .ok (.aload_n 0, 1) := by decide +kernel
theorem dX3_imageRow_1 : decode cX3_imageRow 1 = .ok (.getfield 29, 3) := by decide +kernel
theorem dX3_imageRow_4 : decode cX3_imageRow 4 = .ok (.getfield 37, 3) := by decide +kernel
theorem dX3_imageRow_7 : decode cX3_imageRow 7 = .ok (.getfield 116, 3) := by decide +kernel
theorem dX3_imageRow_10 : decode cX3_imageRow 10 = .ok (.iload_n 1, 1) := by decide +kernel
theorem dX3_imageRow_11 : decode cX3_imageRow 11 = .ok (.iaload, 1) := by decide +kernel
theorem dX3_imageRow_12 : decode cX3_imageRow 12 = .ok (.aload_n 0, 1) := by decide +kernel
theorem dX3_imageRow_13 : decode cX3_imageRow 13 = .ok (.getfield 29, 3) := by decide +kernel
theorem dX3_imageRow_16 : decode cX3_imageRow 16 = .ok (.getfield 71, 3) := by decide +kernel
theorem dX3_imageRow_19 : decode cX3_imageRow 19 = .ok (.getfield 159, 3) := by decide +kernel
theorem dX3_imageRow_22 : decode cX3_imageRow 22 = .ok (.iadd, 1) := by decide +kernel
theorem dX3_imageRow_23 : decode cX3_imageRow 23 = .ok (.aload_n 0, 1) := by decide +kernel
theorem dX3_imageRow_24 : decode cX3_imageRow 24 = .ok (.getfield 29, 3) := by decide +kernel
theorem dX3_imageRow_27 : decode cX3_imageRow 27 = .ok (.getfield 71, 3) := by decide +kernel
theorem dX3_imageRow_30 : decode cX3_imageRow 30 = .ok (.getfield 162, 3) := by decide +kernel
theorem dX3_imageRow_33 : decode cX3_imageRow 33 = .ok (.iadd, 1) := by decide +kernel
theorem dX3_imageRow_34 : decode cX3_imageRow 34 = .ok (.ireturn, 1) := by decide +kernel
theorem dX3_ownerOf_0 : decode cX3_ownerOf 0 = .ok (.aload_n 0, 1) := by decide +kernel
theorem dX3_ownerOf_1 : decode cX3_ownerOf 1 = .ok (.getfield 29, 3) := by decide +kernel
theorem dX3_ownerOf_4 : decode cX3_ownerOf 4 = .ok (.getfield 71, 3) := by decide +kernel
theorem dX3_ownerOf_7 : decode cX3_ownerOf 7 = .ok (.getfield 162, 3) := by decide +kernel
theorem dX3_ownerOf_10 : decode cX3_ownerOf 10 = .ok (.istore 4, 2) := by decide +kernel
theorem dX3_ownerOf_12 : decode cX3_ownerOf 12 = .ok (.iconst 0, 1) := by decide +kernel
theorem dX3_ownerOf_13 : decode cX3_ownerOf 13 = .ok (.istore 5, 2) := by decide +kernel
theorem dX3_ownerOf_15 : decode cX3_ownerOf 15 = .ok (.iload 5, 2) := by decide +kernel
theorem dX3_ownerOf_17 : decode cX3_ownerOf 17 = .ok (.aload_n 0, 1) := by decide +kernel
theorem dX3_ownerOf_18 : decode cX3_ownerOf 18 = .ok (.getfield 29, 3) := by decide +kernel
theorem dX3_ownerOf_21 : decode cX3_ownerOf 21 = .ok (.getfield 92, 3) := by decide +kernel
theorem dX3_ownerOf_24 : decode cX3_ownerOf 24 = .ok (.getfield 142, 3) := by decide +kernel
theorem dX3_ownerOf_27 : decode cX3_ownerOf 27 = .ok (.if_icmp .ge 93, 3) := by decide +kernel
theorem dX3_ownerOf_30 : decode cX3_ownerOf 30 = .ok (.aload_n 0, 1) := by decide +kernel
theorem dX3_ownerOf_31 : decode cX3_ownerOf 31 = .ok (.getfield 29, 3) := by decide +kernel
theorem dX3_ownerOf_34 : decode cX3_ownerOf 34 = .ok (.getfield 37, 3) := by decide +kernel
theorem dX3_ownerOf_37 : decode cX3_ownerOf 37 = .ok (.getfield 107, 3) := by decide +kernel
theorem dX3_ownerOf_40 : decode cX3_ownerOf 40 = .ok (.iload 5, 2) := by decide +kernel
theorem dX3_ownerOf_42 : decode cX3_ownerOf 42 = .ok (.iaload, 1) := by decide +kernel
theorem dX3_ownerOf_43 : decode cX3_ownerOf 43 = .ok (.iload_n 1, 1) := by decide +kernel
theorem dX3_ownerOf_44 : decode cX3_ownerOf 44 = .ok (.if_icmp .ne 70, 3) := by decide +kernel
theorem dX3_ownerOf_47 : decode cX3_ownerOf 47 = .ok (.iload_n 2, 1) := by decide +kernel
theorem dX3_ownerOf_48 : decode cX3_ownerOf 48 = .ok (.aload_n 0, 1) := by decide +kernel
theorem dX3_ownerOf_49 : decode cX3_ownerOf 49 = .ok (.iload 5, 2) := by decide +kernel
theorem dX3_ownerOf_51 : decode cX3_ownerOf 51 = .ok (.invokevirtual 165, 3) := by decide +kernel
theorem dX3_ownerOf_54 : decode cX3_ownerOf 54 = .ok (.isub, 1) := by decide +kernel
theorem dX3_ownerOf_55 : decode cX3_ownerOf 55 = .ok (.istore 6, 2) := by decide +kernel
theorem dX3_ownerOf_57 : decode cX3_ownerOf 57 = .ok (.iload_n 3, 1) := by decide +kernel
theorem dX3_ownerOf_58 : decode cX3_ownerOf 58 = .ok (.aload_n 0, 1) := by decide +kernel
theorem dX3_ownerOf_59 : decode cX3_ownerOf 59 = .ok (.iload 5, 2) := by decide +kernel
theorem dX3_ownerOf_61 : decode cX3_ownerOf 61 = .ok (.invokevirtual 169, 3) := by decide +kernel
theorem dX3_ownerOf_64 : decode cX3_ownerOf 64 = .ok (.isub, 1) := by decide +kernel
theorem dX3_ownerOf_65 : decode cX3_ownerOf 65 = .ok (.istore 7, 2) := by decide +kernel
theorem dX3_ownerOf_67 : decode cX3_ownerOf 67 = .ok (.iload 6, 2) := by decide +kernel
theorem dX3_ownerOf_69 : decode cX3_ownerOf 69 = .ok (.iload 4, 2) := by decide +kernel
theorem dX3_ownerOf_71 : decode cX3_ownerOf 71 = .ok (.ineg, 1) := by decide +kernel
theorem dX3_ownerOf_72 : decode cX3_ownerOf 72 = .ok (.if_icmp .lt 42, 3) := by decide +kernel
theorem dX3_ownerOf_75 : decode cX3_ownerOf 75 = .ok (.iload 6, 2) := by decide +kernel
theorem dX3_ownerOf_77 : decode cX3_ownerOf 77 = .ok (.aload_n 0, 1) := by decide +kernel
theorem dX3_ownerOf_78 : decode cX3_ownerOf 78 = .ok (.iload 5, 2) := by decide +kernel
theorem dX3_ownerOf_80 : decode cX3_ownerOf 80 = .ok (.invokevirtual 172, 3) := by decide +kernel
theorem dX3_ownerOf_83 : decode cX3_ownerOf 83 = .ok (.iload 4, 2) := by decide +kernel
theorem dX3_ownerOf_85 : decode cX3_ownerOf 85 = .ok (.iadd, 1) := by decide +kernel
theorem dX3_ownerOf_86 : decode cX3_ownerOf 86 = .ok (.if_icmp .ge 28, 3) := by decide +kernel
theorem dX3_ownerOf_89 : decode cX3_ownerOf 89 = .ok (.iload 7, 2) := by decide +kernel
theorem dX3_ownerOf_91 : decode cX3_ownerOf 91 = .ok (.iload 4, 2) := by decide +kernel
theorem dX3_ownerOf_93 : decode cX3_ownerOf 93 = .ok (.ineg, 1) := by decide +kernel
theorem dX3_ownerOf_94 : decode cX3_ownerOf 94 = .ok (.if_icmp .lt 20, 3) := by decide +kernel
theorem dX3_ownerOf_97 : decode cX3_ownerOf 97 = .ok (.iload 7, 2) := by decide +kernel
theorem dX3_ownerOf_99 : decode cX3_ownerOf 99 = .ok (.aload_n 0, 1) := by decide +kernel
theorem dX3_ownerOf_100 : decode cX3_ownerOf 100 = .ok (.iload 5, 2) := by decide +kernel
theorem dX3_ownerOf_102 : decode cX3_ownerOf 102 = .ok (.invokevirtual 175, 3) := by decide +kernel
theorem dX3_ownerOf_105 : decode cX3_ownerOf 105 = .ok (.iload 4, 2) := by decide +kernel
theorem dX3_ownerOf_107 : decode cX3_ownerOf 107 = .ok (.iadd, 1) := by decide +kernel
theorem dX3_ownerOf_108 : decode cX3_ownerOf 108 = .ok (.if_icmp .ge 6, 3) := by decide +kernel
theorem dX3_ownerOf_111 : decode cX3_ownerOf 111 = .ok (.iload 5, 2) := by decide +kernel
theorem dX3_ownerOf_113 : decode cX3_ownerOf 113 = .ok (.ireturn, 1) := by decide +kernel
theorem dX3_ownerOf_114 : decode cX3_ownerOf 114 = .ok (.iinc 5 1, 3) := by decide +kernel
theorem dX3_ownerOf_117 : decode cX3_ownerOf 117 = .ok (.goto (-102), 3) := by decide +kernel
theorem dX3_ownerOf_120 : decode cX3_ownerOf 120 = .ok (.bipush (-4), 2) := by decide +kernel
theorem dX3_ownerOf_122 : decode cX3_ownerOf 122 = .ok (.ireturn, 1) := by decide +kernel
theorem dX3_colorOn_0 : decode cX3_colorOn 0 = .ok (.aload_n 0, 1) := by decide +kernel
theorem dX3_colorOn_1 : decode cX3_colorOn 1 = .ok (.iload_n 1, 1) := by decide +kernel
theorem dX3_colorOn_2 : decode cX3_colorOn 2 = .ok (.iload_n 2, 1) := by decide +kernel
theorem dX3_colorOn_3 : decode cX3_colorOn 3 = .ok (.iload_n 3, 1) := by decide +kernel
theorem dX3_colorOn_4 : decode cX3_colorOn 4 = .ok (.invokevirtual 178, 3) := by decide +kernel
theorem dX3_colorOn_7 : decode cX3_colorOn 7 = .ok (.istore 4, 2) := by decide +kernel
theorem dX3_colorOn_9 : decode cX3_colorOn 9 = .ok (.iload 4, 2) := by decide +kernel
theorem dX3_colorOn_11 : decode cX3_colorOn 11 = .ok (.bipush (-4), 2) := by decide +kernel
theorem dX3_colorOn_13 : decode cX3_colorOn 13 = .ok (.if_icmp .ne 5, 3) := by decide +kernel
theorem dX3_colorOn_16 : decode cX3_colorOn 16 = .ok (.iconst 0, 1) := by decide +kernel
theorem dX3_colorOn_17 : decode cX3_colorOn 17 = .ok (.ireturn, 1) := by decide +kernel
theorem dX3_colorOn_18 : decode cX3_colorOn 18 = .ok (.iconst 0, 1) := by decide +kernel
theorem dX3_colorOn_19 : decode cX3_colorOn 19 = .ok (.iload_n 2, 1) := by decide +kernel
theorem dX3_colorOn_20 : decode cX3_colorOn 20 = .ok (.aload_n 0, 1) := by decide +kernel
theorem dX3_colorOn_21 : decode cX3_colorOn 21 = .ok (.iload 4, 2) := by decide +kernel
theorem dX3_colorOn_23 : decode cX3_colorOn 23 = .ok (.invokevirtual 165, 3) := by decide +kernel
theorem dX3_colorOn_26 : decode cX3_colorOn 26 = .ok (.isub, 1) := by decide +kernel
theorem dX3_colorOn_27 : decode cX3_colorOn 27 = .ok (.aload_n 0, 1) := by decide +kernel
theorem dX3_colorOn_28 : decode cX3_colorOn 28 = .ok (.iload 4, 2) := by decide +kernel
theorem dX3_colorOn_30 : decode cX3_colorOn 30 = .ok (.invokevirtual 172, 3) := by decide +kernel
theorem dX3_colorOn_33 : decode cX3_colorOn 33 = .ok (.iconst 1, 1) := by decide +kernel
theorem dX3_colorOn_34 : decode cX3_colorOn 34 = .ok (.isub, 1) := by decide +kernel
theorem dX3_colorOn_35 : decode cX3_colorOn 35 = .ok (.invokestatic 182, 3) := by decide +kernel
theorem dX3_colorOn_38 : decode cX3_colorOn 38 = .ok (.invokestatic 101, 3) := by decide +kernel
theorem dX3_colorOn_41 : decode cX3_colorOn 41 = .ok (.istore 5, 2) := by decide +kernel
theorem dX3_colorOn_43 : decode cX3_colorOn 43 = .ok (.iconst 0, 1) := by decide +kernel
theorem dX3_colorOn_44 : decode cX3_colorOn 44 = .ok (.iload_n 3, 1) := by decide +kernel
theorem dX3_colorOn_45 : decode cX3_colorOn 45 = .ok (.aload_n 0, 1) := by decide +kernel
theorem dX3_colorOn_46 : decode cX3_colorOn 46 = .ok (.iload 4, 2) := by decide +kernel
theorem dX3_colorOn_48 : decode cX3_colorOn 48 = .ok (.invokevirtual 169, 3) := by decide +kernel
theorem dX3_colorOn_51 : decode cX3_colorOn 51 = .ok (.isub, 1) := by decide +kernel
theorem dX3_colorOn_52 : decode cX3_colorOn 52 = .ok (.aload_n 0, 1) := by decide +kernel
theorem dX3_colorOn_53 : decode cX3_colorOn 53 = .ok (.iload 4, 2) := by decide +kernel
theorem dX3_colorOn_55 : decode cX3_colorOn 55 = .ok (.invokevirtual 175, 3) := by decide +kernel
theorem dX3_colorOn_58 : decode cX3_colorOn 58 = .ok (.iconst 1, 1) := by decide +kernel
theorem dX3_colorOn_59 : decode cX3_colorOn 59 = .ok (.isub, 1) := by decide +kernel
theorem dX3_colorOn_60 : decode cX3_colorOn 60 = .ok (.invokestatic 182, 3) := by decide +kernel
theorem dX3_colorOn_63 : decode cX3_colorOn 63 = .ok (.invokestatic 101, 3) := by decide +kernel
theorem dX3_colorOn_66 : decode cX3_colorOn 66 = .ok (.istore 6, 2) := by decide +kernel
theorem dX3_colorOn_68 : decode cX3_colorOn 68 = .ok (.aload_n 0, 1) := by decide +kernel
theorem dX3_colorOn_69 : decode cX3_colorOn 69 = .ok (.getfield 33, 3) := by decide +kernel
theorem dX3_colorOn_72 : decode cX3_colorOn 72 = .ok (.aload_n 0, 1) := by decide +kernel
theorem dX3_colorOn_73 : decode cX3_colorOn 73 = .ok (.getfield 29, 3) := by decide +kernel
theorem dX3_colorOn_76 : decode cX3_colorOn 76 = .ok (.getfield 92, 3) := by decide +kernel
theorem dX3_colorOn_79 : decode cX3_colorOn 79 = .ok (.iload 4, 2) := by decide +kernel
theorem dX3_colorOn_81 : decode cX3_colorOn 81 = .ok (.aload_n 0, 1) := by decide +kernel
theorem dX3_colorOn_82 : decode cX3_colorOn 82 = .ok (.getfield 29, 3) := by decide +kernel
theorem dX3_colorOn_85 : decode cX3_colorOn 85 = .ok (.getfield 37, 3) := by decide +kernel
theorem dX3_colorOn_88 : decode cX3_colorOn 88 = .ok (.getfield 122, 3) := by decide +kernel
theorem dX3_colorOn_91 : decode cX3_colorOn 91 = .ok (.iload 4, 2) := by decide +kernel
theorem dX3_colorOn_93 : decode cX3_colorOn 93 = .ok (.baload, 1) := by decide +kernel
theorem dX3_colorOn_94 : decode cX3_colorOn 94 = .ok (.ifCond .eq 7, 3) := by decide +kernel
theorem dX3_colorOn_97 : decode cX3_colorOn 97 = .ok (.iconst 1, 1) := by decide +kernel
theorem dX3_colorOn_98 : decode cX3_colorOn 98 = .ok (.goto 4, 3) := by decide +kernel
theorem dX3_colorOn_101 : decode cX3_colorOn 101 = .ok (.iconst 0, 1) := by decide +kernel
theorem dX3_colorOn_102 : decode cX3_colorOn 102 = .ok (.iload 5, 2) := by decide +kernel
theorem dX3_colorOn_104 : decode cX3_colorOn 104 = .ok (.iload 6, 2) := by decide +kernel
theorem dX3_colorOn_106 : decode cX3_colorOn 106 = .ok (.invokevirtual 185, 3) := by decide +kernel
theorem dX3_colorOn_109 : decode cX3_colorOn 109 = .ok (.ireturn, 1) := by decide +kernel
theorem dX3_usedColumns_0 : decode cX3_usedColumns 0 = .ok (.aload_n 0, 1) := by decide +kernel
theorem dX3_usedColumns_1 : decode cX3_usedColumns 1 = .ok (.getfield 29, 3) := by decide +kernel
theorem dX3_usedColumns_4 : decode cX3_usedColumns 4 = .ok (.getfield 71, 3) := by decide +kernel
theorem dX3_usedColumns_7 : decode cX3_usedColumns 7 = .ok (.getfield 159, 3) := by decide +kernel
theorem dX3_usedColumns_10 : decode cX3_usedColumns 10 = .ok (.istore_n 2, 1) := by decide +kernel
theorem dX3_usedColumns_11 : decode cX3_usedColumns 11 = .ok (.iconst 0, 1) := by decide +kernel
theorem dX3_usedColumns_12 : decode cX3_usedColumns 12 = .ok (.istore_n 3, 1) := by decide +kernel
theorem dX3_usedColumns_13 : decode cX3_usedColumns 13 = .ok (.iload_n 3, 1) := by decide +kernel
theorem dX3_usedColumns_14 : decode cX3_usedColumns 14 = .ok (.aload_n 0, 1) := by decide +kernel
theorem dX3_usedColumns_15 : decode cX3_usedColumns 15 = .ok (.getfield 29, 3) := by decide +kernel
theorem dX3_usedColumns_18 : decode cX3_usedColumns 18 = .ok (.getfield 92, 3) := by decide +kernel
theorem dX3_usedColumns_21 : decode cX3_usedColumns 21 = .ok (.getfield 142, 3) := by decide +kernel
theorem dX3_usedColumns_24 : decode cX3_usedColumns 24 = .ok (.if_icmp .ge 52, 3) := by decide +kernel
theorem dX3_usedColumns_27 : decode cX3_usedColumns 27 = .ok (.aload_n 0, 1) := by decide +kernel
theorem dX3_usedColumns_28 : decode cX3_usedColumns 28 = .ok (.getfield 29, 3) := by decide +kernel
theorem dX3_usedColumns_31 : decode cX3_usedColumns 31 = .ok (.getfield 37, 3) := by decide +kernel
theorem dX3_usedColumns_34 : decode cX3_usedColumns 34 = .ok (.getfield 107, 3) := by decide +kernel
theorem dX3_usedColumns_37 : decode cX3_usedColumns 37 = .ok (.iload_n 3, 1) := by decide +kernel
theorem dX3_usedColumns_38 : decode cX3_usedColumns 38 = .ok (.iaload, 1) := by decide +kernel
theorem dX3_usedColumns_39 : decode cX3_usedColumns 39 = .ok (.iload_n 1, 1) := by decide +kernel
theorem dX3_usedColumns_40 : decode cX3_usedColumns 40 = .ok (.if_icmp .ne 30, 3) := by decide +kernel
theorem dX3_usedColumns_43 : decode cX3_usedColumns 43 = .ok (.iload_n 2, 1) := by decide +kernel
theorem dX3_usedColumns_44 : decode cX3_usedColumns 44 = .ok (.aload_n 0, 1) := by decide +kernel
theorem dX3_usedColumns_45 : decode cX3_usedColumns 45 = .ok (.iload_n 3, 1) := by decide +kernel
theorem dX3_usedColumns_46 : decode cX3_usedColumns 46 = .ok (.invokevirtual 165, 3) := by decide +kernel
theorem dX3_usedColumns_49 : decode cX3_usedColumns 49 = .ok (.aload_n 0, 1) := by decide +kernel
theorem dX3_usedColumns_50 : decode cX3_usedColumns 50 = .ok (.iload_n 3, 1) := by decide +kernel
theorem dX3_usedColumns_51 : decode cX3_usedColumns 51 = .ok (.invokevirtual 172, 3) := by decide +kernel
theorem dX3_usedColumns_54 : decode cX3_usedColumns 54 = .ok (.iadd, 1) := by decide +kernel
theorem dX3_usedColumns_55 : decode cX3_usedColumns 55 = .ok (.aload_n 0, 1) := by decide +kernel
theorem dX3_usedColumns_56 : decode cX3_usedColumns 56 = .ok (.getfield 29, 3) := by decide +kernel
theorem dX3_usedColumns_59 : decode cX3_usedColumns 59 = .ok (.getfield 71, 3) := by decide +kernel
theorem dX3_usedColumns_62 : decode cX3_usedColumns 62 = .ok (.getfield 162, 3) := by decide +kernel
theorem dX3_usedColumns_65 : decode cX3_usedColumns 65 = .ok (.iadd, 1) := by decide +kernel
theorem dX3_usedColumns_66 : decode cX3_usedColumns 66 = .ok (.invokestatic 101, 3) := by decide +kernel
theorem dX3_usedColumns_69 : decode cX3_usedColumns 69 = .ok (.istore_n 2, 1) := by decide +kernel
theorem dX3_usedColumns_70 : decode cX3_usedColumns 70 = .ok (.iinc 3 1, 3) := by decide +kernel
theorem dX3_usedColumns_73 : decode cX3_usedColumns 73 = .ok (.goto (-60), 3) := by decide +kernel
theorem dX3_usedColumns_76 : decode cX3_usedColumns 76 = .ok (.iload_n 2, 1) := by decide +kernel
theorem dX3_usedColumns_77 : decode cX3_usedColumns 77 = .ok (.aload_n 0, 1) := by decide +kernel
theorem dX3_usedColumns_78 : decode cX3_usedColumns 78 = .ok (.getfield 29, 3) := by decide +kernel
theorem dX3_usedColumns_81 : decode cX3_usedColumns 81 = .ok (.getfield 71, 3) := by decide +kernel
theorem dX3_usedColumns_84 : decode cX3_usedColumns 84 = .ok (.getfield 159, 3) := by decide +kernel
theorem dX3_usedColumns_87 : decode cX3_usedColumns 87 = .ok (.iadd, 1) := by decide +kernel
theorem dX3_usedColumns_88 : decode cX3_usedColumns 88 = .ok (.ireturn, 1) := by decide +kernel
theorem dX3_usedRows_0 : decode cX3_usedRows 0 = .ok (.aload_n 0, 1) := by decide +kernel
theorem dX3_usedRows_1 : decode cX3_usedRows 1 = .ok (.getfield 29, 3) := by decide +kernel
theorem dX3_usedRows_4 : decode cX3_usedRows 4 = .ok (.getfield 71, 3) := by decide +kernel
theorem dX3_usedRows_7 : decode cX3_usedRows 7 = .ok (.getfield 159, 3) := by decide +kernel
theorem dX3_usedRows_10 : decode cX3_usedRows 10 = .ok (.istore_n 2, 1) := by decide +kernel
theorem dX3_usedRows_11 : decode cX3_usedRows 11 = .ok (.iconst 0, 1) := by decide +kernel
theorem dX3_usedRows_12 : decode cX3_usedRows 12 = .ok (.istore_n 3, 1) := by decide +kernel
theorem dX3_usedRows_13 : decode cX3_usedRows 13 = .ok (.iload_n 3, 1) := by decide +kernel
theorem dX3_usedRows_14 : decode cX3_usedRows 14 = .ok (.aload_n 0, 1) := by decide +kernel
theorem dX3_usedRows_15 : decode cX3_usedRows 15 = .ok (.getfield 29, 3) := by decide +kernel
theorem dX3_usedRows_18 : decode cX3_usedRows 18 = .ok (.getfield 92, 3) := by decide +kernel
theorem dX3_usedRows_21 : decode cX3_usedRows 21 = .ok (.getfield 142, 3) := by decide +kernel
theorem dX3_usedRows_24 : decode cX3_usedRows 24 = .ok (.if_icmp .ge 52, 3) := by decide +kernel
theorem dX3_usedRows_27 : decode cX3_usedRows 27 = .ok (.aload_n 0, 1) := by decide +kernel
theorem dX3_usedRows_28 : decode cX3_usedRows 28 = .ok (.getfield 29, 3) := by decide +kernel
theorem dX3_usedRows_31 : decode cX3_usedRows 31 = .ok (.getfield 37, 3) := by decide +kernel
theorem dX3_usedRows_34 : decode cX3_usedRows 34 = .ok (.getfield 107, 3) := by decide +kernel
theorem dX3_usedRows_37 : decode cX3_usedRows 37 = .ok (.iload_n 3, 1) := by decide +kernel
theorem dX3_usedRows_38 : decode cX3_usedRows 38 = .ok (.iaload, 1) := by decide +kernel
theorem dX3_usedRows_39 : decode cX3_usedRows 39 = .ok (.iload_n 1, 1) := by decide +kernel
theorem dX3_usedRows_40 : decode cX3_usedRows 40 = .ok (.if_icmp .ne 30, 3) := by decide +kernel
theorem dX3_usedRows_43 : decode cX3_usedRows 43 = .ok (.iload_n 2, 1) := by decide +kernel
theorem dX3_usedRows_44 : decode cX3_usedRows 44 = .ok (.aload_n 0, 1) := by decide +kernel
theorem dX3_usedRows_45 : decode cX3_usedRows 45 = .ok (.iload_n 3, 1) := by decide +kernel
theorem dX3_usedRows_46 : decode cX3_usedRows 46 = .ok (.invokevirtual 169, 3) := by decide +kernel
theorem dX3_usedRows_49 : decode cX3_usedRows 49 = .ok (.aload_n 0, 1) := by decide +kernel
theorem dX3_usedRows_50 : decode cX3_usedRows 50 = .ok (.iload_n 3, 1) := by decide +kernel
theorem dX3_usedRows_51 : decode cX3_usedRows 51 = .ok (.invokevirtual 175, 3) := by decide +kernel
theorem dX3_usedRows_54 : decode cX3_usedRows 54 = .ok (.iadd, 1) := by decide +kernel
theorem dX3_usedRows_55 : decode cX3_usedRows 55 = .ok (.aload_n 0, 1) := by decide +kernel
theorem dX3_usedRows_56 : decode cX3_usedRows 56 = .ok (.getfield 29, 3) := by decide +kernel
theorem dX3_usedRows_59 : decode cX3_usedRows 59 = .ok (.getfield 71, 3) := by decide +kernel
theorem dX3_usedRows_62 : decode cX3_usedRows 62 = .ok (.getfield 162, 3) := by decide +kernel
theorem dX3_usedRows_65 : decode cX3_usedRows 65 = .ok (.iadd, 1) := by decide +kernel
theorem dX3_usedRows_66 : decode cX3_usedRows 66 = .ok (.invokestatic 101, 3) := by decide +kernel
theorem dX3_usedRows_69 : decode cX3_usedRows 69 = .ok (.istore_n 2, 1) := by decide +kernel
theorem dX3_usedRows_70 : decode cX3_usedRows 70 = .ok (.iinc 3 1, 3) := by decide +kernel
theorem dX3_usedRows_73 : decode cX3_usedRows 73 = .ok (.goto (-60), 3) := by decide +kernel
theorem dX3_usedRows_76 : decode cX3_usedRows 76 = .ok (.iload_n 2, 1) := by decide +kernel
theorem dX3_usedRows_77 : decode cX3_usedRows 77 = .ok (.aload_n 0, 1) := by decide +kernel
theorem dX3_usedRows_78 : decode cX3_usedRows 78 = .ok (.getfield 29, 3) := by decide +kernel
theorem dX3_usedRows_81 : decode cX3_usedRows 81 = .ok (.getfield 71, 3) := by decide +kernel
theorem dX3_usedRows_84 : decode cX3_usedRows 84 = .ok (.getfield 159, 3) := by decide +kernel
theorem dX3_usedRows_87 : decode cX3_usedRows 87 = .ok (.iadd, 1) := by decide +kernel
theorem dX3_usedRows_88 : decode cX3_usedRows 88 = .ok (.ireturn, 1) := by decide +kernel
theorem dX3_imagePixels_0 : decode cX3_imagePixels 0 = .ok (.iconst 0, 1) := by decide +kernel
theorem dX3_imagePixels_1 : decode cX3_imagePixels 1 = .ok (.istore_n 2, 1) := by decide +kernel
theorem dX3_imagePixels_2 : decode cX3_imagePixels 2 = .ok (.iconst 0, 1) := by decide +kernel
theorem dX3_imagePixels_3 : decode cX3_imagePixels 3 = .ok (.istore_n 3, 1) := by decide +kernel
theorem dX3_imagePixels_4 : decode cX3_imagePixels 4 = .ok (.iload_n 3, 1) := by decide +kernel
theorem dX3_imagePixels_5 : decode cX3_imagePixels 5 = .ok (.aload_n 0, 1) := by decide +kernel
theorem dX3_imagePixels_6 : decode cX3_imagePixels 6 = .ok (.getfield 29, 3) := by decide +kernel
theorem dX3_imagePixels_9 : decode cX3_imagePixels 9 = .ok (.getfield 92, 3) := by decide +kernel
theorem dX3_imagePixels_12 : decode cX3_imagePixels 12 = .ok (.getfield 142, 3) := by decide +kernel
theorem dX3_imagePixels_15 : decode cX3_imagePixels 15 = .ok (.if_icmp .ge 47, 3) := by decide +kernel
theorem dX3_imagePixels_18 : decode cX3_imagePixels 18 = .ok (.aload_n 0, 1) := by decide +kernel
theorem dX3_imagePixels_19 : decode cX3_imagePixels 19 = .ok (.getfield 29, 3) := by decide +kernel
theorem dX3_imagePixels_22 : decode cX3_imagePixels 22 = .ok (.getfield 37, 3) := by decide +kernel
theorem dX3_imagePixels_25 : decode cX3_imagePixels 25 = .ok (.getfield 107, 3) := by decide +kernel
theorem dX3_imagePixels_28 : decode cX3_imagePixels 28 = .ok (.iload_n 3, 1) := by decide +kernel
theorem dX3_imagePixels_29 : decode cX3_imagePixels 29 = .ok (.iaload, 1) := by decide +kernel
theorem dX3_imagePixels_30 : decode cX3_imagePixels 30 = .ok (.iload_n 1, 1) := by decide +kernel
theorem dX3_imagePixels_31 : decode cX3_imagePixels 31 = .ok (.if_icmp .ne 25, 3) := by decide +kernel
theorem dX3_imagePixels_34 : decode cX3_imagePixels 34 = .ok (.iload_n 2, 1) := by decide +kernel
theorem dX3_imagePixels_35 : decode cX3_imagePixels 35 = .ok (.aload_n 0, 1) := by decide +kernel
theorem dX3_imagePixels_36 : decode cX3_imagePixels 36 = .ok (.getfield 33, 3) := by decide +kernel
theorem dX3_imagePixels_39 : decode cX3_imagePixels 39 = .ok (.getfield 191, 3) := by decide +kernel
theorem dX3_imagePixels_42 : decode cX3_imagePixels 42 = .ok (.iload_n 3, 1) := by decide +kernel
theorem dX3_imagePixels_43 : decode cX3_imagePixels 43 = .ok (.iaload, 1) := by decide +kernel
theorem dX3_imagePixels_44 : decode cX3_imagePixels 44 = .ok (.aload_n 0, 1) := by decide +kernel
theorem dX3_imagePixels_45 : decode cX3_imagePixels 45 = .ok (.getfield 33, 3) := by decide +kernel
theorem dX3_imagePixels_48 : decode cX3_imagePixels 48 = .ok (.getfield 194, 3) := by decide +kernel
theorem dX3_imagePixels_51 : decode cX3_imagePixels 51 = .ok (.iload_n 3, 1) := by decide +kernel
theorem dX3_imagePixels_52 : decode cX3_imagePixels 52 = .ok (.iaload, 1) := by decide +kernel
theorem dX3_imagePixels_53 : decode cX3_imagePixels 53 = .ok (.imul, 1) := by decide +kernel
theorem dX3_imagePixels_54 : decode cX3_imagePixels 54 = .ok (.iadd, 1) := by decide +kernel
theorem dX3_imagePixels_55 : decode cX3_imagePixels 55 = .ok (.istore_n 2, 1) := by decide +kernel
theorem dX3_imagePixels_56 : decode cX3_imagePixels 56 = .ok (.iinc 3 1, 3) := by decide +kernel
theorem dX3_imagePixels_59 : decode cX3_imagePixels 59 = .ok (.goto (-55), 3) := by decide +kernel
theorem dX3_imagePixels_62 : decode cX3_imagePixels 62 = .ok (.iload_n 2, 1) := by decide +kernel
theorem dX3_imagePixels_63 : decode cX3_imagePixels 63 = .ok (.ireturn, 1) := by decide +kernel
theorem dX3_boxPositions_0 : decode cX3_boxPositions 0 = .ok (.iconst 0, 1) := by decide +kernel
theorem dX3_boxPositions_1 : decode cX3_boxPositions 1 = .ok (.istore_n 1, 1) := by decide +kernel
theorem dX3_boxPositions_2 : decode cX3_boxPositions 2 = .ok (.iconst 0, 1) := by decide +kernel
theorem dX3_boxPositions_3 : decode cX3_boxPositions 3 = .ok (.istore_n 2, 1) := by decide +kernel
theorem dX3_boxPositions_4 : decode cX3_boxPositions 4 = .ok (.iload_n 2, 1) := by decide +kernel
theorem dX3_boxPositions_5 : decode cX3_boxPositions 5 = .ok (.aload_n 0, 1) := by decide +kernel
theorem dX3_boxPositions_6 : decode cX3_boxPositions 6 = .ok (.getfield 29, 3) := by decide +kernel
theorem dX3_boxPositions_9 : decode cX3_boxPositions 9 = .ok (.getfield 92, 3) := by decide +kernel
theorem dX3_boxPositions_12 : decode cX3_boxPositions 12 = .ok (.getfield 142, 3) := by decide +kernel
theorem dX3_boxPositions_15 : decode cX3_boxPositions 15 = .ok (.if_icmp .ge 36, 3) := by decide +kernel
theorem dX3_boxPositions_18 : decode cX3_boxPositions 18 = .ok (.aload_n 0, 1) := by decide +kernel
theorem dX3_boxPositions_19 : decode cX3_boxPositions 19 = .ok (.getfield 33, 3) := by decide +kernel
theorem dX3_boxPositions_22 : decode cX3_boxPositions 22 = .ok (.iload_n 2, 1) := by decide +kernel
theorem dX3_boxPositions_23 : decode cX3_boxPositions 23 = .ok (.invokevirtual 197, 3) := by decide +kernel
theorem dX3_boxPositions_26 : decode cX3_boxPositions 26 = .ok (.ifCond .eq 19, 3) := by decide +kernel
theorem dX3_boxPositions_29 : decode cX3_boxPositions 29 = .ok (.iload_n 1, 1) := by decide +kernel
theorem dX3_boxPositions_30 : decode cX3_boxPositions 30 = .ok (.aload_n 0, 1) := by decide +kernel
theorem dX3_boxPositions_31 : decode cX3_boxPositions 31 = .ok (.iload_n 2, 1) := by decide +kernel
theorem dX3_boxPositions_32 : decode cX3_boxPositions 32 = .ok (.iconst 0, 1) := by decide +kernel
theorem dX3_boxPositions_33 : decode cX3_boxPositions 33 = .ok (.invokevirtual 145, 3) := by decide +kernel
theorem dX3_boxPositions_36 : decode cX3_boxPositions 36 = .ok (.aload_n 0, 1) := by decide +kernel
theorem dX3_boxPositions_37 : decode cX3_boxPositions 37 = .ok (.iload_n 2, 1) := by decide +kernel
theorem dX3_boxPositions_38 : decode cX3_boxPositions 38 = .ok (.iconst 0, 1) := by decide +kernel
theorem dX3_boxPositions_39 : decode cX3_boxPositions 39 = .ok (.invokevirtual 149, 3) := by decide +kernel
theorem dX3_boxPositions_42 : decode cX3_boxPositions 42 = .ok (.imul, 1) := by decide +kernel
theorem dX3_boxPositions_43 : decode cX3_boxPositions 43 = .ok (.iadd, 1) := by decide +kernel
theorem dX3_boxPositions_44 : decode cX3_boxPositions 44 = .ok (.istore_n 1, 1) := by decide +kernel
theorem dX3_boxPositions_45 : decode cX3_boxPositions 45 = .ok (.iinc 2 1, 3) := by decide +kernel
theorem dX3_boxPositions_48 : decode cX3_boxPositions 48 = .ok (.goto (-44), 3) := by decide +kernel
theorem dX3_boxPositions_51 : decode cX3_boxPositions 51 = .ok (.iload_n 1, 1) := by decide +kernel
theorem dX3_boxPositions_52 : decode cX3_boxPositions 52 = .ok (.ireturn, 1) := by decide +kernel
theorem dX3_lineUp_0 : decode cX3_lineUp 0 = .ok (.iconst 0, 1) := by decide +kernel
theorem dX3_lineUp_1 : decode cX3_lineUp 1 = .ok (.istore_n 1, 1) := by decide +kernel
theorem dX3_lineUp_2 : decode cX3_lineUp 2 = .ok (.iconst 0, 1) := by decide +kernel
theorem dX3_lineUp_3 : decode cX3_lineUp 3 = .ok (.istore_n 2, 1) := by decide +kernel
theorem dX3_lineUp_4 : decode cX3_lineUp 4 = .ok (.iload_n 2, 1) := by decide +kernel
theorem dX3_lineUp_5 : decode cX3_lineUp 5 = .ok (.aload_n 0, 1) := by decide +kernel
theorem dX3_lineUp_6 : decode cX3_lineUp 6 = .ok (.getfield 29, 3) := by decide +kernel
theorem dX3_lineUp_9 : decode cX3_lineUp 9 = .ok (.getfield 92, 3) := by decide +kernel
theorem dX3_lineUp_12 : decode cX3_lineUp 12 = .ok (.getfield 142, 3) := by decide +kernel
theorem dX3_lineUp_15 : decode cX3_lineUp 15 = .ok (.if_icmp .ge 76, 3) := by decide +kernel
theorem dX3_lineUp_18 : decode cX3_lineUp 18 = .ok (.aload_n 0, 1) := by decide +kernel
theorem dX3_lineUp_19 : decode cX3_lineUp 19 = .ok (.getfield 33, 3) := by decide +kernel
theorem dX3_lineUp_22 : decode cX3_lineUp 22 = .ok (.iload_n 2, 1) := by decide +kernel
theorem dX3_lineUp_23 : decode cX3_lineUp 23 = .ok (.invokevirtual 197, 3) := by decide +kernel
theorem dX3_lineUp_26 : decode cX3_lineUp 26 = .ok (.ifCond .eq 59, 3) := by decide +kernel
theorem dX3_lineUp_29 : decode cX3_lineUp 29 = .ok (.iload_n 1, 1) := by decide +kernel
theorem dX3_lineUp_30 : decode cX3_lineUp 30 = .ok (.istore_n 3, 1) := by decide +kernel
theorem dX3_lineUp_31 : decode cX3_lineUp 31 = .ok (.iload_n 3, 1) := by decide +kernel
theorem dX3_lineUp_32 : decode cX3_lineUp 32 = .ok (.ifCond .le 43, 3) := by decide +kernel
theorem dX3_lineUp_35 : decode cX3_lineUp 35 = .ok (.aload_n 0, 1) := by decide +kernel
theorem dX3_lineUp_36 : decode cX3_lineUp 36 = .ok (.aload_n 0, 1) := by decide +kernel
theorem dX3_lineUp_37 : decode cX3_lineUp 37 = .ok (.getfield 25, 3) := by decide +kernel
theorem dX3_lineUp_40 : decode cX3_lineUp 40 = .ok (.iload_n 3, 1) := by decide +kernel
theorem dX3_lineUp_41 : decode cX3_lineUp 41 = .ok (.iconst 1, 1) := by decide +kernel
theorem dX3_lineUp_42 : decode cX3_lineUp 42 = .ok (.isub, 1) := by decide +kernel
theorem dX3_lineUp_43 : decode cX3_lineUp 43 = .ok (.iaload, 1) := by decide +kernel
theorem dX3_lineUp_44 : decode cX3_lineUp 44 = .ok (.invokevirtual 200, 3) := by decide +kernel
theorem dX3_lineUp_47 : decode cX3_lineUp 47 = .ok (.aload_n 0, 1) := by decide +kernel
theorem dX3_lineUp_48 : decode cX3_lineUp 48 = .ok (.iload_n 2, 1) := by decide +kernel
theorem dX3_lineUp_49 : decode cX3_lineUp 49 = .ok (.invokevirtual 200, 3) := by decide +kernel
theorem dX3_lineUp_52 : decode cX3_lineUp 52 = .ok (.if_icmp .ge 23, 3) := by decide +kernel
theorem dX3_lineUp_55 : decode cX3_lineUp 55 = .ok (.aload_n 0, 1) := by decide +kernel
theorem dX3_lineUp_56 : decode cX3_lineUp 56 = .ok (.getfield 25, 3) := by decide +kernel
theorem dX3_lineUp_59 : decode cX3_lineUp 59 = .ok (.iload_n 3, 1) := by decide +kernel
theorem dX3_lineUp_60 : decode cX3_lineUp 60 = .ok (.aload_n 0, 1) := by decide +kernel
theorem dX3_lineUp_61 : decode cX3_lineUp 61 = .ok (.getfield 25, 3) := by decide +kernel
theorem dX3_lineUp_64 : decode cX3_lineUp 64 = .ok (.iload_n 3, 1) := by decide +kernel
theorem dX3_lineUp_65 : decode cX3_lineUp 65 = .ok (.iconst 1, 1) := by decide +kernel
theorem dX3_lineUp_66 : decode cX3_lineUp 66 = .ok (.isub, 1) := by decide +kernel
theorem dX3_lineUp_67 : decode cX3_lineUp 67 = .ok (.iaload, 1) := by decide +kernel
theorem dX3_lineUp_68 : decode cX3_lineUp 68 = .ok (.iastore, 1) := by decide +kernel
theorem dX3_lineUp_69 : decode cX3_lineUp 69 = .ok (.iinc 3 (-1), 3) := by decide +kernel
theorem dX3_lineUp_72 : decode cX3_lineUp 72 = .ok (.goto (-41), 3) := by decide +kernel
theorem dX3_lineUp_75 : decode cX3_lineUp 75 = .ok (.aload_n 0, 1) := by decide +kernel
theorem dX3_lineUp_76 : decode cX3_lineUp 76 = .ok (.getfield 25, 3) := by decide +kernel
theorem dX3_lineUp_79 : decode cX3_lineUp 79 = .ok (.iload_n 3, 1) := by decide +kernel
theorem dX3_lineUp_80 : decode cX3_lineUp 80 = .ok (.iload_n 2, 1) := by decide +kernel
theorem dX3_lineUp_81 : decode cX3_lineUp 81 = .ok (.iastore, 1) := by decide +kernel
theorem dX3_lineUp_82 : decode cX3_lineUp 82 = .ok (.iinc 1 1, 3) := by decide +kernel
theorem dX3_lineUp_85 : decode cX3_lineUp 85 = .ok (.iinc 2 1, 3) := by decide +kernel
theorem dX3_lineUp_88 : decode cX3_lineUp 88 = .ok (.goto (-84), 3) := by decide +kernel
theorem dX3_lineUp_91 : decode cX3_lineUp 91 = .ok (.iload_n 1, 1) := by decide +kernel
theorem dX3_lineUp_92 : decode cX3_lineUp 92 = .ok (.ireturn, 1) := by decide +kernel
theorem dX3_rankOf_0 : decode cX3_rankOf 0 = .ok (.aload_n 0, 1) := by decide +kernel
theorem dX3_rankOf_1 : decode cX3_rankOf 1 = .ok (.getfield 33, 3) := by decide +kernel
theorem dX3_rankOf_4 : decode cX3_rankOf 4 = .ok (.getfield 191, 3) := by decide +kernel
theorem dX3_rankOf_7 : decode cX3_rankOf 7 = .ok (.iload_n 1, 1) := by decide +kernel
theorem dX3_rankOf_8 : decode cX3_rankOf 8 = .ok (.iaload, 1) := by decide +kernel
theorem dX3_rankOf_9 : decode cX3_rankOf 9 = .ok (.istore_n 2, 1) := by decide +kernel
theorem dX3_rankOf_10 : decode cX3_rankOf 10 = .ok (.aload_n 0, 1) := by decide +kernel
theorem dX3_rankOf_11 : decode cX3_rankOf 11 = .ok (.getfield 33, 3) := by decide +kernel
theorem dX3_rankOf_14 : decode cX3_rankOf 14 = .ok (.getfield 194, 3) := by decide +kernel
theorem dX3_rankOf_17 : decode cX3_rankOf 17 = .ok (.iload_n 1, 1) := by decide +kernel
theorem dX3_rankOf_18 : decode cX3_rankOf 18 = .ok (.iaload, 1) := by decide +kernel
theorem dX3_rankOf_19 : decode cX3_rankOf 19 = .ok (.istore_n 3, 1) := by decide +kernel
theorem dX3_rankOf_20 : decode cX3_rankOf 20 = .ok (.aload_n 0, 1) := by decide +kernel
theorem dX3_rankOf_21 : decode cX3_rankOf 21 = .ok (.getfield 29, 3) := by decide +kernel
theorem dX3_rankOf_24 : decode cX3_rankOf 24 = .ok (.getfield 71, 3) := by decide +kernel
theorem dX3_rankOf_27 : decode cX3_rankOf 27 = .ok (.getfield 203, 3) := by decide +kernel
theorem dX3_rankOf_30 : decode cX3_rankOf 30 = .ok (.tableswitch 52 1 3 #[26, 30, 45], 26) := by decide +kernel
theorem dX3_rankOf_56 : decode cX3_rankOf 56 = .ok (.iload_n 2, 1) := by decide +kernel
theorem dX3_rankOf_57 : decode cX3_rankOf 57 = .ok (.iload_n 3, 1) := by decide +kernel
theorem dX3_rankOf_58 : decode cX3_rankOf 58 = .ok (.imul, 1) := by decide +kernel
theorem dX3_rankOf_59 : decode cX3_rankOf 59 = .ok (.ireturn, 1) := by decide +kernel
theorem dX3_rankOf_60 : decode cX3_rankOf 60 = .ok (.bipush 10, 2) := by decide +kernel
theorem dX3_rankOf_62 : decode cX3_rankOf 62 = .ok (.iload_n 2, 1) := by decide +kernel
theorem dX3_rankOf_63 : decode cX3_rankOf 63 = .ok (.iload_n 3, 1) := by decide +kernel
theorem dX3_rankOf_64 : decode cX3_rankOf 64 = .ok (.invokestatic 101, 3) := by decide +kernel
theorem dX3_rankOf_67 : decode cX3_rankOf 67 = .ok (.imul, 1) := by decide +kernel
theorem dX3_rankOf_68 : decode cX3_rankOf 68 = .ok (.iload_n 2, 1) := by decide +kernel
theorem dX3_rankOf_69 : decode cX3_rankOf 69 = .ok (.iload_n 3, 1) := by decide +kernel
theorem dX3_rankOf_70 : decode cX3_rankOf 70 = .ok (.invokestatic 182, 3) := by decide +kernel
theorem dX3_rankOf_73 : decode cX3_rankOf 73 = .ok (.iadd, 1) := by decide +kernel
theorem dX3_rankOf_74 : decode cX3_rankOf 74 = .ok (.ireturn, 1) := by decide +kernel
theorem dX3_rankOf_75 : decode cX3_rankOf 75 = .ok (.bipush 10, 2) := by decide +kernel
theorem dX3_rankOf_77 : decode cX3_rankOf 77 = .ok (.iload_n 3, 1) := by decide +kernel
theorem dX3_rankOf_78 : decode cX3_rankOf 78 = .ok (.imul, 1) := by decide +kernel
theorem dX3_rankOf_79 : decode cX3_rankOf 79 = .ok (.iload_n 2, 1) := by decide +kernel
theorem dX3_rankOf_80 : decode cX3_rankOf 80 = .ok (.iadd, 1) := by decide +kernel
theorem dX3_rankOf_81 : decode cX3_rankOf 81 = .ok (.ireturn, 1) := by decide +kernel
theorem dX3_rankOf_82 : decode cX3_rankOf 82 = .ok (.iconst 0, 1) := by decide +kernel
theorem dX3_rankOf_83 : decode cX3_rankOf 83 = .ok (.ireturn, 1) := by decide +kernel
theorem dX3_isOpenTo_0 : decode cX3_isOpenTo 0 = .ok (.aload_n 0, 1) := by decide +kernel
theorem dX3_isOpenTo_1 : decode cX3_isOpenTo 1 = .ok (.getfield 29, 3) := by decide +kernel
theorem dX3_isOpenTo_4 : decode cX3_isOpenTo 4 = .ok (.getfield 71, 3) := by decide +kernel
theorem dX3_isOpenTo_7 : decode cX3_isOpenTo 7 = .ok (.getfield 206, 3) := by decide +kernel
theorem dX3_isOpenTo_10 : decode cX3_isOpenTo 10 = .ok (.ifCond .eq 44, 3) := by decide +kernel
theorem dX3_isOpenTo_13 : decode cX3_isOpenTo 13 = .ok (.aload_n 0, 1) := by decide +kernel
theorem dX3_isOpenTo_14 : decode cX3_isOpenTo 14 = .ok (.getfield 29, 3) := by decide +kernel
theorem dX3_isOpenTo_17 : decode cX3_isOpenTo 17 = .ok (.getfield 37, 3) := by decide +kernel
theorem dX3_isOpenTo_20 : decode cX3_isOpenTo 20 = .ok (.getfield 89, 3) := by decide +kernel
theorem dX3_isOpenTo_23 : decode cX3_isOpenTo 23 = .ok (.iload_n 1, 1) := by decide +kernel
theorem dX3_isOpenTo_24 : decode cX3_isOpenTo 24 = .ok (.iaload, 1) := by decide +kernel
theorem dX3_isOpenTo_25 : decode cX3_isOpenTo 25 = .ok (.aload_n 0, 1) := by decide +kernel
theorem dX3_isOpenTo_26 : decode cX3_isOpenTo 26 = .ok (.getfield 29, 3) := by decide +kernel
theorem dX3_isOpenTo_29 : decode cX3_isOpenTo 29 = .ok (.getfield 92, 3) := by decide +kernel
theorem dX3_isOpenTo_32 : decode cX3_isOpenTo 32 = .ok (.getfield 96, 3) := by decide +kernel
theorem dX3_isOpenTo_35 : decode cX3_isOpenTo 35 = .ok (.iload_n 2, 1) := by decide +kernel
theorem dX3_isOpenTo_36 : decode cX3_isOpenTo 36 = .ok (.iaload, 1) := by decide +kernel
theorem dX3_isOpenTo_37 : decode cX3_isOpenTo 37 = .ok (.if_icmp .eq 17, 3) := by decide +kernel
theorem dX3_isOpenTo_40 : decode cX3_isOpenTo 40 = .ok (.aload_n 0, 1) := by decide +kernel
theorem dX3_isOpenTo_41 : decode cX3_isOpenTo 41 = .ok (.getfield 29, 3) := by decide +kernel
theorem dX3_isOpenTo_44 : decode cX3_isOpenTo 44 = .ok (.getfield 37, 3) := by decide +kernel
theorem dX3_isOpenTo_47 : decode cX3_isOpenTo 47 = .ok (.iload_n 1, 1) := by decide +kernel
theorem dX3_isOpenTo_48 : decode cX3_isOpenTo 48 = .ok (.invokevirtual 86, 3) := by decide +kernel
theorem dX3_isOpenTo_51 : decode cX3_isOpenTo 51 = .ok (.ifCond .eq 7, 3) := by decide +kernel
theorem dX3_isOpenTo_54 : decode cX3_isOpenTo 54 = .ok (.iconst 1, 1) := by decide +kernel
theorem dX3_isOpenTo_55 : decode cX3_isOpenTo 55 = .ok (.goto 4, 3) := by decide +kernel
theorem dX3_isOpenTo_58 : decode cX3_isOpenTo 58 = .ok (.iconst 0, 1) := by decide +kernel
theorem dX3_isOpenTo_59 : decode cX3_isOpenTo 59 = .ok (.ireturn, 1) := by decide +kernel
theorem dX3_chooseOn_0 : decode cX3_chooseOn 0 = .ok (.aload_n 0, 1) := by decide +kernel
theorem dX3_chooseOn_1 : decode cX3_chooseOn 1 = .ok (.getfield 21, 3) := by decide +kernel
theorem dX3_chooseOn_4 : decode cX3_chooseOn 4 = .ok (.iload_n 1, 1) := by decide +kernel
theorem dX3_chooseOn_5 : decode cX3_chooseOn 5 = .ok (.invokevirtual 209, 3) := by decide +kernel
theorem dX3_chooseOn_8 : decode cX3_chooseOn 8 = .ok (.iconst 0, 1) := by decide +kernel
theorem dX3_chooseOn_9 : decode cX3_chooseOn 9 = .ok (.istore_n 3, 1) := by decide +kernel
theorem dX3_chooseOn_10 : decode cX3_chooseOn 10 = .ok (.iload_n 3, 1) := by decide +kernel
theorem dX3_chooseOn_11 : decode cX3_chooseOn 11 = .ok (.aload_n 0, 1) := by decide +kernel
theorem dX3_chooseOn_12 : decode cX3_chooseOn 12 = .ok (.getfield 12, 3) := by decide +kernel
theorem dX3_chooseOn_15 : decode cX3_chooseOn 15 = .ok (.getfield 212, 3) := by decide +kernel
theorem dX3_chooseOn_18 : decode cX3_chooseOn 18 = .ok (.iload_n 1, 1) := by decide +kernel
theorem dX3_chooseOn_19 : decode cX3_chooseOn 19 = .ok (.iaload, 1) := by decide +kernel
theorem dX3_chooseOn_20 : decode cX3_chooseOn 20 = .ok (.if_icmp .ge 23, 3) := by decide +kernel
theorem dX3_chooseOn_23 : decode cX3_chooseOn 23 = .ok (.aload_n 0, 1) := by decide +kernel
theorem dX3_chooseOn_24 : decode cX3_chooseOn 24 = .ok (.aload_n 0, 1) := by decide +kernel
theorem dX3_chooseOn_25 : decode cX3_chooseOn 25 = .ok (.getfield 12, 3) := by decide +kernel
theorem dX3_chooseOn_28 : decode cX3_chooseOn 28 = .ok (.iload_n 1, 1) := by decide +kernel
theorem dX3_chooseOn_29 : decode cX3_chooseOn 29 = .ok (.iload_n 3, 1) := by decide +kernel
theorem dX3_chooseOn_30 : decode cX3_chooseOn 30 = .ok (.invokevirtual 215, 3) := by decide +kernel
theorem dX3_chooseOn_33 : decode cX3_chooseOn 33 = .ok (.iload_n 2, 1) := by decide +kernel
theorem dX3_chooseOn_34 : decode cX3_chooseOn 34 = .ok (.invokevirtual 218, 3) := by decide +kernel
theorem dX3_chooseOn_37 : decode cX3_chooseOn 37 = .ok (.iinc 3 1, 3) := by decide +kernel
theorem dX3_chooseOn_40 : decode cX3_chooseOn 40 = .ok (.goto (-30), 3) := by decide +kernel
theorem dX3_chooseOn_43 : decode cX3_chooseOn 43 = .ok (.aload_n 0, 1) := by decide +kernel
theorem dX3_chooseOn_44 : decode cX3_chooseOn 44 = .ok (.getfield 21, 3) := by decide +kernel
theorem dX3_chooseOn_47 : decode cX3_chooseOn 47 = .ok (.getfield 221, 3) := by decide +kernel
theorem dX3_chooseOn_50 : decode cX3_chooseOn 50 = .ok (.ireturn, 1) := by decide +kernel
theorem dX3_chooseOnNewPage_0 : decode cX3_chooseOnNewPage 0 = .ok (.aload_n 0, 1) := by decide +kernel
theorem dX3_chooseOnNewPage_1 : decode cX3_chooseOnNewPage 1 = .ok (.getfield 21, 3) := by decide +kernel
theorem dX3_chooseOnNewPage_4 : decode cX3_chooseOnNewPage 4 = .ok (.aload_n 0, 1) := by decide +kernel
theorem dX3_chooseOnNewPage_5 : decode cX3_chooseOnNewPage 5 = .ok (.getfield 29, 3) := by decide +kernel
theorem dX3_chooseOnNewPage_8 : decode cX3_chooseOnNewPage 8 = .ok (.getfield 37, 3) := by decide +kernel
theorem dX3_chooseOnNewPage_11 : decode cX3_chooseOnNewPage 11 = .ok (.getfield 60, 3) := by decide +kernel
theorem dX3_chooseOnNewPage_14 : decode cX3_chooseOnNewPage 14 = .ok (.invokevirtual 209, 3) := by decide +kernel
theorem dX3_chooseOnNewPage_17 : decode cX3_chooseOnNewPage 17 = .ok (.aload_n 0, 1) := by decide +kernel
theorem dX3_chooseOnNewPage_18 : decode cX3_chooseOnNewPage 18 = .ok (.getfield 29, 3) := by decide +kernel
theorem dX3_chooseOnNewPage_21 : decode cX3_chooseOnNewPage 21 = .ok (.getfield 71, 3) := by decide +kernel
theorem dX3_chooseOnNewPage_24 : decode cX3_chooseOnNewPage 24 = .ok (.invokevirtual 224, 3) := by decide +kernel
theorem dX3_chooseOnNewPage_27 : decode cX3_chooseOnNewPage 27 = .ok (.ifCond .le 33, 3) := by decide +kernel
theorem dX3_chooseOnNewPage_30 : decode cX3_chooseOnNewPage 30 = .ok (.aload_n 0, 1) := by decide +kernel
theorem dX3_chooseOnNewPage_31 : decode cX3_chooseOnNewPage 31 = .ok (.iconst 0, 1) := by decide +kernel
theorem dX3_chooseOnNewPage_32 : decode cX3_chooseOnNewPage 32 = .ok (.iconst 0, 1) := by decide +kernel
theorem dX3_chooseOnNewPage_33 : decode cX3_chooseOnNewPage 33 = .ok (.aload_n 0, 1) := by decide +kernel
theorem dX3_chooseOnNewPage_34 : decode cX3_chooseOnNewPage 34 = .ok (.getfield 29, 3) := by decide +kernel
theorem dX3_chooseOnNewPage_37 : decode cX3_chooseOnNewPage 37 = .ok (.getfield 71, 3) := by decide +kernel
theorem dX3_chooseOnNewPage_40 : decode cX3_chooseOnNewPage 40 = .ok (.invokevirtual 132, 3) := by decide +kernel
theorem dX3_chooseOnNewPage_43 : decode cX3_chooseOnNewPage 43 = .ok (.aload_n 0, 1) := by decide +kernel
theorem dX3_chooseOnNewPage_44 : decode cX3_chooseOnNewPage 44 = .ok (.getfield 29, 3) := by decide +kernel
theorem dX3_chooseOnNewPage_47 : decode cX3_chooseOnNewPage 47 = .ok (.getfield 71, 3) := by decide +kernel
theorem dX3_chooseOnNewPage_50 : decode cX3_chooseOnNewPage 50 = .ok (.invokevirtual 135, 3) := by decide +kernel
theorem dX3_chooseOnNewPage_53 : decode cX3_chooseOnNewPage 53 = .ok (.invokestatic 227, 3) := by decide +kernel
theorem dX3_chooseOnNewPage_56 : decode cX3_chooseOnNewPage 56 = .ok (.iload_n 1, 1) := by decide +kernel
theorem dX3_chooseOnNewPage_57 : decode cX3_chooseOnNewPage 57 = .ok (.invokevirtual 218, 3) := by decide +kernel
theorem dX3_chooseOnNewPage_60 : decode cX3_chooseOnNewPage 60 = .ok (.aload_n 0, 1) := by decide +kernel
theorem dX3_chooseOnNewPage_61 : decode cX3_chooseOnNewPage 61 = .ok (.getfield 21, 3) := by decide +kernel
theorem dX3_chooseOnNewPage_64 : decode cX3_chooseOnNewPage 64 = .ok (.getfield 221, 3) := by decide +kernel
theorem dX3_chooseOnNewPage_67 : decode cX3_chooseOnNewPage 67 = .ok (.ireturn, 1) := by decide +kernel
theorem dX3_offerBoth_0 : decode cX3_offerBoth 0 = .ok (.aload_n 0, 1) := by decide +kernel
theorem dX3_offerBoth_1 : decode cX3_offerBoth 1 = .ok (.iload_n 1, 1) := by decide +kernel
theorem dX3_offerBoth_2 : decode cX3_offerBoth 2 = .ok (.iload_n 2, 1) := by decide +kernel
theorem dX3_offerBoth_3 : decode cX3_offerBoth 3 = .ok (.iconst 0, 1) := by decide +kernel
theorem dX3_offerBoth_4 : decode cX3_offerBoth 4 = .ok (.invokevirtual 231, 3) := by decide +kernel
theorem dX3_offerBoth_7 : decode cX3_offerBoth 7 = .ok (.aload_n 0, 1) := by decide +kernel
theorem dX3_offerBoth_8 : decode cX3_offerBoth 8 = .ok (.getfield 29, 3) := by decide +kernel
theorem dX3_offerBoth_11 : decode cX3_offerBoth 11 = .ok (.getfield 71, 3) := by decide +kernel
theorem dX3_offerBoth_14 : decode cX3_offerBoth 14 = .ok (.getfield 235, 3) := by decide +kernel
theorem dX3_offerBoth_17 : decode cX3_offerBoth 17 = .ok (.ifCond .eq 10, 3) := by decide +kernel
theorem dX3_offerBoth_20 : decode cX3_offerBoth 20 = .ok (.aload_n 0, 1) := by decide +kernel
theorem dX3_offerBoth_21 : decode cX3_offerBoth 21 = .ok (.iload_n 1, 1) := by decide +kernel
theorem dX3_offerBoth_22 : decode cX3_offerBoth 22 = .ok (.iload_n 2, 1) := by decide +kernel
theorem dX3_offerBoth_23 : decode cX3_offerBoth 23 = .ok (.iconst 1, 1) := by decide +kernel
theorem dX3_offerBoth_24 : decode cX3_offerBoth 24 = .ok (.invokevirtual 231, 3) := by decide +kernel
theorem dX3_offerBoth_27 : decode cX3_offerBoth 27 = .ok (.return_, 1) := by decide +kernel
theorem dX3_offer_0 : decode cX3_offer 0 = .ok (.aload_n 0, 1) := by decide +kernel
theorem dX3_offer_1 : decode cX3_offer 1 = .ok (.iload_n 2, 1) := by decide +kernel
theorem dX3_offer_2 : decode cX3_offer 2 = .ok (.iload_n 3, 1) := by decide +kernel
theorem dX3_offer_3 : decode cX3_offer 3 = .ok (.invokevirtual 145, 3) := by decide +kernel
theorem dX3_offer_6 : decode cX3_offer 6 = .ok (.istore 4, 2) := by decide +kernel
theorem dX3_offer_8 : decode cX3_offer 8 = .ok (.aload_n 0, 1) := by decide +kernel
theorem dX3_offer_9 : decode cX3_offer 9 = .ok (.iload_n 2, 1) := by decide +kernel
theorem dX3_offer_10 : decode cX3_offer 10 = .ok (.iload_n 3, 1) := by decide +kernel
theorem dX3_offer_11 : decode cX3_offer 11 = .ok (.invokevirtual 149, 3) := by decide +kernel
theorem dX3_offer_14 : decode cX3_offer 14 = .ok (.istore 5, 2) := by decide +kernel
theorem dX3_offer_16 : decode cX3_offer 16 = .ok (.iload_n 1, 1) := by decide +kernel
theorem dX3_offer_17 : decode cX3_offer 17 = .ok (.invokestatic 238, 3) := by decide +kernel
theorem dX3_offer_20 : decode cX3_offer 20 = .ok (.iload 4, 2) := by decide +kernel
theorem dX3_offer_22 : decode cX3_offer 22 = .ok (.isub, 1) := by decide +kernel
theorem dX3_offer_23 : decode cX3_offer 23 = .ok (.istore 6, 2) := by decide +kernel
theorem dX3_offer_25 : decode cX3_offer 25 = .ok (.iload_n 1, 1) := by decide +kernel
theorem dX3_offer_26 : decode cX3_offer 26 = .ok (.invokestatic 241, 3) := by decide +kernel
theorem dX3_offer_29 : decode cX3_offer 29 = .ok (.iload 5, 2) := by decide +kernel
theorem dX3_offer_31 : decode cX3_offer 31 = .ok (.isub, 1) := by decide +kernel
theorem dX3_offer_32 : decode cX3_offer 32 = .ok (.istore 7, 2) := by decide +kernel
theorem dX3_offer_34 : decode cX3_offer 34 = .ok (.iload 6, 2) := by decide +kernel
theorem dX3_offer_36 : decode cX3_offer 36 = .ok (.ifCond .lt 8, 3) := by decide +kernel
theorem dX3_offer_39 : decode cX3_offer 39 = .ok (.iload 7, 2) := by decide +kernel
theorem dX3_offer_41 : decode cX3_offer 41 = .ok (.ifCond .ge 4, 3) := by decide +kernel
theorem dX3_offer_44 : decode cX3_offer 44 = .ok (.return_, 1) := by decide +kernel
theorem dX3_offer_45 : decode cX3_offer 45 = .ok (.iload 6, 2) := by decide +kernel
theorem dX3_offer_47 : decode cX3_offer 47 = .ok (.iload 7, 2) := by decide +kernel
theorem dX3_offer_49 : decode cX3_offer 49 = .ok (.invokestatic 182, 3) := by decide +kernel
theorem dX3_offer_52 : decode cX3_offer 52 = .ok (.istore 8, 2) := by decide +kernel
theorem dX3_offer_54 : decode cX3_offer 54 = .ok (.iload 6, 2) := by decide +kernel
theorem dX3_offer_56 : decode cX3_offer 56 = .ok (.iload 7, 2) := by decide +kernel
theorem dX3_offer_58 : decode cX3_offer 58 = .ok (.invokestatic 101, 3) := by decide +kernel
theorem dX3_offer_61 : decode cX3_offer 61 = .ok (.istore 9, 2) := by decide +kernel
theorem dX3_offer_63 : decode cX3_offer 63 = .ok (.aload_n 0, 1) := by decide +kernel
theorem dX3_offer_64 : decode cX3_offer 64 = .ok (.getfield 29, 3) := by decide +kernel
theorem dX3_offer_67 : decode cX3_offer 67 = .ok (.getfield 71, 3) := by decide +kernel
theorem dX3_offer_70 : decode cX3_offer 70 = .ok (.getfield 244, 3) := by decide +kernel
theorem dX3_offer_73 : decode cX3_offer 73 = .ok (.tableswitch 95 1 3 #[27, 43, 72], 27) := by decide +kernel
theorem dX3_offer_100 : decode cX3_offer 100 = .ok (.aload_n 0, 1) := by decide +kernel
theorem dX3_offer_101 : decode cX3_offer 101 = .ok (.getfield 21, 3) := by decide +kernel
theorem dX3_offer_104 : decode cX3_offer 104 = .ok (.iload_n 1, 1) := by decide +kernel
theorem dX3_offer_105 : decode cX3_offer 105 = .ok (.iload_n 3, 1) := by decide +kernel
theorem dX3_offer_106 : decode cX3_offer 106 = .ok (.iload 9, 2) := by decide +kernel
theorem dX3_offer_108 : decode cX3_offer 108 = .ok (.iload 8, 2) := by decide +kernel
theorem dX3_offer_110 : decode cX3_offer 110 = .ok (.invokevirtual 247, 3) := by decide +kernel
theorem dX3_offer_113 : decode cX3_offer 113 = .ok (.goto 68, 3) := by decide +kernel
theorem dX3_offer_116 : decode cX3_offer 116 = .ok (.aload_n 0, 1) := by decide +kernel
theorem dX3_offer_117 : decode cX3_offer 117 = .ok (.getfield 21, 3) := by decide +kernel
theorem dX3_offer_120 : decode cX3_offer 120 = .ok (.iload_n 1, 1) := by decide +kernel
theorem dX3_offer_121 : decode cX3_offer 121 = .ok (.iload_n 3, 1) := by decide +kernel
theorem dX3_offer_122 : decode cX3_offer 122 = .ok (.iload_n 1, 1) := by decide +kernel
theorem dX3_offer_123 : decode cX3_offer 123 = .ok (.invokestatic 238, 3) := by decide +kernel
theorem dX3_offer_126 : decode cX3_offer 126 = .ok (.iload_n 1, 1) := by decide +kernel
theorem dX3_offer_127 : decode cX3_offer 127 = .ok (.invokestatic 241, 3) := by decide +kernel
theorem dX3_offer_130 : decode cX3_offer 130 = .ok (.imul, 1) := by decide +kernel
theorem dX3_offer_131 : decode cX3_offer 131 = .ok (.iload 4, 2) := by decide +kernel
theorem dX3_offer_133 : decode cX3_offer 133 = .ok (.iload 5, 2) := by decide +kernel
theorem dX3_offer_135 : decode cX3_offer 135 = .ok (.imul, 1) := by decide +kernel
theorem dX3_offer_136 : decode cX3_offer 136 = .ok (.isub, 1) := by decide +kernel
theorem dX3_offer_137 : decode cX3_offer 137 = .ok (.iload 8, 2) := by decide +kernel
theorem dX3_offer_139 : decode cX3_offer 139 = .ok (.invokevirtual 247, 3) := by decide +kernel
theorem dX3_offer_142 : decode cX3_offer 142 = .ok (.goto 39, 3) := by decide +kernel
theorem dX3_offer_145 : decode cX3_offer 145 = .ok (.aload_n 0, 1) := by decide +kernel
theorem dX3_offer_146 : decode cX3_offer 146 = .ok (.getfield 21, 3) := by decide +kernel
theorem dX3_offer_149 : decode cX3_offer 149 = .ok (.iload_n 1, 1) := by decide +kernel
theorem dX3_offer_150 : decode cX3_offer 150 = .ok (.iload_n 3, 1) := by decide +kernel
theorem dX3_offer_151 : decode cX3_offer 151 = .ok (.iload_n 1, 1) := by decide +kernel
theorem dX3_offer_152 : decode cX3_offer 152 = .ok (.invokestatic 250, 3) := by decide +kernel
theorem dX3_offer_155 : decode cX3_offer 155 = .ok (.iload 5, 2) := by decide +kernel
theorem dX3_offer_157 : decode cX3_offer 157 = .ok (.iadd, 1) := by decide +kernel
theorem dX3_offer_158 : decode cX3_offer 158 = .ok (.iload_n 1, 1) := by decide +kernel
theorem dX3_offer_159 : decode cX3_offer 159 = .ok (.invokestatic 253, 3) := by decide +kernel
theorem dX3_offer_162 : decode cX3_offer 162 = .ok (.invokevirtual 247, 3) := by decide +kernel
theorem dX3_offer_165 : decode cX3_offer 165 = .ok (.goto 16, 3) := by decide +kernel
theorem dX3_offer_168 : decode cX3_offer 168 = .ok (.aload_n 0, 1) := by decide +kernel
theorem dX3_offer_169 : decode cX3_offer 169 = .ok (.getfield 21, 3) := by decide +kernel
theorem dX3_offer_172 : decode cX3_offer 172 = .ok (.iload_n 1, 1) := by decide +kernel
theorem dX3_offer_173 : decode cX3_offer 173 = .ok (.iload_n 3, 1) := by decide +kernel
theorem dX3_offer_174 : decode cX3_offer 174 = .ok (.iload 8, 2) := by decide +kernel
theorem dX3_offer_176 : decode cX3_offer 176 = .ok (.iload 9, 2) := by decide +kernel
theorem dX3_offer_178 : decode cX3_offer 178 = .ok (.invokevirtual 247, 3) := by decide +kernel
theorem dX3_offer_181 : decode cX3_offer 181 = .ok (.return_, 1) := by decide +kernel
theorem dX3_imageWidth_0 : decode cX3_imageWidth 0 = .ok (.aload_n 0, 1) := by decide +kernel
theorem dX3_imageWidth_1 : decode cX3_imageWidth 1 = .ok (.getfield 29, 3) := by decide +kernel
theorem dX3_imageWidth_4 : decode cX3_imageWidth 4 = .ok (.getfield 37, 3) := by decide +kernel
theorem dX3_imageWidth_7 : decode cX3_imageWidth 7 = .ok (.getfield 122, 3) := by decide +kernel
theorem dX3_imageWidth_10 : decode cX3_imageWidth 10 = .ok (.iload_n 1, 1) := by decide +kernel
theorem dX3_imageWidth_11 : decode cX3_imageWidth 11 = .ok (.baload, 1) := by decide +kernel
theorem dX3_imageWidth_12 : decode cX3_imageWidth 12 = .ok (.ifCond .eq 15, 3) := by decide +kernel
theorem dX3_imageWidth_15 : decode cX3_imageWidth 15 = .ok (.aload_n 0, 1) := by decide +kernel
theorem dX3_imageWidth_16 : decode cX3_imageWidth 16 = .ok (.getfield 33, 3) := by decide +kernel
theorem dX3_imageWidth_19 : decode cX3_imageWidth 19 = .ok (.getfield 194, 3) := by decide +kernel
theorem dX3_imageWidth_22 : decode cX3_imageWidth 22 = .ok (.iload_n 1, 1) := by decide +kernel
theorem dX3_imageWidth_23 : decode cX3_imageWidth 23 = .ok (.iaload, 1) := by decide +kernel
theorem dX3_imageWidth_24 : decode cX3_imageWidth 24 = .ok (.goto 12, 3) := by decide +kernel
theorem dX3_imageWidth_27 : decode cX3_imageWidth 27 = .ok (.aload_n 0, 1) := by decide +kernel
theorem dX3_imageWidth_28 : decode cX3_imageWidth 28 = .ok (.getfield 33, 3) := by decide +kernel
theorem dX3_imageWidth_31 : decode cX3_imageWidth 31 = .ok (.getfield 191, 3) := by decide +kernel
theorem dX3_imageWidth_34 : decode cX3_imageWidth 34 = .ok (.iload_n 1, 1) := by decide +kernel
theorem dX3_imageWidth_35 : decode cX3_imageWidth 35 = .ok (.iaload, 1) := by decide +kernel
theorem dX3_imageWidth_36 : decode cX3_imageWidth 36 = .ok (.ireturn, 1) := by decide +kernel
theorem dX3_imageHeight_0 : decode cX3_imageHeight 0 = .ok (.aload_n 0, 1) := by decide +kernel
theorem dX3_imageHeight_1 : decode cX3_imageHeight 1 = .ok (.getfield 29, 3) := by decide +kernel
theorem dX3_imageHeight_4 : decode cX3_imageHeight 4 = .ok (.getfield 37, 3) := by decide +kernel
theorem dX3_imageHeight_7 : decode cX3_imageHeight 7 = .ok (.getfield 122, 3) := by decide +kernel
theorem dX3_imageHeight_10 : decode cX3_imageHeight 10 = .ok (.iload_n 1, 1) := by decide +kernel
theorem dX3_imageHeight_11 : decode cX3_imageHeight 11 = .ok (.baload, 1) := by decide +kernel
theorem dX3_imageHeight_12 : decode cX3_imageHeight 12 = .ok (.ifCond .eq 15, 3) := by decide +kernel
theorem dX3_imageHeight_15 : decode cX3_imageHeight 15 = .ok (.aload_n 0, 1) := by decide +kernel
theorem dX3_imageHeight_16 : decode cX3_imageHeight 16 = .ok (.getfield 33, 3) := by decide +kernel
theorem dX3_imageHeight_19 : decode cX3_imageHeight 19 = .ok (.getfield 191, 3) := by decide +kernel
theorem dX3_imageHeight_22 : decode cX3_imageHeight 22 = .ok (.iload_n 1, 1) := by decide +kernel
theorem dX3_imageHeight_23 : decode cX3_imageHeight 23 = .ok (.iaload, 1) := by decide +kernel
theorem dX3_imageHeight_24 : decode cX3_imageHeight 24 = .ok (.goto 12, 3) := by decide +kernel
theorem dX3_imageHeight_27 : decode cX3_imageHeight 27 = .ok (.aload_n 0, 1) := by decide +kernel
theorem dX3_imageHeight_28 : decode cX3_imageHeight 28 = .ok (.getfield 33, 3) := by decide +kernel
theorem dX3_imageHeight_31 : decode cX3_imageHeight 31 = .ok (.getfield 194, 3) := by decide +kernel
theorem dX3_imageHeight_34 : decode cX3_imageHeight 34 = .ok (.iload_n 1, 1) := by decide +kernel
theorem dX3_imageHeight_35 : decode cX3_imageHeight 35 = .ok (.iaload, 1) := by decide +kernel
theorem dX3_imageHeight_36 : decode cX3_imageHeight 36 = .ok (.ireturn, 1) := by decide +kernel
theorem dX3_boxWidth_0 : decode cX3_boxWidth 0 = .ok (.iload_n 2, 1) := by decide +kernel
theorem dX3_boxWidth_1 : decode cX3_boxWidth 1 = .ok (.ifCond .eq 15, 3) := by decide +kernel
theorem dX3_boxWidth_4 : decode cX3_boxWidth 4 = .ok (.aload_n 0, 1) := by decide +kernel
theorem dX3_boxWidth_5 : decode cX3_boxWidth 5 = .ok (.getfield 33, 3) := by decide +kernel
theorem dX3_boxWidth_8 : decode cX3_boxWidth 8 = .ok (.getfield 194, 3) := by decide +kernel
theorem dX3_boxWidth_11 : decode cX3_boxWidth 11 = .ok (.iload_n 1, 1) := by decide +kernel
theorem dX3_boxWidth_12 : decode cX3_boxWidth 12 = .ok (.iaload, 1) := by decide +kernel
theorem dX3_boxWidth_13 : decode cX3_boxWidth 13 = .ok (.goto 12, 3) := by decide +kernel
theorem dX3_boxWidth_16 : decode cX3_boxWidth 16 = .ok (.aload_n 0, 1) := by decide +kernel
theorem dX3_boxWidth_17 : decode cX3_boxWidth 17 = .ok (.getfield 33, 3) := by decide +kernel
theorem dX3_boxWidth_20 : decode cX3_boxWidth 20 = .ok (.getfield 191, 3) := by decide +kernel
theorem dX3_boxWidth_23 : decode cX3_boxWidth 23 = .ok (.iload_n 1, 1) := by decide +kernel
theorem dX3_boxWidth_24 : decode cX3_boxWidth 24 = .ok (.iaload, 1) := by decide +kernel
theorem dX3_boxWidth_25 : decode cX3_boxWidth 25 = .ok (.aload_n 0, 1) := by decide +kernel
theorem dX3_boxWidth_26 : decode cX3_boxWidth 26 = .ok (.getfield 29, 3) := by decide +kernel
theorem dX3_boxWidth_29 : decode cX3_boxWidth 29 = .ok (.getfield 71, 3) := by decide +kernel
theorem dX3_boxWidth_32 : decode cX3_boxWidth 32 = .ok (.invokevirtual 256, 3) := by decide +kernel
theorem dX3_boxWidth_35 : decode cX3_boxWidth 35 = .ok (.iadd, 1) := by decide +kernel
theorem dX3_boxWidth_36 : decode cX3_boxWidth 36 = .ok (.ireturn, 1) := by decide +kernel
theorem dX3_boxHeight_0 : decode cX3_boxHeight 0 = .ok (.iload_n 2, 1) := by decide +kernel
theorem dX3_boxHeight_1 : decode cX3_boxHeight 1 = .ok (.ifCond .eq 15, 3) := by decide +kernel
theorem dX3_boxHeight_4 : decode cX3_boxHeight 4 = .ok (.aload_n 0, 1) := by decide +kernel
theorem dX3_boxHeight_5 : decode cX3_boxHeight 5 = .ok (.getfield 33, 3) := by decide +kernel
theorem dX3_boxHeight_8 : decode cX3_boxHeight 8 = .ok (.getfield 191, 3) := by decide +kernel
theorem dX3_boxHeight_11 : decode cX3_boxHeight 11 = .ok (.iload_n 1, 1) := by decide +kernel
theorem dX3_boxHeight_12 : decode cX3_boxHeight 12 = .ok (.iaload, 1) := by decide +kernel
theorem dX3_boxHeight_13 : decode cX3_boxHeight 13 = .ok (.goto 12, 3) := by decide +kernel
theorem dX3_boxHeight_16 : decode cX3_boxHeight 16 = .ok (.aload_n 0, 1) := by decide +kernel
theorem dX3_boxHeight_17 : decode cX3_boxHeight 17 = .ok (.getfield 33, 3) := by decide +kernel
theorem dX3_boxHeight_20 : decode cX3_boxHeight 20 = .ok (.getfield 194, 3) := by decide +kernel
theorem dX3_boxHeight_23 : decode cX3_boxHeight 23 = .ok (.iload_n 1, 1) := by decide +kernel
theorem dX3_boxHeight_24 : decode cX3_boxHeight 24 = .ok (.iaload, 1) := by decide +kernel
theorem dX3_boxHeight_25 : decode cX3_boxHeight 25 = .ok (.aload_n 0, 1) := by decide +kernel
theorem dX3_boxHeight_26 : decode cX3_boxHeight 26 = .ok (.getfield 29, 3) := by decide +kernel
theorem dX3_boxHeight_29 : decode cX3_boxHeight 29 = .ok (.getfield 71, 3) := by decide +kernel
theorem dX3_boxHeight_32 : decode cX3_boxHeight 32 = .ok (.invokevirtual 256, 3) := by decide +kernel
theorem dX3_boxHeight_35 : decode cX3_boxHeight 35 = .ok (.iadd, 1) := by decide +kernel
theorem dX3_boxHeight_36 : decode cX3_boxHeight 36 = .ok (.ireturn, 1) := by decide +kernel
theorem dX4_init_0 : decode cX4_init 0 = .ok (.aload_n 0, 1) := by decide +kernel
theorem dX4_init_1 : decode cX4_init 1 = .ok (.invokespecial 3, 3) := by decide +kernel
theorem dX4_init_4 : decode cX4_init 4 = .ok (.aload_n 0, 1) := by decide +kernel
theorem dX4_init_5 : decode cX4_init 5 = .ok (.iconst 4, 1) := by decide +kernel
theorem dX4_init_6 : decode cX4_init 6 = .ok (.newarray .int, 2) := by decide +kernel
theorem dX4_init_8 : decode cX4_init 8 = .ok (.putfield 9, 3) := by decide +kernel
theorem dX4_init_11 : decode cX4_init 11 = .ok (.aload_n 0, 1) := by decide +kernel
theorem dX4_init_12 : decode cX4_init 12 = .ok (.bipush 24, 2) := by decide +kernel
theorem dX4_init_14 : decode cX4_init 14 = .ok (.newarray .int, 2) := by decide +kernel
theorem dX4_init_16 : decode cX4_init 16 = .ok (.putfield 15, 3) := by decide +kernel
theorem dX4_init_19 : decode cX4_init 19 = .ok (.aload_n 0, 1) := by decide +kernel
theorem dX4_init_20 : decode cX4_init 20 = .ok (.bipush 24, 2) := by decide +kernel
theorem dX4_init_22 : decode cX4_init 22 = .ok (.newarray .int, 2) := by decide +kernel
theorem dX4_init_24 : decode cX4_init 24 = .ok (.putfield 18, 3) := by decide +kernel
theorem dX4_init_27 : decode cX4_init 27 = .ok (.aload_n 0, 1) := by decide +kernel
theorem dX4_init_28 : decode cX4_init 28 = .ok (.bipush 24, 2) := by decide +kernel
theorem dX4_init_30 : decode cX4_init 30 = .ok (.newarray .int, 2) := by decide +kernel
theorem dX4_init_32 : decode cX4_init 32 = .ok (.putfield 21, 3) := by decide +kernel
theorem dX4_init_35 : decode cX4_init 35 = .ok (.aload_n 0, 1) := by decide +kernel
theorem dX4_init_36 : decode cX4_init 36 = .ok (.bipush 24, 2) := by decide +kernel
theorem dX4_init_38 : decode cX4_init 38 = .ok (.newarray .boolean, 2) := by decide +kernel
theorem dX4_init_40 : decode cX4_init 40 = .ok (.putfield 24, 3) := by decide +kernel
theorem dX4_init_43 : decode cX4_init 43 = .ok (.aload_n 0, 1) := by decide +kernel
theorem dX4_init_44 : decode cX4_init 44 = .ok (.getfield 15, 3) := by decide +kernel
theorem dX4_init_47 : decode cX4_init 47 = .ok (.bipush (-4), 2) := by decide +kernel
theorem dX4_init_49 : decode cX4_init 49 = .ok (.invokestatic 28, 3) := by decide +kernel
theorem dX4_init_52 : decode cX4_init 52 = .ok (.return_, 1) := by decide +kernel
theorem dX4_removeAll_0 : decode cX4_removeAll 0 = .ok (.aload_n 0, 1) := by decide +kernel
theorem dX4_removeAll_1 : decode cX4_removeAll 1 = .ok (.iconst 0, 1) := by decide +kernel
theorem dX4_removeAll_2 : decode cX4_removeAll 2 = .ok (.putfield 34, 3) := by decide +kernel
theorem dX4_removeAll_5 : decode cX4_removeAll 5 = .ok (.aload_n 0, 1) := by decide +kernel
theorem dX4_removeAll_6 : decode cX4_removeAll 6 = .ok (.getfield 15, 3) := by decide +kernel
theorem dX4_removeAll_9 : decode cX4_removeAll 9 = .ok (.bipush (-4), 2) := by decide +kernel
theorem dX4_removeAll_11 : decode cX4_removeAll 11 = .ok (.invokestatic 28, 3) := by decide +kernel
theorem dX4_removeAll_14 : decode cX4_removeAll 14 = .ok (.return_, 1) := by decide +kernel
theorem dX4_isEmptyPage_0 : decode cX4_isEmptyPage 0 = .ok (.iconst 0, 1) := by decide +kernel
theorem dX4_isEmptyPage_1 : decode cX4_isEmptyPage 1 = .ok (.istore_n 2, 1) := by decide +kernel
theorem dX4_isEmptyPage_2 : decode cX4_isEmptyPage 2 = .ok (.iload_n 2, 1) := by decide +kernel
theorem dX4_isEmptyPage_3 : decode cX4_isEmptyPage 3 = .ok (.bipush 24, 2) := by decide +kernel
theorem dX4_isEmptyPage_5 : decode cX4_isEmptyPage 5 = .ok (.if_icmp .ge 21, 3) := by decide +kernel
theorem dX4_isEmptyPage_8 : decode cX4_isEmptyPage 8 = .ok (.aload_n 0, 1) := by decide +kernel
theorem dX4_isEmptyPage_9 : decode cX4_isEmptyPage 9 = .ok (.getfield 15, 3) := by decide +kernel
theorem dX4_isEmptyPage_12 : decode cX4_isEmptyPage 12 = .ok (.iload_n 2, 1) := by decide +kernel
theorem dX4_isEmptyPage_13 : decode cX4_isEmptyPage 13 = .ok (.iaload, 1) := by decide +kernel
theorem dX4_isEmptyPage_14 : decode cX4_isEmptyPage 14 = .ok (.iload_n 1, 1) := by decide +kernel
theorem dX4_isEmptyPage_15 : decode cX4_isEmptyPage 15 = .ok (.if_icmp .ne 5, 3) := by decide +kernel
theorem dX4_isEmptyPage_18 : decode cX4_isEmptyPage 18 = .ok (.iconst 0, 1) := by decide +kernel
theorem dX4_isEmptyPage_19 : decode cX4_isEmptyPage 19 = .ok (.ireturn, 1) := by decide +kernel
theorem dX4_isEmptyPage_20 : decode cX4_isEmptyPage 20 = .ok (.iinc 2 1, 3) := by decide +kernel
theorem dX4_isEmptyPage_23 : decode cX4_isEmptyPage 23 = .ok (.goto (-21), 3) := by decide +kernel
theorem dX4_isEmptyPage_26 : decode cX4_isEmptyPage 26 = .ok (.iconst 1, 1) := by decide +kernel
theorem dX4_isEmptyPage_27 : decode cX4_isEmptyPage 27 = .ok (.ireturn, 1) := by decide +kernel
theorem dX4_copyFrom_0 : decode cX4_copyFrom 0 = .ok (.aload_n 0, 1) := by decide +kernel
theorem dX4_copyFrom_1 : decode cX4_copyFrom 1 = .ok (.aload_n 1, 1) := by decide +kernel
theorem dX4_copyFrom_2 : decode cX4_copyFrom 2 = .ok (.getfield 34, 3) := by decide +kernel
theorem dX4_copyFrom_5 : decode cX4_copyFrom 5 = .ok (.putfield 34, 3) := by decide +kernel
theorem dX4_copyFrom_8 : decode cX4_copyFrom 8 = .ok (.aload_n 1, 1) := by decide +kernel
theorem dX4_copyFrom_9 : decode cX4_copyFrom 9 = .ok (.getfield 9, 3) := by decide +kernel
theorem dX4_copyFrom_12 : decode cX4_copyFrom 12 = .ok (.iconst 0, 1) := by decide +kernel
theorem dX4_copyFrom_13 : decode cX4_copyFrom 13 = .ok (.aload_n 0, 1) := by decide +kernel
theorem dX4_copyFrom_14 : decode cX4_copyFrom 14 = .ok (.getfield 9, 3) := by decide +kernel
theorem dX4_copyFrom_17 : decode cX4_copyFrom 17 = .ok (.iconst 0, 1) := by decide +kernel
theorem dX4_copyFrom_18 : decode cX4_copyFrom 18 = .ok (.iconst 4, 1) := by decide +kernel
theorem dX4_copyFrom_19 : decode cX4_copyFrom 19 = .ok (.invokestatic 38, 3) := by decide +kernel
theorem dX4_copyFrom_22 : decode cX4_copyFrom 22 = .ok (.aload_n 1, 1) := by decide +kernel
theorem dX4_copyFrom_23 : decode cX4_copyFrom 23 = .ok (.getfield 15, 3) := by decide +kernel
theorem dX4_copyFrom_26 : decode cX4_copyFrom 26 = .ok (.iconst 0, 1) := by decide +kernel
theorem dX4_copyFrom_27 : decode cX4_copyFrom 27 = .ok (.aload_n 0, 1) := by decide +kernel
theorem dX4_copyFrom_28 : decode cX4_copyFrom 28 = .ok (.getfield 15, 3) := by decide +kernel
theorem dX4_copyFrom_31 : decode cX4_copyFrom 31 = .ok (.iconst 0, 1) := by decide +kernel
theorem dX4_copyFrom_32 : decode cX4_copyFrom 32 = .ok (.bipush 24, 2) := by decide +kernel
theorem dX4_copyFrom_34 : decode cX4_copyFrom 34 = .ok (.invokestatic 38, 3) := by decide +kernel
theorem dX4_copyFrom_37 : decode cX4_copyFrom 37 = .ok (.aload_n 1, 1) := by decide +kernel
theorem dX4_copyFrom_38 : decode cX4_copyFrom 38 = .ok (.getfield 18, 3) := by decide +kernel
theorem dX4_copyFrom_41 : decode cX4_copyFrom 41 = .ok (.iconst 0, 1) := by decide +kernel
theorem dX4_copyFrom_42 : decode cX4_copyFrom 42 = .ok (.aload_n 0, 1) := by decide +kernel
theorem dX4_copyFrom_43 : decode cX4_copyFrom 43 = .ok (.getfield 18, 3) := by decide +kernel
theorem dX4_copyFrom_46 : decode cX4_copyFrom 46 = .ok (.iconst 0, 1) := by decide +kernel
theorem dX4_copyFrom_47 : decode cX4_copyFrom 47 = .ok (.bipush 24, 2) := by decide +kernel
theorem dX4_copyFrom_49 : decode cX4_copyFrom 49 = .ok (.invokestatic 38, 3) := by decide +kernel
theorem dX4_copyFrom_52 : decode cX4_copyFrom 52 = .ok (.aload_n 1, 1) := by decide +kernel
theorem dX4_copyFrom_53 : decode cX4_copyFrom 53 = .ok (.getfield 21, 3) := by decide +kernel
theorem dX4_copyFrom_56 : decode cX4_copyFrom 56 = .ok (.iconst 0, 1) := by decide +kernel
theorem dX4_copyFrom_57 : decode cX4_copyFrom 57 = .ok (.aload_n 0, 1) := by decide +kernel
theorem dX4_copyFrom_58 : decode cX4_copyFrom 58 = .ok (.getfield 21, 3) := by decide +kernel
theorem dX4_copyFrom_61 : decode cX4_copyFrom 61 = .ok (.iconst 0, 1) := by decide +kernel
theorem dX4_copyFrom_62 : decode cX4_copyFrom 62 = .ok (.bipush 24, 2) := by decide +kernel
theorem dX4_copyFrom_64 : decode cX4_copyFrom 64 = .ok (.invokestatic 38, 3) := by decide +kernel
theorem dX4_copyFrom_67 : decode cX4_copyFrom 67 = .ok (.aload_n 1, 1) := by decide +kernel
theorem dX4_copyFrom_68 : decode cX4_copyFrom 68 = .ok (.getfield 24, 3) := by decide +kernel
theorem dX4_copyFrom_71 : decode cX4_copyFrom 71 = .ok (.iconst 0, 1) := by decide +kernel
theorem dX4_copyFrom_72 : decode cX4_copyFrom 72 = .ok (.aload_n 0, 1) := by decide +kernel
theorem dX4_copyFrom_73 : decode cX4_copyFrom 73 = .ok (.getfield 24, 3) := by decide +kernel
theorem dX4_copyFrom_76 : decode cX4_copyFrom 76 = .ok (.iconst 0, 1) := by decide +kernel
theorem dX4_copyFrom_77 : decode cX4_copyFrom 77 = .ok (.bipush 24, 2) := by decide +kernel
theorem dX4_copyFrom_79 : decode cX4_copyFrom 79 = .ok (.invokestatic 38, 3) := by decide +kernel
theorem dX4_copyFrom_82 : decode cX4_copyFrom 82 = .ok (.return_, 1) := by decide +kernel
theorem dX5_init_0 : decode cX5_init 0 = .ok (.aload_n 0, 1) := by decide +kernel
theorem dX5_init_1 : decode cX5_init 1 = .ok (.invokespecial 3, 3) := by decide +kernel
theorem dX5_init_4 : decode cX5_init 4 = .ok (.aload_n 0, 1) := by decide +kernel
theorem dX5_init_5 : decode cX5_init 5 = .ok (.bipush 16, 2) := by decide +kernel
theorem dX5_init_7 : decode cX5_init 7 = .ok (.putfield 9, 3) := by decide +kernel
theorem dX5_init_10 : decode cX5_init 10 = .ok (.aload_n 0, 1) := by decide +kernel
theorem dX5_init_11 : decode cX5_init 11 = .ok (.bipush 16, 2) := by decide +kernel
theorem dX5_init_13 : decode cX5_init 13 = .ok (.putfield 15, 3) := by decide +kernel
theorem dX5_init_16 : decode cX5_init 16 = .ok (.aload_n 0, 1) := by decide +kernel
theorem dX5_init_17 : decode cX5_init 17 = .ok (.iconst 2, 1) := by decide +kernel
theorem dX5_init_18 : decode cX5_init 18 = .ok (.putfield 18, 3) := by decide +kernel
theorem dX5_init_21 : decode cX5_init 21 = .ok (.aload_n 0, 1) := by decide +kernel
theorem dX5_init_22 : decode cX5_init 22 = .ok (.iconst 1, 1) := by decide +kernel
theorem dX5_init_23 : decode cX5_init 23 = .ok (.putfield 21, 3) := by decide +kernel
theorem dX5_init_26 : decode cX5_init 26 = .ok (.aload_n 0, 1) := by decide +kernel
theorem dX5_init_27 : decode cX5_init 27 = .ok (.iconst 1, 1) := by decide +kernel
theorem dX5_init_28 : decode cX5_init 28 = .ok (.putfield 25, 3) := by decide +kernel
theorem dX5_init_31 : decode cX5_init 31 = .ok (.aload_n 0, 1) := by decide +kernel
theorem dX5_init_32 : decode cX5_init 32 = .ok (.iconst 0, 1) := by decide +kernel
theorem dX5_init_33 : decode cX5_init 33 = .ok (.putfield 28, 3) := by decide +kernel
theorem dX5_init_36 : decode cX5_init 36 = .ok (.aload_n 0, 1) := by decide +kernel
theorem dX5_init_37 : decode cX5_init 37 = .ok (.iconst 0, 1) := by decide +kernel
theorem dX5_init_38 : decode cX5_init 38 = .ok (.putfield 31, 3) := by decide +kernel
theorem dX5_init_41 : decode cX5_init 41 = .ok (.return_, 1) := by decide +kernel
theorem dX5_fieldWidth_0 : decode cX5_fieldWidth 0 = .ok (.aload_n 0, 1) := by decide +kernel
theorem dX5_fieldWidth_1 : decode cX5_fieldWidth 1 = .ok (.getfield 9, 3) := by decide +kernel
theorem dX5_fieldWidth_4 : decode cX5_fieldWidth 4 = .ok (.iconst 2, 1) := by decide +kernel
theorem dX5_fieldWidth_5 : decode cX5_fieldWidth 5 = .ok (.aload_n 0, 1) := by decide +kernel
theorem dX5_fieldWidth_6 : decode cX5_fieldWidth 6 = .ok (.getfield 34, 3) := by decide +kernel
theorem dX5_fieldWidth_9 : decode cX5_fieldWidth 9 = .ok (.imul, 1) := by decide +kernel
theorem dX5_fieldWidth_10 : decode cX5_fieldWidth 10 = .ok (.isub, 1) := by decide +kernel
theorem dX5_fieldWidth_11 : decode cX5_fieldWidth 11 = .ok (.aload_n 0, 1) := by decide +kernel
theorem dX5_fieldWidth_12 : decode cX5_fieldWidth 12 = .ok (.getfield 37, 3) := by decide +kernel
theorem dX5_fieldWidth_15 : decode cX5_fieldWidth 15 = .ok (.iadd, 1) := by decide +kernel
theorem dX5_fieldWidth_16 : decode cX5_fieldWidth 16 = .ok (.ireturn, 1) := by decide +kernel
theorem dX5_fieldHeight_0 : decode cX5_fieldHeight 0 = .ok (.aload_n 0, 1) := by decide +kernel
theorem dX5_fieldHeight_1 : decode cX5_fieldHeight 1 = .ok (.getfield 15, 3) := by decide +kernel
theorem dX5_fieldHeight_4 : decode cX5_fieldHeight 4 = .ok (.iconst 2, 1) := by decide +kernel
theorem dX5_fieldHeight_5 : decode cX5_fieldHeight 5 = .ok (.aload_n 0, 1) := by decide +kernel
theorem dX5_fieldHeight_6 : decode cX5_fieldHeight 6 = .ok (.getfield 34, 3) := by decide +kernel
theorem dX5_fieldHeight_9 : decode cX5_fieldHeight 9 = .ok (.imul, 1) := by decide +kernel
theorem dX5_fieldHeight_10 : decode cX5_fieldHeight 10 = .ok (.isub, 1) := by decide +kernel
theorem dX5_fieldHeight_11 : decode cX5_fieldHeight 11 = .ok (.aload_n 0, 1) := by decide +kernel
theorem dX5_fieldHeight_12 : decode cX5_fieldHeight 12 = .ok (.getfield 37, 3) := by decide +kernel
theorem dX5_fieldHeight_15 : decode cX5_fieldHeight 15 = .ok (.iadd, 1) := by decide +kernel
theorem dX5_fieldHeight_16 : decode cX5_fieldHeight 16 = .ok (.ireturn, 1) := by decide +kernel
theorem dX5_fieldPositions_0 : decode cX5_fieldPositions 0 = .ok (.aload_n 0, 1) := by decide +kernel
theorem dX5_fieldPositions_1 : decode cX5_fieldPositions 1 = .ok (.invokevirtual 40, 3) := by decide +kernel
theorem dX5_fieldPositions_4 : decode cX5_fieldPositions 4 = .ok (.iconst 0, 1) := by decide +kernel
theorem dX5_fieldPositions_5 : decode cX5_fieldPositions 5 = .ok (.invokestatic 44, 3) := by decide +kernel
theorem dX5_fieldPositions_8 : decode cX5_fieldPositions 8 = .ok (.aload_n 0, 1) := by decide +kernel
theorem dX5_fieldPositions_9 : decode cX5_fieldPositions 9 = .ok (.invokevirtual 50, 3) := by decide +kernel
theorem dX5_fieldPositions_12 : decode cX5_fieldPositions 12 = .ok (.iconst 0, 1) := by decide +kernel
theorem dX5_fieldPositions_13 : decode cX5_fieldPositions 13 = .ok (.invokestatic 44, 3) := by decide +kernel
theorem dX5_fieldPositions_16 : decode cX5_fieldPositions 16 = .ok (.imul, 1) := by decide +kernel
theorem dX5_fieldPositions_17 : decode cX5_fieldPositions 17 = .ok (.ireturn, 1) := by decide +kernel
theorem dX5_boxGrowth_0 : decode cX5_boxGrowth 0 = .ok (.iconst 2, 1) := by decide +kernel
theorem dX5_boxGrowth_1 : decode cX5_boxGrowth 1 = .ok (.aload_n 0, 1) := by decide +kernel
theorem dX5_boxGrowth_2 : decode cX5_boxGrowth 2 = .ok (.getfield 53, 3) := by decide +kernel
theorem dX5_boxGrowth_5 : decode cX5_boxGrowth 5 = .ok (.imul, 1) := by decide +kernel
theorem dX5_boxGrowth_6 : decode cX5_boxGrowth 6 = .ok (.aload_n 0, 1) := by decide +kernel
theorem dX5_boxGrowth_7 : decode cX5_boxGrowth 7 = .ok (.getfield 37, 3) := by decide +kernel
theorem dX5_boxGrowth_10 : decode cX5_boxGrowth 10 = .ok (.iadd, 1) := by decide +kernel
theorem dX5_boxGrowth_11 : decode cX5_boxGrowth 11 = .ok (.ireturn, 1) := by decide +kernel
theorem dX5_matchedOrientations_0 : decode cX5_matchedOrientations 0 = .ok (.aload_n 0, 1) := by decide +kernel
theorem dX5_matchedOrientations_1 : decode cX5_matchedOrientations 1 = .ok (.getfield 25, 3) := by decide +kernel
theorem dX5_matchedOrientations_4 : decode cX5_matchedOrientations 4 = .ok (.ifCond .ne 5, 3) := by decide +kernel
theorem dX5_matchedOrientations_7 : decode cX5_matchedOrientations 7 = .ok (.iconst 0, 1) := by decide +kernel
theorem dX5_matchedOrientations_8 : decode cX5_matchedOrientations 8 = .ok (.ireturn, 1) := by decide +kernel
theorem dX5_matchedOrientations_9 : decode cX5_matchedOrientations 9 = .ok (.aload_n 0, 1) := by decide +kernel
theorem dX5_matchedOrientations_10 : decode cX5_matchedOrientations 10 = .ok (.getfield 25, 3) := by decide +kernel
theorem dX5_matchedOrientations_13 : decode cX5_matchedOrientations 13 = .ok (.iconst 1, 1) := by decide +kernel
theorem dX5_matchedOrientations_14 : decode cX5_matchedOrientations 14 = .ok (.if_icmp .ne 5, 3) := by decide +kernel
theorem dX5_matchedOrientations_17 : decode cX5_matchedOrientations 17 = .ok (.iconst 1, 1) := by decide +kernel
theorem dX5_matchedOrientations_18 : decode cX5_matchedOrientations 18 = .ok (.ireturn, 1) := by decide +kernel
theorem dX5_matchedOrientations_19 : decode cX5_matchedOrientations 19 = .ok (.aload_n 0, 1) := by decide +kernel
theorem dX5_matchedOrientations_20 : decode cX5_matchedOrientations 20 = .ok (.getfield 25, 3) := by decide +kernel
theorem dX5_matchedOrientations_23 : decode cX5_matchedOrientations 23 = .ok (.iconst 2, 1) := by decide +kernel
theorem dX5_matchedOrientations_24 : decode cX5_matchedOrientations 24 = .ok (.if_icmp .ne 7, 3) := by decide +kernel
theorem dX5_matchedOrientations_27 : decode cX5_matchedOrientations 27 = .ok (.iconst 4, 1) := by decide +kernel
theorem dX5_matchedOrientations_28 : decode cX5_matchedOrientations 28 = .ok (.goto 5, 3) := by decide +kernel
theorem dX5_matchedOrientations_31 : decode cX5_matchedOrientations 31 = .ok (.bipush 8, 2) := by decide +kernel
theorem dX5_matchedOrientations_33 : decode cX5_matchedOrientations 33 = .ok (.ireturn, 1) := by decide +kernel
theorem dX5_copyFrom_0 : decode cX5_copyFrom 0 = .ok (.aload_n 0, 1) := by decide +kernel
theorem dX5_copyFrom_1 : decode cX5_copyFrom 1 = .ok (.aload_n 1, 1) := by decide +kernel
theorem dX5_copyFrom_2 : decode cX5_copyFrom 2 = .ok (.getfield 9, 3) := by decide +kernel
theorem dX5_copyFrom_5 : decode cX5_copyFrom 5 = .ok (.putfield 9, 3) := by decide +kernel
theorem dX5_copyFrom_8 : decode cX5_copyFrom 8 = .ok (.aload_n 0, 1) := by decide +kernel
theorem dX5_copyFrom_9 : decode cX5_copyFrom 9 = .ok (.aload_n 1, 1) := by decide +kernel
theorem dX5_copyFrom_10 : decode cX5_copyFrom 10 = .ok (.getfield 15, 3) := by decide +kernel
theorem dX5_copyFrom_13 : decode cX5_copyFrom 13 = .ok (.putfield 15, 3) := by decide +kernel
theorem dX5_copyFrom_16 : decode cX5_copyFrom 16 = .ok (.aload_n 0, 1) := by decide +kernel
theorem dX5_copyFrom_17 : decode cX5_copyFrom 17 = .ok (.aload_n 1, 1) := by decide +kernel
theorem dX5_copyFrom_18 : decode cX5_copyFrom 18 = .ok (.getfield 18, 3) := by decide +kernel
theorem dX5_copyFrom_21 : decode cX5_copyFrom 21 = .ok (.putfield 18, 3) := by decide +kernel
theorem dX5_copyFrom_24 : decode cX5_copyFrom 24 = .ok (.aload_n 0, 1) := by decide +kernel
theorem dX5_copyFrom_25 : decode cX5_copyFrom 25 = .ok (.aload_n 1, 1) := by decide +kernel
theorem dX5_copyFrom_26 : decode cX5_copyFrom 26 = .ok (.getfield 37, 3) := by decide +kernel
theorem dX5_copyFrom_29 : decode cX5_copyFrom 29 = .ok (.putfield 37, 3) := by decide +kernel
theorem dX5_copyFrom_32 : decode cX5_copyFrom 32 = .ok (.aload_n 0, 1) := by decide +kernel
theorem dX5_copyFrom_33 : decode cX5_copyFrom 33 = .ok (.aload_n 1, 1) := by decide +kernel
theorem dX5_copyFrom_34 : decode cX5_copyFrom 34 = .ok (.getfield 34, 3) := by decide +kernel
theorem dX5_copyFrom_37 : decode cX5_copyFrom 37 = .ok (.putfield 34, 3) := by decide +kernel
theorem dX5_copyFrom_40 : decode cX5_copyFrom 40 = .ok (.aload_n 0, 1) := by decide +kernel
theorem dX5_copyFrom_41 : decode cX5_copyFrom 41 = .ok (.aload_n 1, 1) := by decide +kernel
theorem dX5_copyFrom_42 : decode cX5_copyFrom 42 = .ok (.getfield 53, 3) := by decide +kernel
theorem dX5_copyFrom_45 : decode cX5_copyFrom 45 = .ok (.putfield 53, 3) := by decide +kernel
theorem dX5_copyFrom_48 : decode cX5_copyFrom 48 = .ok (.aload_n 0, 1) := by decide +kernel
theorem dX5_copyFrom_49 : decode cX5_copyFrom 49 = .ok (.aload_n 1, 1) := by decide +kernel
theorem dX5_copyFrom_50 : decode cX5_copyFrom 50 = .ok (.getfield 21, 3) := by decide +kernel
theorem dX5_copyFrom_53 : decode cX5_copyFrom 53 = .ok (.putfield 21, 3) := by decide +kernel
theorem dX5_copyFrom_56 : decode cX5_copyFrom 56 = .ok (.aload_n 0, 1) := by decide +kernel
theorem dX5_copyFrom_57 : decode cX5_copyFrom 57 = .ok (.aload_n 1, 1) := by decide +kernel
theorem dX5_copyFrom_58 : decode cX5_copyFrom 58 = .ok (.getfield 25, 3) := by decide +kernel
theorem dX5_copyFrom_61 : decode cX5_copyFrom 61 = .ok (.putfield 25, 3) := by decide +kernel
theorem dX5_copyFrom_64 : decode cX5_copyFrom 64 = .ok (.aload_n 0, 1) := by decide +kernel
theorem dX5_copyFrom_65 : decode cX5_copyFrom 65 = .ok (.aload_n 1, 1) := by decide +kernel
theorem dX5_copyFrom_66 : decode cX5_copyFrom 66 = .ok (.getfield 56, 3) := by decide +kernel
theorem dX5_copyFrom_69 : decode cX5_copyFrom 69 = .ok (.putfield 56, 3) := by decide +kernel
theorem dX5_copyFrom_72 : decode cX5_copyFrom 72 = .ok (.aload_n 0, 1) := by decide +kernel
theorem dX5_copyFrom_73 : decode cX5_copyFrom 73 = .ok (.aload_n 1, 1) := by decide +kernel
theorem dX5_copyFrom_74 : decode cX5_copyFrom 74 = .ok (.getfield 59, 3) := by decide +kernel
theorem dX5_copyFrom_77 : decode cX5_copyFrom 77 = .ok (.putfield 59, 3) := by decide +kernel
theorem dX5_copyFrom_80 : decode cX5_copyFrom 80 = .ok (.aload_n 0, 1) := by decide +kernel
theorem dX5_copyFrom_81 : decode cX5_copyFrom 81 = .ok (.aload_n 1, 1) := by decide +kernel
theorem dX5_copyFrom_82 : decode cX5_copyFrom 82 = .ok (.getfield 28, 3) := by decide +kernel
theorem dX5_copyFrom_85 : decode cX5_copyFrom 85 = .ok (.putfield 28, 3) := by decide +kernel
theorem dX5_copyFrom_88 : decode cX5_copyFrom 88 = .ok (.aload_n 0, 1) := by decide +kernel
theorem dX5_copyFrom_89 : decode cX5_copyFrom 89 = .ok (.aload_n 1, 1) := by decide +kernel
theorem dX5_copyFrom_90 : decode cX5_copyFrom 90 = .ok (.getfield 31, 3) := by decide +kernel
theorem dX5_copyFrom_93 : decode cX5_copyFrom 93 = .ok (.putfield 31, 3) := by decide +kernel
theorem dX5_copyFrom_96 : decode cX5_copyFrom 96 = .ok (.return_, 1) := by decide +kernel
theorem dX6_init_0 : decode cX6_init 0 = .ok (.aload_n 0, 1) := by decide +kernel
theorem dX6_init_1 : decode cX6_init 1 = .ok (.invokespecial 3, 3) := by decide +kernel
theorem dX6_init_4 : decode cX6_init 4 = .ok (.aload_n 0, 1) := by decide +kernel
theorem dX6_init_5 : decode cX6_init 5 = .ok (.bipush 24, 2) := by decide +kernel
theorem dX6_init_7 : decode cX6_init 7 = .ok (.newarray .int, 2) := by decide +kernel
theorem dX6_init_9 : decode cX6_init 9 = .ok (.putfield 9, 3) := by decide +kernel
theorem dX6_init_12 : decode cX6_init 12 = .ok (.aload_n 0, 1) := by decide +kernel
theorem dX6_init_13 : decode cX6_init 13 = .ok (.bipush 24, 2) := by decide +kernel
theorem dX6_init_15 : decode cX6_init 15 = .ok (.newarray .int, 2) := by decide +kernel
theorem dX6_init_17 : decode cX6_init 17 = .ok (.putfield 15, 3) := by decide +kernel
theorem dX6_init_20 : decode cX6_init 20 = .ok (.aload_n 0, 1) := by decide +kernel
theorem dX6_init_21 : decode cX6_init 21 = .ok (.bipush 24, 2) := by decide +kernel
theorem dX6_init_23 : decode cX6_init 23 = .ok (.newarray .int, 2) := by decide +kernel
theorem dX6_init_25 : decode cX6_init 25 = .ok (.putfield 18, 3) := by decide +kernel
theorem dX6_init_28 : decode cX6_init 28 = .ok (.aload_n 0, 1) := by decide +kernel
theorem dX6_init_29 : decode cX6_init 29 = .ok (.sipush 192, 3) := by decide +kernel
theorem dX6_init_32 : decode cX6_init 32 = .ok (.newarray .int, 2) := by decide +kernel
theorem dX6_init_34 : decode cX6_init 34 = .ok (.putfield 21, 3) := by decide +kernel
theorem dX6_init_37 : decode cX6_init 37 = .ok (.return_, 1) := by decide +kernel
theorem dX6_has_0 : decode cX6_has 0 = .ok (.iload_n 1, 1) := by decide +kernel
theorem dX6_has_1 : decode cX6_has 1 = .ok (.ifCond .lt 15, 3) := by decide +kernel
theorem dX6_has_4 : decode cX6_has 4 = .ok (.iload_n 1, 1) := by decide +kernel
theorem dX6_has_5 : decode cX6_has 5 = .ok (.aload_n 0, 1) := by decide +kernel
theorem dX6_has_6 : decode cX6_has 6 = .ok (.getfield 24, 3) := by decide +kernel
theorem dX6_has_9 : decode cX6_has 9 = .ok (.if_icmp .ge 7, 3) := by decide +kernel
theorem dX6_has_12 : decode cX6_has 12 = .ok (.iconst 1, 1) := by decide +kernel
theorem dX6_has_13 : decode cX6_has 13 = .ok (.goto 4, 3) := by decide +kernel
theorem dX6_has_16 : decode cX6_has 16 = .ok (.iconst 0, 1) := by decide +kernel
theorem dX6_has_17 : decode cX6_has 17 = .ok (.ireturn, 1) := by decide +kernel
theorem dX6_hasPixel_0 : decode cX6_hasPixel 0 = .ok (.aload_n 0, 1) := by decide +kernel
theorem dX6_hasPixel_1 : decode cX6_hasPixel 1 = .ok (.iload_n 1, 1) := by decide +kernel
theorem dX6_hasPixel_2 : decode cX6_hasPixel 2 = .ok (.invokevirtual 28, 3) := by decide +kernel
theorem dX6_hasPixel_5 : decode cX6_hasPixel 5 = .ok (.ifCond .eq 35, 3) := by decide +kernel
theorem dX6_hasPixel_8 : decode cX6_hasPixel 8 = .ok (.iload_n 2, 1) := by decide +kernel
theorem dX6_hasPixel_9 : decode cX6_hasPixel 9 = .ok (.ifCond .lt 31, 3) := by decide +kernel
theorem dX6_hasPixel_12 : decode cX6_hasPixel 12 = .ok (.iload_n 2, 1) := by decide +kernel
theorem dX6_hasPixel_13 : decode cX6_hasPixel 13 = .ok (.aload_n 0, 1) := by decide +kernel
theorem dX6_hasPixel_14 : decode cX6_hasPixel 14 = .ok (.getfield 9, 3) := by decide +kernel
theorem dX6_hasPixel_17 : decode cX6_hasPixel 17 = .ok (.iload_n 1, 1) := by decide +kernel
theorem dX6_hasPixel_18 : decode cX6_hasPixel 18 = .ok (.iaload, 1) := by decide +kernel
theorem dX6_hasPixel_19 : decode cX6_hasPixel 19 = .ok (.if_icmp .ge 21, 3) := by decide +kernel
theorem dX6_hasPixel_22 : decode cX6_hasPixel 22 = .ok (.iload_n 3, 1) := by decide +kernel
theorem dX6_hasPixel_23 : decode cX6_hasPixel 23 = .ok (.ifCond .lt 17, 3) := by decide +kernel
theorem dX6_hasPixel_26 : decode cX6_hasPixel 26 = .ok (.iload_n 3, 1) := by decide +kernel
theorem dX6_hasPixel_27 : decode cX6_hasPixel 27 = .ok (.aload_n 0, 1) := by decide +kernel
theorem dX6_hasPixel_28 : decode cX6_hasPixel 28 = .ok (.getfield 15, 3) := by decide +kernel
theorem dX6_hasPixel_31 : decode cX6_hasPixel 31 = .ok (.iload_n 1, 1) := by decide +kernel
theorem dX6_hasPixel_32 : decode cX6_hasPixel 32 = .ok (.iaload, 1) := by decide +kernel
theorem dX6_hasPixel_33 : decode cX6_hasPixel 33 = .ok (.if_icmp .ge 7, 3) := by decide +kernel
theorem dX6_hasPixel_36 : decode cX6_hasPixel 36 = .ok (.iconst 1, 1) := by decide +kernel
theorem dX6_hasPixel_37 : decode cX6_hasPixel 37 = .ok (.goto 4, 3) := by decide +kernel
theorem dX6_hasPixel_40 : decode cX6_hasPixel 40 = .ok (.iconst 0, 1) := by decide +kernel
theorem dX6_hasPixel_41 : decode cX6_hasPixel 41 = .ok (.ireturn, 1) := by decide +kernel
theorem dX6_colorAt_0 : decode cX6_colorAt 0 = .ok (.iload_n 1, 1) := by decide +kernel
theorem dX6_colorAt_1 : decode cX6_colorAt 1 = .ok (.bipush 8, 2) := by decide +kernel
theorem dX6_colorAt_3 : decode cX6_colorAt 3 = .ok (.imul, 1) := by decide +kernel
theorem dX6_colorAt_4 : decode cX6_colorAt 4 = .ok (.iload_n 3, 1) := by decide +kernel
theorem dX6_colorAt_5 : decode cX6_colorAt 5 = .ok (.iadd, 1) := by decide +kernel
theorem dX6_colorAt_6 : decode cX6_colorAt 6 = .ok (.istore 4, 2) := by decide +kernel
theorem dX6_colorAt_8 : decode cX6_colorAt 8 = .ok (.iload 4, 2) := by decide +kernel
theorem dX6_colorAt_10 : decode cX6_colorAt 10 = .ok (.ifCond .lt 30, 3) := by decide +kernel
theorem dX6_colorAt_13 : decode cX6_colorAt 13 = .ok (.iload 4, 2) := by decide +kernel
theorem dX6_colorAt_15 : decode cX6_colorAt 15 = .ok (.aload_n 0, 1) := by decide +kernel
theorem dX6_colorAt_16 : decode cX6_colorAt 16 = .ok (.getfield 21, 3) := by decide +kernel
theorem dX6_colorAt_19 : decode cX6_colorAt 19 = .ok (.arraylength, 1) := by decide +kernel
theorem dX6_colorAt_20 : decode cX6_colorAt 20 = .ok (.if_icmp .ge 20, 3) := by decide +kernel
theorem dX6_colorAt_23 : decode cX6_colorAt 23 = .ok (.aload_n 0, 1) := by decide +kernel
theorem dX6_colorAt_24 : decode cX6_colorAt 24 = .ok (.getfield 21, 3) := by decide +kernel
theorem dX6_colorAt_27 : decode cX6_colorAt 27 = .ok (.iload 4, 2) := by decide +kernel
theorem dX6_colorAt_29 : decode cX6_colorAt 29 = .ok (.iaload, 1) := by decide +kernel
theorem dX6_colorAt_30 : decode cX6_colorAt 30 = .ok (.iconst 4, 1) := by decide +kernel
theorem dX6_colorAt_31 : decode cX6_colorAt 31 = .ok (.iload_n 2, 1) := by decide +kernel
theorem dX6_colorAt_32 : decode cX6_colorAt 32 = .ok (.imul, 1) := by decide +kernel
theorem dX6_colorAt_33 : decode cX6_colorAt 33 = .ok (.iushr, 1) := by decide +kernel
theorem dX6_colorAt_34 : decode cX6_colorAt 34 = .ok (.bipush 15, 2) := by decide +kernel
theorem dX6_colorAt_36 : decode cX6_colorAt 36 = .ok (.iand, 1) := by decide +kernel
theorem dX6_colorAt_37 : decode cX6_colorAt 37 = .ok (.goto 4, 3) := by decide +kernel
theorem dX6_colorAt_40 : decode cX6_colorAt 40 = .ok (.iconst 0, 1) := by decide +kernel
theorem dX6_colorAt_41 : decode cX6_colorAt 41 = .ok (.ireturn, 1) := by decide +kernel
theorem dX6_rowOf_0 : decode cX6_rowOf 0 = .ok (.iload_n 1, 1) := by decide +kernel
theorem dX6_rowOf_1 : decode cX6_rowOf 1 = .ok (.bipush 8, 2) := by decide +kernel
theorem dX6_rowOf_3 : decode cX6_rowOf 3 = .ok (.imul, 1) := by decide +kernel
theorem dX6_rowOf_4 : decode cX6_rowOf 4 = .ok (.iload_n 2, 1) := by decide +kernel
theorem dX6_rowOf_5 : decode cX6_rowOf 5 = .ok (.iadd, 1) := by decide +kernel
theorem dX6_rowOf_6 : decode cX6_rowOf 6 = .ok (.istore_n 3, 1) := by decide +kernel
theorem dX6_rowOf_7 : decode cX6_rowOf 7 = .ok (.iload_n 3, 1) := by decide +kernel
theorem dX6_rowOf_8 : decode cX6_rowOf 8 = .ok (.ifCond .lt 21, 3) := by decide +kernel
theorem dX6_rowOf_11 : decode cX6_rowOf 11 = .ok (.iload_n 3, 1) := by decide +kernel
theorem dX6_rowOf_12 : decode cX6_rowOf 12 = .ok (.aload_n 0, 1) := by decide +kernel
theorem dX6_rowOf_13 : decode cX6_rowOf 13 = .ok (.getfield 21, 3) := by decide +kernel
theorem dX6_rowOf_16 : decode cX6_rowOf 16 = .ok (.arraylength, 1) := by decide +kernel
theorem dX6_rowOf_17 : decode cX6_rowOf 17 = .ok (.if_icmp .ge 12, 3) := by decide +kernel
theorem dX6_rowOf_20 : decode cX6_rowOf 20 = .ok (.aload_n 0, 1) := by decide +kernel
theorem dX6_rowOf_21 : decode cX6_rowOf 21 = .ok (.getfield 21, 3) := by decide +kernel
theorem dX6_rowOf_24 : decode cX6_rowOf 24 = .ok (.iload_n 3, 1) := by decide +kernel
theorem dX6_rowOf_25 : decode cX6_rowOf 25 = .ok (.iaload, 1) := by decide +kernel
theorem dX6_rowOf_26 : decode cX6_rowOf 26 = .ok (.goto 4, 3) := by decide +kernel
theorem dX6_rowOf_29 : decode cX6_rowOf 29 = .ok (.iconst 0, 1) := by decide +kernel
theorem dX6_rowOf_30 : decode cX6_rowOf 30 = .ok (.ireturn, 1) := by decide +kernel
theorem dX6_setColor_0 : decode cX6_setColor 0 = .ok (.aload_n 0, 1) := by decide +kernel
theorem dX6_setColor_1 : decode cX6_setColor 1 = .ok (.iload_n 1, 1) := by decide +kernel
theorem dX6_setColor_2 : decode cX6_setColor 2 = .ok (.iload_n 2, 1) := by decide +kernel
theorem dX6_setColor_3 : decode cX6_setColor 3 = .ok (.iload_n 3, 1) := by decide +kernel
theorem dX6_setColor_4 : decode cX6_setColor 4 = .ok (.invokevirtual 32, 3) := by decide +kernel
theorem dX6_setColor_7 : decode cX6_setColor 7 = .ok (.ifCond .eq 41, 3) := by decide +kernel
theorem dX6_setColor_10 : decode cX6_setColor 10 = .ok (.iload_n 1, 1) := by decide +kernel
theorem dX6_setColor_11 : decode cX6_setColor 11 = .ok (.bipush 8, 2) := by decide +kernel
theorem dX6_setColor_13 : decode cX6_setColor 13 = .ok (.imul, 1) := by decide +kernel
theorem dX6_setColor_14 : decode cX6_setColor 14 = .ok (.iload_n 3, 1) := by decide +kernel
theorem dX6_setColor_15 : decode cX6_setColor 15 = .ok (.iadd, 1) := by decide +kernel
theorem dX6_setColor_16 : decode cX6_setColor 16 = .ok (.istore 5, 2) := by decide +kernel
theorem dX6_setColor_18 : decode cX6_setColor 18 = .ok (.aload_n 0, 1) := by decide +kernel
theorem dX6_setColor_19 : decode cX6_setColor 19 = .ok (.getfield 21, 3) := by decide +kernel
theorem dX6_setColor_22 : decode cX6_setColor 22 = .ok (.iload 5, 2) := by decide +kernel
theorem dX6_setColor_24 : decode cX6_setColor 24 = .ok (.aload_n 0, 1) := by decide +kernel
theorem dX6_setColor_25 : decode cX6_setColor 25 = .ok (.getfield 21, 3) := by decide +kernel
theorem dX6_setColor_28 : decode cX6_setColor 28 = .ok (.iload 5, 2) := by decide +kernel
theorem dX6_setColor_30 : decode cX6_setColor 30 = .ok (.iaload, 1) := by decide +kernel
theorem dX6_setColor_31 : decode cX6_setColor 31 = .ok (.bipush 15, 2) := by decide +kernel
theorem dX6_setColor_33 : decode cX6_setColor 33 = .ok (.iconst 4, 1) := by decide +kernel
theorem dX6_setColor_34 : decode cX6_setColor 34 = .ok (.iload_n 2, 1) := by decide +kernel
theorem dX6_setColor_35 : decode cX6_setColor 35 = .ok (.imul, 1) := by decide +kernel
theorem dX6_setColor_36 : decode cX6_setColor 36 = .ok (.ishl, 1) := by decide +kernel
theorem dX6_setColor_37 : decode cX6_setColor 37 = .ok (.iconst (-1), 1) := by decide +kernel
theorem dX6_setColor_38 : decode cX6_setColor 38 = .ok (.ixor, 1) := by decide +kernel
theorem dX6_setColor_39 : decode cX6_setColor 39 = .ok (.iand, 1) := by decide +kernel
theorem dX6_setColor_40 : decode cX6_setColor 40 = .ok (.iload 4, 2) := by decide +kernel
theorem dX6_setColor_42 : decode cX6_setColor 42 = .ok (.iconst 4, 1) := by decide +kernel
theorem dX6_setColor_43 : decode cX6_setColor 43 = .ok (.iload_n 2, 1) := by decide +kernel
theorem dX6_setColor_44 : decode cX6_setColor 44 = .ok (.imul, 1) := by decide +kernel
theorem dX6_setColor_45 : decode cX6_setColor 45 = .ok (.ishl, 1) := by decide +kernel
theorem dX6_setColor_46 : decode cX6_setColor 46 = .ok (.ior, 1) := by decide +kernel
theorem dX6_setColor_47 : decode cX6_setColor 47 = .ok (.iastore, 1) := by decide +kernel
theorem dX6_setColor_48 : decode cX6_setColor 48 = .ok (.return_, 1) := by decide +kernel
theorem dX6_add_0 : decode cX6_add 0 = .ok (.aload_n 0, 1) := by decide +kernel
theorem dX6_add_1 : decode cX6_add 1 = .ok (.getfield 24, 3) := by decide +kernel
theorem dX6_add_4 : decode cX6_add 4 = .ok (.bipush 24, 2) := by decide +kernel
theorem dX6_add_6 : decode cX6_add 6 = .ok (.if_icmp .lt 6, 3) := by decide +kernel
theorem dX6_add_9 : decode cX6_add 9 = .ok (.bipush (-4), 2) := by decide +kernel
theorem dX6_add_11 : decode cX6_add 11 = .ok (.ireturn, 1) := by decide +kernel
theorem dX6_add_12 : decode cX6_add 12 = .ok (.aload_n 0, 1) := by decide +kernel
theorem dX6_add_13 : decode cX6_add 13 = .ok (.getfield 24, 3) := by decide +kernel
theorem dX6_add_16 : decode cX6_add 16 = .ok (.istore_n 3, 1) := by decide +kernel
theorem dX6_add_17 : decode cX6_add 17 = .ok (.aload_n 0, 1) := by decide +kernel
theorem dX6_add_18 : decode cX6_add 18 = .ok (.dup, 1) := by decide +kernel
theorem dX6_add_19 : decode cX6_add 19 = .ok (.getfield 24, 3) := by decide +kernel
theorem dX6_add_22 : decode cX6_add 22 = .ok (.iconst 1, 1) := by decide +kernel
theorem dX6_add_23 : decode cX6_add 23 = .ok (.iadd, 1) := by decide +kernel
theorem dX6_add_24 : decode cX6_add 24 = .ok (.putfield 24, 3) := by decide +kernel
theorem dX6_add_27 : decode cX6_add 27 = .ok (.aload_n 0, 1) := by decide +kernel
theorem dX6_add_28 : decode cX6_add 28 = .ok (.getfield 9, 3) := by decide +kernel
theorem dX6_add_31 : decode cX6_add 31 = .ok (.iload_n 3, 1) := by decide +kernel
theorem dX6_add_32 : decode cX6_add 32 = .ok (.iload_n 1, 1) := by decide +kernel
theorem dX6_add_33 : decode cX6_add 33 = .ok (.iastore, 1) := by decide +kernel
theorem dX6_add_34 : decode cX6_add 34 = .ok (.aload_n 0, 1) := by decide +kernel
theorem dX6_add_35 : decode cX6_add 35 = .ok (.getfield 15, 3) := by decide +kernel
theorem dX6_add_38 : decode cX6_add 38 = .ok (.iload_n 3, 1) := by decide +kernel
theorem dX6_add_39 : decode cX6_add 39 = .ok (.iload_n 2, 1) := by decide +kernel
theorem dX6_add_40 : decode cX6_add 40 = .ok (.iastore, 1) := by decide +kernel
theorem dX6_add_41 : decode cX6_add 41 = .ok (.aload_n 0, 1) := by decide +kernel
theorem dX6_add_42 : decode cX6_add 42 = .ok (.getfield 18, 3) := by decide +kernel
theorem dX6_add_45 : decode cX6_add 45 = .ok (.iload_n 3, 1) := by decide +kernel
theorem dX6_add_46 : decode cX6_add 46 = .ok (.iconst 0, 1) := by decide +kernel
theorem dX6_add_47 : decode cX6_add 47 = .ok (.iastore, 1) := by decide +kernel
theorem dX6_add_48 : decode cX6_add 48 = .ok (.iload_n 3, 1) := by decide +kernel
theorem dX6_add_49 : decode cX6_add 49 = .ok (.bipush 8, 2) := by decide +kernel
theorem dX6_add_51 : decode cX6_add 51 = .ok (.imul, 1) := by decide +kernel
theorem dX6_add_52 : decode cX6_add 52 = .ok (.istore 4, 2) := by decide +kernel
theorem dX6_add_54 : decode cX6_add 54 = .ok (.aload_n 0, 1) := by decide +kernel
theorem dX6_add_55 : decode cX6_add 55 = .ok (.getfield 21, 3) := by decide +kernel
theorem dX6_add_58 : decode cX6_add 58 = .ok (.iload 4, 2) := by decide +kernel
theorem dX6_add_60 : decode cX6_add 60 = .ok (.iload 4, 2) := by decide +kernel
theorem dX6_add_62 : decode cX6_add 62 = .ok (.bipush 8, 2) := by decide +kernel
theorem dX6_add_64 : decode cX6_add 64 = .ok (.iadd, 1) := by decide +kernel
theorem dX6_add_65 : decode cX6_add 65 = .ok (.iconst 0, 1) := by decide +kernel
theorem dX6_add_66 : decode cX6_add 66 = .ok (.invokestatic 36, 3) := by decide +kernel
theorem dX6_add_69 : decode cX6_add 69 = .ok (.iload_n 3, 1) := by decide +kernel
theorem dX6_add_70 : decode cX6_add 70 = .ok (.ireturn, 1) := by decide +kernel
theorem dX6_remove_0 : decode cX6_remove 0 = .ok (.aload_n 0, 1) := by decide +kernel
theorem dX6_remove_1 : decode cX6_remove 1 = .ok (.iload_n 1, 1) := by decide +kernel
theorem dX6_remove_2 : decode cX6_remove 2 = .ok (.invokevirtual 28, 3) := by decide +kernel
theorem dX6_remove_5 : decode cX6_remove 5 = .ok (.ifCond .ne 4, 3) := by decide +kernel
theorem dX6_remove_8 : decode cX6_remove 8 = .ok (.return_, 1) := by decide +kernel
theorem dX6_remove_9 : decode cX6_remove 9 = .ok (.aload_n 0, 1) := by decide +kernel
theorem dX6_remove_10 : decode cX6_remove 10 = .ok (.getfield 24, 3) := by decide +kernel
theorem dX6_remove_13 : decode cX6_remove 13 = .ok (.iload_n 1, 1) := by decide +kernel
theorem dX6_remove_14 : decode cX6_remove 14 = .ok (.isub, 1) := by decide +kernel
theorem dX6_remove_15 : decode cX6_remove 15 = .ok (.iconst 1, 1) := by decide +kernel
theorem dX6_remove_16 : decode cX6_remove 16 = .ok (.isub, 1) := by decide +kernel
theorem dX6_remove_17 : decode cX6_remove 17 = .ok (.istore_n 2, 1) := by decide +kernel
theorem dX6_remove_18 : decode cX6_remove 18 = .ok (.aload_n 0, 1) := by decide +kernel
theorem dX6_remove_19 : decode cX6_remove 19 = .ok (.getfield 9, 3) := by decide +kernel
theorem dX6_remove_22 : decode cX6_remove 22 = .ok (.iload_n 1, 1) := by decide +kernel
theorem dX6_remove_23 : decode cX6_remove 23 = .ok (.iconst 1, 1) := by decide +kernel
theorem dX6_remove_24 : decode cX6_remove 24 = .ok (.iadd, 1) := by decide +kernel
theorem dX6_remove_25 : decode cX6_remove 25 = .ok (.aload_n 0, 1) := by decide +kernel
theorem dX6_remove_26 : decode cX6_remove 26 = .ok (.getfield 9, 3) := by decide +kernel
theorem dX6_remove_29 : decode cX6_remove 29 = .ok (.iload_n 1, 1) := by decide +kernel
theorem dX6_remove_30 : decode cX6_remove 30 = .ok (.iload_n 2, 1) := by decide +kernel
theorem dX6_remove_31 : decode cX6_remove 31 = .ok (.invokestatic 42, 3) := by decide +kernel
theorem dX6_remove_34 : decode cX6_remove 34 = .ok (.aload_n 0, 1) := by decide +kernel
theorem dX6_remove_35 : decode cX6_remove 35 = .ok (.getfield 15, 3) := by decide +kernel
theorem dX6_remove_38 : decode cX6_remove 38 = .ok (.iload_n 1, 1) := by decide +kernel
theorem dX6_remove_39 : decode cX6_remove 39 = .ok (.iconst 1, 1) := by decide +kernel
theorem dX6_remove_40 : decode cX6_remove 40 = .ok (.iadd, 1) := by decide +kernel
theorem dX6_remove_41 : decode cX6_remove 41 = .ok (.aload_n 0, 1) := by decide +kernel
theorem dX6_remove_42 : decode cX6_remove 42 = .ok (.getfield 15, 3) := by decide +kernel
theorem dX6_remove_45 : decode cX6_remove 45 = .ok (.iload_n 1, 1) := by decide +kernel
theorem dX6_remove_46 : decode cX6_remove 46 = .ok (.iload_n 2, 1) := by decide +kernel
theorem dX6_remove_47 : decode cX6_remove 47 = .ok (.invokestatic 42, 3) := by decide +kernel
theorem dX6_remove_50 : decode cX6_remove 50 = .ok (.aload_n 0, 1) := by decide +kernel
theorem dX6_remove_51 : decode cX6_remove 51 = .ok (.getfield 18, 3) := by decide +kernel
theorem dX6_remove_54 : decode cX6_remove 54 = .ok (.iload_n 1, 1) := by decide +kernel
theorem dX6_remove_55 : decode cX6_remove 55 = .ok (.iconst 1, 1) := by decide +kernel
theorem dX6_remove_56 : decode cX6_remove 56 = .ok (.iadd, 1) := by decide +kernel
theorem dX6_remove_57 : decode cX6_remove 57 = .ok (.aload_n 0, 1) := by decide +kernel
theorem dX6_remove_58 : decode cX6_remove 58 = .ok (.getfield 18, 3) := by decide +kernel
theorem dX6_remove_61 : decode cX6_remove 61 = .ok (.iload_n 1, 1) := by decide +kernel
theorem dX6_remove_62 : decode cX6_remove 62 = .ok (.iload_n 2, 1) := by decide +kernel
theorem dX6_remove_63 : decode cX6_remove 63 = .ok (.invokestatic 42, 3) := by decide +kernel
theorem dX6_remove_66 : decode cX6_remove 66 = .ok (.iload_n 1, 1) := by decide +kernel
theorem dX6_remove_67 : decode cX6_remove 67 = .ok (.bipush 8, 2) := by decide +kernel
theorem dX6_remove_69 : decode cX6_remove 69 = .ok (.imul, 1) := by decide +kernel
theorem dX6_remove_70 : decode cX6_remove 70 = .ok (.istore_n 3, 1) := by decide +kernel
theorem dX6_remove_71 : decode cX6_remove 71 = .ok (.aload_n 0, 1) := by decide +kernel
theorem dX6_remove_72 : decode cX6_remove 72 = .ok (.getfield 21, 3) := by decide +kernel
theorem dX6_remove_75 : decode cX6_remove 75 = .ok (.iload_n 3, 1) := by decide +kernel
theorem dX6_remove_76 : decode cX6_remove 76 = .ok (.bipush 8, 2) := by decide +kernel
theorem dX6_remove_78 : decode cX6_remove 78 = .ok (.iadd, 1) := by decide +kernel
theorem dX6_remove_79 : decode cX6_remove 79 = .ok (.aload_n 0, 1) := by decide +kernel
theorem dX6_remove_80 : decode cX6_remove 80 = .ok (.getfield 21, 3) := by decide +kernel
theorem dX6_remove_83 : decode cX6_remove 83 = .ok (.iload_n 3, 1) := by decide +kernel
theorem dX6_remove_84 : decode cX6_remove 84 = .ok (.iload_n 2, 1) := by decide +kernel
theorem dX6_remove_85 : decode cX6_remove 85 = .ok (.bipush 8, 2) := by decide +kernel
theorem dX6_remove_87 : decode cX6_remove 87 = .ok (.imul, 1) := by decide +kernel
theorem dX6_remove_88 : decode cX6_remove 88 = .ok (.invokestatic 42, 3) := by decide +kernel
theorem dX6_remove_91 : decode cX6_remove 91 = .ok (.aload_n 0, 1) := by decide +kernel
theorem dX6_remove_92 : decode cX6_remove 92 = .ok (.dup, 1) := by decide +kernel
theorem dX6_remove_93 : decode cX6_remove 93 = .ok (.getfield 24, 3) := by decide +kernel
theorem dX6_remove_96 : decode cX6_remove 96 = .ok (.iconst 1, 1) := by decide +kernel
theorem dX6_remove_97 : decode cX6_remove 97 = .ok (.isub, 1) := by decide +kernel
theorem dX6_remove_98 : decode cX6_remove 98 = .ok (.putfield 24, 3) := by decide +kernel
theorem dX6_remove_101 : decode cX6_remove 101 = .ok (.return_, 1) := by decide +kernel
theorem dX6_copyFrom_0 : decode cX6_copyFrom 0 = .ok (.aload_n 0, 1) := by decide +kernel
theorem dX6_copyFrom_1 : decode cX6_copyFrom 1 = .ok (.aload_n 1, 1) := by decide +kernel
theorem dX6_copyFrom_2 : decode cX6_copyFrom 2 = .ok (.getfield 24, 3) := by decide +kernel
theorem dX6_copyFrom_5 : decode cX6_copyFrom 5 = .ok (.putfield 24, 3) := by decide +kernel
theorem dX6_copyFrom_8 : decode cX6_copyFrom 8 = .ok (.aload_n 1, 1) := by decide +kernel
theorem dX6_copyFrom_9 : decode cX6_copyFrom 9 = .ok (.getfield 9, 3) := by decide +kernel
theorem dX6_copyFrom_12 : decode cX6_copyFrom 12 = .ok (.iconst 0, 1) := by decide +kernel
theorem dX6_copyFrom_13 : decode cX6_copyFrom 13 = .ok (.aload_n 0, 1) := by decide +kernel
theorem dX6_copyFrom_14 : decode cX6_copyFrom 14 = .ok (.getfield 9, 3) := by decide +kernel
theorem dX6_copyFrom_17 : decode cX6_copyFrom 17 = .ok (.iconst 0, 1) := by decide +kernel
theorem dX6_copyFrom_18 : decode cX6_copyFrom 18 = .ok (.bipush 24, 2) := by decide +kernel
theorem dX6_copyFrom_20 : decode cX6_copyFrom 20 = .ok (.invokestatic 42, 3) := by decide +kernel
theorem dX6_copyFrom_23 : decode cX6_copyFrom 23 = .ok (.aload_n 1, 1) := by decide +kernel
theorem dX6_copyFrom_24 : decode cX6_copyFrom 24 = .ok (.getfield 15, 3) := by decide +kernel
theorem dX6_copyFrom_27 : decode cX6_copyFrom 27 = .ok (.iconst 0, 1) := by decide +kernel
theorem dX6_copyFrom_28 : decode cX6_copyFrom 28 = .ok (.aload_n 0, 1) := by decide +kernel
theorem dX6_copyFrom_29 : decode cX6_copyFrom 29 = .ok (.getfield 15, 3) := by decide +kernel
theorem dX6_copyFrom_32 : decode cX6_copyFrom 32 = .ok (.iconst 0, 1) := by decide +kernel
theorem dX6_copyFrom_33 : decode cX6_copyFrom 33 = .ok (.bipush 24, 2) := by decide +kernel
theorem dX6_copyFrom_35 : decode cX6_copyFrom 35 = .ok (.invokestatic 42, 3) := by decide +kernel
theorem dX6_copyFrom_38 : decode cX6_copyFrom 38 = .ok (.aload_n 1, 1) := by decide +kernel
theorem dX6_copyFrom_39 : decode cX6_copyFrom 39 = .ok (.getfield 18, 3) := by decide +kernel
theorem dX6_copyFrom_42 : decode cX6_copyFrom 42 = .ok (.iconst 0, 1) := by decide +kernel
theorem dX6_copyFrom_43 : decode cX6_copyFrom 43 = .ok (.aload_n 0, 1) := by decide +kernel
theorem dX6_copyFrom_44 : decode cX6_copyFrom 44 = .ok (.getfield 18, 3) := by decide +kernel
theorem dX6_copyFrom_47 : decode cX6_copyFrom 47 = .ok (.iconst 0, 1) := by decide +kernel
theorem dX6_copyFrom_48 : decode cX6_copyFrom 48 = .ok (.bipush 24, 2) := by decide +kernel
theorem dX6_copyFrom_50 : decode cX6_copyFrom 50 = .ok (.invokestatic 42, 3) := by decide +kernel
theorem dX6_copyFrom_53 : decode cX6_copyFrom 53 = .ok (.aload_n 1, 1) := by decide +kernel
theorem dX6_copyFrom_54 : decode cX6_copyFrom 54 = .ok (.getfield 21, 3) := by decide +kernel
theorem dX6_copyFrom_57 : decode cX6_copyFrom 57 = .ok (.iconst 0, 1) := by decide +kernel
theorem dX6_copyFrom_58 : decode cX6_copyFrom 58 = .ok (.aload_n 0, 1) := by decide +kernel
theorem dX6_copyFrom_59 : decode cX6_copyFrom 59 = .ok (.getfield 21, 3) := by decide +kernel
theorem dX6_copyFrom_62 : decode cX6_copyFrom 62 = .ok (.iconst 0, 1) := by decide +kernel
theorem dX6_copyFrom_63 : decode cX6_copyFrom 63 = .ok (.sipush 192, 3) := by decide +kernel
theorem dX6_copyFrom_66 : decode cX6_copyFrom 66 = .ok (.invokestatic 42, 3) := by decide +kernel
theorem dX6_copyFrom_69 : decode cX6_copyFrom 69 = .ok (.return_, 1) := by decide +kernel
theorem dX7_init_0 : decode cX7_init 0 = .ok (.aload_n 0, 1) := by decide +kernel
theorem dX7_init_1 : decode cX7_init 1 = .ok (.invokespecial 3, 3) := by decide +kernel
theorem dX7_init_4 : decode cX7_init 4 = .ok (.aload_n 0, 1) := by decide +kernel
theorem dX7_init_5 : decode cX7_init 5 = .ok (.bipush 35, 2) := by decide +kernel
theorem dX7_init_7 : decode cX7_init 7 = .ok (.newarray .long, 2) := by decide +kernel
theorem dX7_init_9 : decode cX7_init 9 = .ok (.putfield 9, 3) := by decide +kernel
theorem dX7_init_12 : decode cX7_init 12 = .ok (.aload_n 0, 1) := by decide +kernel
theorem dX7_init_13 : decode cX7_init 13 = .ok (.sipush 1396, 3) := by decide +kernel
theorem dX7_init_16 : decode cX7_init 16 = .ok (.newarray .int, 2) := by decide +kernel
theorem dX7_init_18 : decode cX7_init 18 = .ok (.putfield 15, 3) := by decide +kernel
theorem dX7_init_21 : decode cX7_init 21 = .ok (.aload_n 0, 1) := by decide +kernel
theorem dX7_init_22 : decode cX7_init 22 = .ok (.iconst 4, 1) := by decide +kernel
theorem dX7_init_23 : decode cX7_init 23 = .ok (.newarray .int, 2) := by decide +kernel
theorem dX7_init_25 : decode cX7_init 25 = .ok (.putfield 19, 3) := by decide +kernel
theorem dX7_init_28 : decode cX7_init 28 = .ok (.return_, 1) := by decide +kernel
theorem dX7_code_0 : decode cX7_code 0 = .ok (.iload_n 1, 1) := by decide +kernel
theorem dX7_code_1 : decode cX7_code 1 = .ok (.bipush 18, 2) := by decide +kernel
theorem dX7_code_3 : decode cX7_code 3 = .ok (.ishl, 1) := by decide +kernel
theorem dX7_code_4 : decode cX7_code 4 = .ok (.iload_n 0, 1) := by decide +kernel
theorem dX7_code_5 : decode cX7_code 5 = .ok (.bipush 12, 2) := by decide +kernel
theorem dX7_code_7 : decode cX7_code 7 = .ok (.ishl, 1) := by decide +kernel
theorem dX7_code_8 : decode cX7_code 8 = .ok (.ior, 1) := by decide +kernel
theorem dX7_code_9 : decode cX7_code 9 = .ok (.iload_n 2, 1) := by decide +kernel
theorem dX7_code_10 : decode cX7_code 10 = .ok (.bipush 6, 2) := by decide +kernel
theorem dX7_code_12 : decode cX7_code 12 = .ok (.ishl, 1) := by decide +kernel
theorem dX7_code_13 : decode cX7_code 13 = .ok (.ior, 1) := by decide +kernel
theorem dX7_code_14 : decode cX7_code 14 = .ok (.iload_n 3, 1) := by decide +kernel
theorem dX7_code_15 : decode cX7_code 15 = .ok (.ior, 1) := by decide +kernel
theorem dX7_code_16 : decode cX7_code 16 = .ok (.ireturn, 1) := by decide +kernel
theorem dX7_topIn_0 : decode cX7_topIn 0 = .ok (.iload_n 0, 1) := by decide +kernel
theorem dX7_topIn_1 : decode cX7_topIn 1 = .ok (.bipush 18, 2) := by decide +kernel
theorem dX7_topIn_3 : decode cX7_topIn 3 = .ok (.ishr, 1) := by decide +kernel
theorem dX7_topIn_4 : decode cX7_topIn 4 = .ok (.ireturn, 1) := by decide +kernel
theorem dX7_leftIn_0 : decode cX7_leftIn 0 = .ok (.iload_n 0, 1) := by decide +kernel
theorem dX7_leftIn_1 : decode cX7_leftIn 1 = .ok (.bipush 12, 2) := by decide +kernel
theorem dX7_leftIn_3 : decode cX7_leftIn 3 = .ok (.ishr, 1) := by decide +kernel
theorem dX7_leftIn_4 : decode cX7_leftIn 4 = .ok (.bipush 63, 2) := by decide +kernel
theorem dX7_leftIn_6 : decode cX7_leftIn 6 = .ok (.iand, 1) := by decide +kernel
theorem dX7_leftIn_7 : decode cX7_leftIn 7 = .ok (.ireturn, 1) := by decide +kernel
theorem dX7_widthIn_0 : decode cX7_widthIn 0 = .ok (.iload_n 0, 1) := by decide +kernel
theorem dX7_widthIn_1 : decode cX7_widthIn 1 = .ok (.bipush 6, 2) := by decide +kernel
theorem dX7_widthIn_3 : decode cX7_widthIn 3 = .ok (.ishr, 1) := by decide +kernel
theorem dX7_widthIn_4 : decode cX7_widthIn 4 = .ok (.bipush 63, 2) := by decide +kernel
theorem dX7_widthIn_6 : decode cX7_widthIn 6 = .ok (.iand, 1) := by decide +kernel
theorem dX7_widthIn_7 : decode cX7_widthIn 7 = .ok (.ireturn, 1) := by decide +kernel
theorem dX7_heightIn_0 : decode cX7_heightIn 0 = .ok (.iload_n 0, 1) := by decide +kernel
theorem dX7_heightIn_1 : decode cX7_heightIn 1 = .ok (.bipush 63, 2) := by decide +kernel
theorem dX7_heightIn_3 : decode cX7_heightIn 3 = .ok (.iand, 1) := by decide +kernel
theorem dX7_heightIn_4 : decode cX7_heightIn 4 = .ok (.ireturn, 1) := by decide +kernel
theorem dX7_codeOf_0 : decode cX7_codeOf 0 = .ok (.aload_n 0, 1) := by decide +kernel
theorem dX7_codeOf_1 : decode cX7_codeOf 1 = .ok (.getfield 15, 3) := by decide +kernel
theorem dX7_codeOf_4 : decode cX7_codeOf 4 = .ok (.iload_n 1, 1) := by decide +kernel
theorem dX7_codeOf_5 : decode cX7_codeOf 5 = .ok (.sipush 349, 3) := by decide +kernel
theorem dX7_codeOf_8 : decode cX7_codeOf 8 = .ok (.imul, 1) := by decide +kernel
theorem dX7_codeOf_9 : decode cX7_codeOf 9 = .ok (.iload_n 2, 1) := by decide +kernel
theorem dX7_codeOf_10 : decode cX7_codeOf 10 = .ok (.iadd, 1) := by decide +kernel
theorem dX7_codeOf_11 : decode cX7_codeOf 11 = .ok (.iaload, 1) := by decide +kernel
theorem dX7_codeOf_12 : decode cX7_codeOf 12 = .ok (.ireturn, 1) := by decide +kernel
theorem dX7_open_0 : decode cX7_open 0 = .ok (.aload_n 0, 1) := by decide +kernel
theorem dX7_open_1 : decode cX7_open 1 = .ok (.iload_n 1, 1) := by decide +kernel
theorem dX7_open_2 : decode cX7_open 2 = .ok (.iconst 0, 1) := by decide +kernel
theorem dX7_open_3 : decode cX7_open 3 = .ok (.invokestatic 22, 3) := by decide +kernel
theorem dX7_open_6 : decode cX7_open 6 = .ok (.putfield 28, 3) := by decide +kernel
theorem dX7_open_9 : decode cX7_open 9 = .ok (.aload_n 0, 1) := by decide +kernel
theorem dX7_open_10 : decode cX7_open 10 = .ok (.iload_n 2, 1) := by decide +kernel
theorem dX7_open_11 : decode cX7_open 11 = .ok (.iconst 0, 1) := by decide +kernel
theorem dX7_open_12 : decode cX7_open 12 = .ok (.invokestatic 22, 3) := by decide +kernel
theorem dX7_open_15 : decode cX7_open 15 = .ok (.bipush 35, 2) := by decide +kernel
theorem dX7_open_17 : decode cX7_open 17 = .ok (.invokestatic 32, 3) := by decide +kernel
theorem dX7_open_20 : decode cX7_open 20 = .ok (.putfield 35, 3) := by decide +kernel
theorem dX7_open_23 : decode cX7_open 23 = .ok (.aload_n 0, 1) := by decide +kernel
theorem dX7_open_24 : decode cX7_open 24 = .ok (.getfield 9, 3) := by decide +kernel
theorem dX7_open_27 : decode cX7_open 27 = .ok (.iconst 0, 1) := by decide +kernel
theorem dX7_open_28 : decode cX7_open 28 = .ok (.aload_n 0, 1) := by decide +kernel
theorem dX7_open_29 : decode cX7_open 29 = .ok (.getfield 35, 3) := by decide +kernel
theorem dX7_open_32 : decode cX7_open 32 = .ok (.lconst 1, 1) := by decide +kernel
theorem dX7_open_33 : decode cX7_open 33 = .ok (.aload_n 0, 1) := by decide +kernel
theorem dX7_open_34 : decode cX7_open 34 = .ok (.getfield 28, 3) := by decide +kernel
theorem dX7_open_37 : decode cX7_open 37 = .ok (.lshl, 1) := by decide +kernel
theorem dX7_open_38 : decode cX7_open 38 = .ok (.lconst 1, 1) := by decide +kernel
theorem dX7_open_39 : decode cX7_open 39 = .ok (.lsub, 1) := by decide +kernel
theorem dX7_open_40 : decode cX7_open 40 = .ok (.invokestatic 38, 3) := by decide +kernel
theorem dX7_open_43 : decode cX7_open 43 = .ok (.return_, 1) := by decide +kernel
theorem dX7_block_0 : decode cX7_block 0 = .ok (.lconst 1, 1) := by decide +kernel
theorem dX7_block_1 : decode cX7_block 1 = .ok (.iload_n 3, 1) := by decide +kernel
theorem dX7_block_2 : decode cX7_block 2 = .ok (.lshl, 1) := by decide +kernel
theorem dX7_block_3 : decode cX7_block 3 = .ok (.lconst 1, 1) := by decide +kernel
theorem dX7_block_4 : decode cX7_block 4 = .ok (.lsub, 1) := by decide +kernel
theorem dX7_block_5 : decode cX7_block 5 = .ok (.iload_n 1, 1) := by decide +kernel
theorem dX7_block_6 : decode cX7_block 6 = .ok (.lshl, 1) := by decide +kernel
theorem dX7_block_7 : decode cX7_block 7 = .ok (.lstore 5, 2) := by decide +kernel
theorem dX7_block_9 : decode cX7_block 9 = .ok (.iload_n 2, 1) := by decide +kernel
theorem dX7_block_10 : decode cX7_block 10 = .ok (.iconst 0, 1) := by decide +kernel
theorem dX7_block_11 : decode cX7_block 11 = .ok (.invokestatic 22, 3) := by decide +kernel
theorem dX7_block_14 : decode cX7_block 14 = .ok (.istore 7, 2) := by decide +kernel
theorem dX7_block_16 : decode cX7_block 16 = .ok (.iload 7, 2) := by decide +kernel
theorem dX7_block_18 : decode cX7_block 18 = .ok (.iload_n 2, 1) := by decide +kernel
theorem dX7_block_19 : decode cX7_block 19 = .ok (.iload 4, 2) := by decide +kernel
theorem dX7_block_21 : decode cX7_block 21 = .ok (.iadd, 1) := by decide +kernel
theorem dX7_block_22 : decode cX7_block 22 = .ok (.if_icmp .ge 34, 3) := by decide +kernel
theorem dX7_block_25 : decode cX7_block 25 = .ok (.iload 7, 2) := by decide +kernel
theorem dX7_block_27 : decode cX7_block 27 = .ok (.aload_n 0, 1) := by decide +kernel
theorem dX7_block_28 : decode cX7_block 28 = .ok (.getfield 35, 3) := by decide +kernel
theorem dX7_block_31 : decode cX7_block 31 = .ok (.if_icmp .ge 25, 3) := by decide +kernel
theorem dX7_block_34 : decode cX7_block 34 = .ok (.aload_n 0, 1) := by decide +kernel
theorem dX7_block_35 : decode cX7_block 35 = .ok (.getfield 9, 3) := by decide +kernel
theorem dX7_block_38 : decode cX7_block 38 = .ok (.iload 7, 2) := by decide +kernel
theorem dX7_block_40 : decode cX7_block 40 = .ok (.dup2, 1) := by decide +kernel
theorem dX7_block_41 : decode cX7_block 41 = .ok (.laload, 1) := by decide +kernel
theorem dX7_block_42 : decode cX7_block 42 = .ok (.lload 5, 2) := by decide +kernel
theorem dX7_block_44 : decode cX7_block 44 = .ok (.ldc2_w 44, 3) := by decide +kernel
theorem dX7_block_47 : decode cX7_block 47 = .ok (.lxor, 1) := by decide +kernel
theorem dX7_block_48 : decode cX7_block 48 = .ok (.land, 1) := by decide +kernel
theorem dX7_block_49 : decode cX7_block 49 = .ok (.lastore, 1) := by decide +kernel
theorem dX7_block_50 : decode cX7_block 50 = .ok (.iinc 7 1, 3) := by decide +kernel
theorem dX7_block_53 : decode cX7_block 53 = .ok (.goto (-37), 3) := by decide +kernel
theorem dX7_block_56 : decode cX7_block 56 = .ok (.return_, 1) := by decide +kernel
theorem dX7_collect_0 : decode cX7_collect 0 = .ok (.aload_n 0, 1) := by decide +kernel
theorem dX7_collect_1 : decode cX7_collect 1 = .ok (.getfield 19, 3) := by decide +kernel
theorem dX7_collect_4 : decode cX7_collect 4 = .ok (.iload_n 1, 1) := by decide +kernel
theorem dX7_collect_5 : decode cX7_collect 5 = .ok (.iconst 0, 1) := by decide +kernel
theorem dX7_collect_6 : decode cX7_collect 6 = .ok (.iastore, 1) := by decide +kernel
theorem dX7_collect_7 : decode cX7_collect 7 = .ok (.iconst 0, 1) := by decide +kernel
theorem dX7_collect_8 : decode cX7_collect 8 = .ok (.istore_n 2, 1) := by decide +kernel
theorem dX7_collect_9 : decode cX7_collect 9 = .ok (.iload_n 2, 1) := by decide +kernel
theorem dX7_collect_10 : decode cX7_collect 10 = .ok (.aload_n 0, 1) := by decide +kernel
theorem dX7_collect_11 : decode cX7_collect 11 = .ok (.getfield 35, 3) := by decide +kernel
theorem dX7_collect_14 : decode cX7_collect 14 = .ok (.if_icmp .ge 137, 3) := by decide +kernel
theorem dX7_collect_17 : decode cX7_collect 17 = .ok (.iload_n 2, 1) := by decide +kernel
theorem dX7_collect_18 : decode cX7_collect 18 = .ok (.ifCond .ne 7, 3) := by decide +kernel
theorem dX7_collect_21 : decode cX7_collect 21 = .ok (.lconst 0, 1) := by decide +kernel
theorem dX7_collect_22 : decode cX7_collect 22 = .ok (.goto 11, 3) := by decide +kernel
theorem dX7_collect_25 : decode cX7_collect 25 = .ok (.aload_n 0, 1) := by decide +kernel
theorem dX7_collect_26 : decode cX7_collect 26 = .ok (.getfield 9, 3) := by decide +kernel
theorem dX7_collect_29 : decode cX7_collect 29 = .ok (.iload_n 2, 1) := by decide +kernel
theorem dX7_collect_30 : decode cX7_collect 30 = .ok (.iconst 1, 1) := by decide +kernel
theorem dX7_collect_31 : decode cX7_collect 31 = .ok (.isub, 1) := by decide +kernel
theorem dX7_collect_32 : decode cX7_collect 32 = .ok (.laload, 1) := by decide +kernel
theorem dX7_collect_33 : decode cX7_collect 33 = .ok (.lstore_n 3, 1) := by decide +kernel
theorem dX7_collect_34 : decode cX7_collect 34 = .ok (.aload_n 0, 1) := by decide +kernel
theorem dX7_collect_35 : decode cX7_collect 35 = .ok (.getfield 9, 3) := by decide +kernel
theorem dX7_collect_38 : decode cX7_collect 38 = .ok (.iload_n 2, 1) := by decide +kernel
theorem dX7_collect_39 : decode cX7_collect 39 = .ok (.laload, 1) := by decide +kernel
theorem dX7_collect_40 : decode cX7_collect 40 = .ok (.lstore 5, 2) := by decide +kernel
theorem dX7_collect_42 : decode cX7_collect 42 = .ok (.iload_n 2, 1) := by decide +kernel
theorem dX7_collect_43 : decode cX7_collect 43 = .ok (.istore 7, 2) := by decide +kernel
theorem dX7_collect_45 : decode cX7_collect 45 = .ok (.iload 7, 2) := by decide +kernel
theorem dX7_collect_47 : decode cX7_collect 47 = .ok (.aload_n 0, 1) := by decide +kernel
theorem dX7_collect_48 : decode cX7_collect 48 = .ok (.getfield 35, 3) := by decide +kernel
theorem dX7_collect_51 : decode cX7_collect 51 = .ok (.if_icmp .ge 94, 3) := by decide +kernel
theorem dX7_collect_54 : decode cX7_collect 54 = .ok (.lload 5, 2) := by decide +kernel
theorem dX7_collect_56 : decode cX7_collect 56 = .ok (.lload_n 3, 1) := by decide +kernel
theorem dX7_collect_57 : decode cX7_collect 57 = .ok (.ldc2_w 44, 3) := by decide +kernel
theorem dX7_collect_60 : decode cX7_collect 60 = .ok (.lxor, 1) := by decide +kernel
theorem dX7_collect_61 : decode cX7_collect 61 = .ok (.land, 1) := by decide +kernel
theorem dX7_collect_62 : decode cX7_collect 62 = .ok (.lconst 0, 1) := by decide +kernel
theorem dX7_collect_63 : decode cX7_collect 63 = .ok (.lcmp, 1) := by decide +kernel
theorem dX7_collect_64 : decode cX7_collect 64 = .ok (.ifCond .eq 81, 3) := by decide +kernel
theorem dX7_collect_67 : decode cX7_collect 67 = .ok (.iload 7, 2) := by decide +kernel
theorem dX7_collect_69 : decode cX7_collect 69 = .ok (.iconst 1, 1) := by decide +kernel
theorem dX7_collect_70 : decode cX7_collect 70 = .ok (.iadd, 1) := by decide +kernel
theorem dX7_collect_71 : decode cX7_collect 71 = .ok (.aload_n 0, 1) := by decide +kernel
theorem dX7_collect_72 : decode cX7_collect 72 = .ok (.getfield 35, 3) := by decide +kernel
theorem dX7_collect_75 : decode cX7_collect 75 = .ok (.if_icmp .ge 15, 3) := by decide +kernel
theorem dX7_collect_78 : decode cX7_collect 78 = .ok (.aload_n 0, 1) := by decide +kernel
theorem dX7_collect_79 : decode cX7_collect 79 = .ok (.getfield 9, 3) := by decide +kernel
theorem dX7_collect_82 : decode cX7_collect 82 = .ok (.iload 7, 2) := by decide +kernel
theorem dX7_collect_84 : decode cX7_collect 84 = .ok (.iconst 1, 1) := by decide +kernel
theorem dX7_collect_85 : decode cX7_collect 85 = .ok (.iadd, 1) := by decide +kernel
theorem dX7_collect_86 : decode cX7_collect 86 = .ok (.laload, 1) := by decide +kernel
theorem dX7_collect_87 : decode cX7_collect 87 = .ok (.goto 4, 3) := by decide +kernel
theorem dX7_collect_90 : decode cX7_collect 90 = .ok (.lconst 0, 1) := by decide +kernel
theorem dX7_collect_91 : decode cX7_collect 91 = .ok (.lstore 8, 2) := by decide +kernel
theorem dX7_collect_93 : decode cX7_collect 93 = .ok (.lload 5, 2) := by decide +kernel
theorem dX7_collect_95 : decode cX7_collect 95 = .ok (.lload 8, 2) := by decide +kernel
theorem dX7_collect_97 : decode cX7_collect 97 = .ok (.ldc2_w 44, 3) := by decide +kernel
theorem dX7_collect_100 : decode cX7_collect 100 = .ok (.lxor, 1) := by decide +kernel
theorem dX7_collect_101 : decode cX7_collect 101 = .ok (.land, 1) := by decide +kernel
theorem dX7_collect_102 : decode cX7_collect 102 = .ok (.lconst 0, 1) := by decide +kernel
theorem dX7_collect_103 : decode cX7_collect 103 = .ok (.lcmp, 1) := by decide +kernel
theorem dX7_collect_104 : decode cX7_collect 104 = .ok (.ifCond .eq 28, 3) := by decide +kernel
theorem dX7_collect_107 : decode cX7_collect 107 = .ok (.aload_n 0, 1) := by decide +kernel
theorem dX7_collect_108 : decode cX7_collect 108 = .ok (.iload_n 1, 1) := by decide +kernel
theorem dX7_collect_109 : decode cX7_collect 109 = .ok (.iload_n 2, 1) := by decide +kernel
theorem dX7_collect_110 : decode cX7_collect 110 = .ok (.iload 7, 2) := by decide +kernel
theorem dX7_collect_112 : decode cX7_collect 112 = .ok (.iload_n 2, 1) := by decide +kernel
theorem dX7_collect_113 : decode cX7_collect 113 = .ok (.isub, 1) := by decide +kernel
theorem dX7_collect_114 : decode cX7_collect 114 = .ok (.iconst 1, 1) := by decide +kernel
theorem dX7_collect_115 : decode cX7_collect 115 = .ok (.iadd, 1) := by decide +kernel
theorem dX7_collect_116 : decode cX7_collect 116 = .ok (.lload 5, 2) := by decide +kernel
theorem dX7_collect_118 : decode cX7_collect 118 = .ok (.lload_n 3, 1) := by decide +kernel
theorem dX7_collect_119 : decode cX7_collect 119 = .ok (.ldc2_w 44, 3) := by decide +kernel
theorem dX7_collect_122 : decode cX7_collect 122 = .ok (.lxor, 1) := by decide +kernel
theorem dX7_collect_123 : decode cX7_collect 123 = .ok (.lload 8, 2) := by decide +kernel
theorem dX7_collect_125 : decode cX7_collect 125 = .ok (.ldc2_w 44, 3) := by decide +kernel
theorem dX7_collect_128 : decode cX7_collect 128 = .ok (.lxor, 1) := by decide +kernel
theorem dX7_collect_129 : decode cX7_collect 129 = .ok (.invokevirtual 46, 3) := by decide +kernel
theorem dX7_collect_132 : decode cX7_collect 132 = .ok (.lload 5, 2) := by decide +kernel
theorem dX7_collect_134 : decode cX7_collect 134 = .ok (.lload 8, 2) := by decide +kernel
theorem dX7_collect_136 : decode cX7_collect 136 = .ok (.land, 1) := by decide +kernel
theorem dX7_collect_137 : decode cX7_collect 137 = .ok (.lstore 5, 2) := by decide +kernel
theorem dX7_collect_139 : decode cX7_collect 139 = .ok (.iinc 7 1, 3) := by decide +kernel
theorem dX7_collect_142 : decode cX7_collect 142 = .ok (.goto (-97), 3) := by decide +kernel
theorem dX7_collect_145 : decode cX7_collect 145 = .ok (.iinc 2 1, 3) := by decide +kernel
theorem dX7_collect_148 : decode cX7_collect 148 = .ok (.goto (-139), 3) := by decide +kernel
theorem dX7_collect_151 : decode cX7_collect 151 = .ok (.return_, 1) := by decide +kernel
theorem dX7_collectRuns_0 : decode cX7_collectRuns 0 = .ok (.lload 4, 2) := by decide +kernel
theorem dX7_collectRuns_2 : decode cX7_collectRuns 2 = .ok (.lstore 10, 2) := by decide +kernel
theorem dX7_collectRuns_4 : decode cX7_collectRuns 4 = .ok (.iconst 0, 1) := by decide +kernel
theorem dX7_collectRuns_5 : decode cX7_collectRuns 5 = .ok (.istore 12, 2) := by decide +kernel
theorem dX7_collectRuns_7 : decode cX7_collectRuns 7 = .ok (.iload 12, 2) := by decide +kernel
theorem dX7_collectRuns_9 : decode cX7_collectRuns 9 = .ok (.bipush 35, 2) := by decide +kernel
theorem dX7_collectRuns_11 : decode cX7_collectRuns 11 = .ok (.if_icmp .ge 91, 3) := by decide +kernel
theorem dX7_collectRuns_14 : decode cX7_collectRuns 14 = .ok (.lload 10, 2) := by decide +kernel
theorem dX7_collectRuns_16 : decode cX7_collectRuns 16 = .ok (.lconst 0, 1) := by decide +kernel
theorem dX7_collectRuns_17 : decode cX7_collectRuns 17 = .ok (.lcmp, 1) := by decide +kernel
theorem dX7_collectRuns_18 : decode cX7_collectRuns 18 = .ok (.ifCond .eq 84, 3) := by decide +kernel
theorem dX7_collectRuns_21 : decode cX7_collectRuns 21 = .ok (.lload 10, 2) := by decide +kernel
theorem dX7_collectRuns_23 : decode cX7_collectRuns 23 = .ok (.lload 10, 2) := by decide +kernel
theorem dX7_collectRuns_25 : decode cX7_collectRuns 25 = .ok (.lneg, 1) := by decide +kernel
theorem dX7_collectRuns_26 : decode cX7_collectRuns 26 = .ok (.land, 1) := by decide +kernel
theorem dX7_collectRuns_27 : decode cX7_collectRuns 27 = .ok (.lstore 13, 2) := by decide +kernel
theorem dX7_collectRuns_29 : decode cX7_collectRuns 29 = .ok (.lload 10, 2) := by decide +kernel
theorem dX7_collectRuns_31 : decode cX7_collectRuns 31 = .ok (.lload 10, 2) := by decide +kernel
theorem dX7_collectRuns_33 : decode cX7_collectRuns 33 = .ok (.lload 13, 2) := by decide +kernel
theorem dX7_collectRuns_35 : decode cX7_collectRuns 35 = .ok (.ladd, 1) := by decide +kernel
theorem dX7_collectRuns_36 : decode cX7_collectRuns 36 = .ok (.ldc2_w 44, 3) := by decide +kernel
theorem dX7_collectRuns_39 : decode cX7_collectRuns 39 = .ok (.lxor, 1) := by decide +kernel
theorem dX7_collectRuns_40 : decode cX7_collectRuns 40 = .ok (.land, 1) := by decide +kernel
theorem dX7_collectRuns_41 : decode cX7_collectRuns 41 = .ok (.lstore 15, 2) := by decide +kernel
theorem dX7_collectRuns_43 : decode cX7_collectRuns 43 = .ok (.lload 15, 2) := by decide +kernel
theorem dX7_collectRuns_45 : decode cX7_collectRuns 45 = .ok (.lload 6, 2) := by decide +kernel
theorem dX7_collectRuns_47 : decode cX7_collectRuns 47 = .ok (.land, 1) := by decide +kernel
theorem dX7_collectRuns_48 : decode cX7_collectRuns 48 = .ok (.lconst 0, 1) := by decide +kernel
theorem dX7_collectRuns_49 : decode cX7_collectRuns 49 = .ok (.lcmp, 1) := by decide +kernel
theorem dX7_collectRuns_50 : decode cX7_collectRuns 50 = .ok (.ifCond .eq 35, 3) := by decide +kernel
theorem dX7_collectRuns_53 : decode cX7_collectRuns 53 = .ok (.lload 15, 2) := by decide +kernel
theorem dX7_collectRuns_55 : decode cX7_collectRuns 55 = .ok (.lload 8, 2) := by decide +kernel
theorem dX7_collectRuns_57 : decode cX7_collectRuns 57 = .ok (.land, 1) := by decide +kernel
theorem dX7_collectRuns_58 : decode cX7_collectRuns 58 = .ok (.lconst 0, 1) := by decide +kernel
theorem dX7_collectRuns_59 : decode cX7_collectRuns 59 = .ok (.lcmp, 1) := by decide +kernel
theorem dX7_collectRuns_60 : decode cX7_collectRuns 60 = .ok (.ifCond .eq 25, 3) := by decide +kernel
theorem dX7_collectRuns_63 : decode cX7_collectRuns 63 = .ok (.aload_n 0, 1) := by decide +kernel
theorem dX7_collectRuns_64 : decode cX7_collectRuns 64 = .ok (.iload_n 1, 1) := by decide +kernel
theorem dX7_collectRuns_65 : decode cX7_collectRuns 65 = .ok (.lload 13, 2) := by decide +kernel
theorem dX7_collectRuns_67 : decode cX7_collectRuns 67 = .ok (.lconst 1, 1) := by decide +kernel
theorem dX7_collectRuns_68 : decode cX7_collectRuns 68 = .ok (.lsub, 1) := by decide +kernel
theorem dX7_collectRuns_69 : decode cX7_collectRuns 69 = .ok (.invokestatic 50, 3) := by decide +kernel
theorem dX7_collectRuns_72 : decode cX7_collectRuns 72 = .ok (.iload_n 2, 1) := by decide +kernel
theorem dX7_collectRuns_73 : decode cX7_collectRuns 73 = .ok (.lload 15, 2) := by decide +kernel
theorem dX7_collectRuns_75 : decode cX7_collectRuns 75 = .ok (.invokestatic 50, 3) := by decide +kernel
theorem dX7_collectRuns_78 : decode cX7_collectRuns 78 = .ok (.iload_n 3, 1) := by decide +kernel
theorem dX7_collectRuns_79 : decode cX7_collectRuns 79 = .ok (.invokestatic 56, 3) := by decide +kernel
theorem dX7_collectRuns_82 : decode cX7_collectRuns 82 = .ok (.invokevirtual 60, 3) := by decide +kernel
theorem dX7_collectRuns_85 : decode cX7_collectRuns 85 = .ok (.lload 10, 2) := by decide +kernel
theorem dX7_collectRuns_87 : decode cX7_collectRuns 87 = .ok (.lload 15, 2) := by decide +kernel
theorem dX7_collectRuns_89 : decode cX7_collectRuns 89 = .ok (.ldc2_w 44, 3) := by decide +kernel
theorem dX7_collectRuns_92 : decode cX7_collectRuns 92 = .ok (.lxor, 1) := by decide +kernel
theorem dX7_collectRuns_93 : decode cX7_collectRuns 93 = .ok (.land, 1) := by decide +kernel
theorem dX7_collectRuns_94 : decode cX7_collectRuns 94 = .ok (.lstore 10, 2) := by decide +kernel
theorem dX7_collectRuns_96 : decode cX7_collectRuns 96 = .ok (.iinc 12 1, 3) := by decide +kernel
theorem dX7_collectRuns_99 : decode cX7_collectRuns 99 = .ok (.goto (-92), 3) := by decide +kernel
theorem dX7_collectRuns_102 : decode cX7_collectRuns 102 = .ok (.return_, 1) := by decide +kernel
theorem dX7_addSorted_0 : decode cX7_addSorted 0 = .ok (.iload_n 1, 1) := by decide +kernel
theorem dX7_addSorted_1 : decode cX7_addSorted 1 = .ok (.sipush 349, 3) := by decide +kernel
theorem dX7_addSorted_4 : decode cX7_addSorted 4 = .ok (.imul, 1) := by decide +kernel
theorem dX7_addSorted_5 : decode cX7_addSorted 5 = .ok (.istore_n 3, 1) := by decide +kernel
theorem dX7_addSorted_6 : decode cX7_addSorted 6 = .ok (.aload_n 0, 1) := by decide +kernel
theorem dX7_addSorted_7 : decode cX7_addSorted 7 = .ok (.getfield 19, 3) := by decide +kernel
theorem dX7_addSorted_10 : decode cX7_addSorted 10 = .ok (.iload_n 1, 1) := by decide +kernel
theorem dX7_addSorted_11 : decode cX7_addSorted 11 = .ok (.iaload, 1) := by decide +kernel
theorem dX7_addSorted_12 : decode cX7_addSorted 12 = .ok (.istore 4, 2) := by decide +kernel
theorem dX7_addSorted_14 : decode cX7_addSorted 14 = .ok (.iload 4, 2) := by decide +kernel
theorem dX7_addSorted_16 : decode cX7_addSorted 16 = .ok (.sipush 349, 3) := by decide +kernel
theorem dX7_addSorted_19 : decode cX7_addSorted 19 = .ok (.if_icmp .lt 4, 3) := by decide +kernel
theorem dX7_addSorted_22 : decode cX7_addSorted 22 = .ok (.return_, 1) := by decide +kernel
theorem dX7_addSorted_23 : decode cX7_addSorted 23 = .ok (.iload 4, 2) := by decide +kernel
theorem dX7_addSorted_25 : decode cX7_addSorted 25 = .ok (.ifCond .le 44, 3) := by decide +kernel
theorem dX7_addSorted_28 : decode cX7_addSorted 28 = .ok (.aload_n 0, 1) := by decide +kernel
theorem dX7_addSorted_29 : decode cX7_addSorted 29 = .ok (.getfield 15, 3) := by decide +kernel
theorem dX7_addSorted_32 : decode cX7_addSorted 32 = .ok (.iload_n 3, 1) := by decide +kernel
theorem dX7_addSorted_33 : decode cX7_addSorted 33 = .ok (.iload 4, 2) := by decide +kernel
theorem dX7_addSorted_35 : decode cX7_addSorted 35 = .ok (.iadd, 1) := by decide +kernel
theorem dX7_addSorted_36 : decode cX7_addSorted 36 = .ok (.iconst 1, 1) := by decide +kernel
theorem dX7_addSorted_37 : decode cX7_addSorted 37 = .ok (.isub, 1) := by decide +kernel
theorem dX7_addSorted_38 : decode cX7_addSorted 38 = .ok (.iaload, 1) := by decide +kernel
theorem dX7_addSorted_39 : decode cX7_addSorted 39 = .ok (.iload_n 2, 1) := by decide +kernel
theorem dX7_addSorted_40 : decode cX7_addSorted 40 = .ok (.if_icmp .le 29, 3) := by decide +kernel
theorem dX7_addSorted_43 : decode cX7_addSorted 43 = .ok (.aload_n 0, 1) := by decide +kernel
theorem dX7_addSorted_44 : decode cX7_addSorted 44 = .ok (.getfield 15, 3) := by decide +kernel
theorem dX7_addSorted_47 : decode cX7_addSorted 47 = .ok (.iload_n 3, 1) := by decide +kernel
theorem dX7_addSorted_48 : decode cX7_addSorted 48 = .ok (.iload 4, 2) := by decide +kernel
theorem dX7_addSorted_50 : decode cX7_addSorted 50 = .ok (.iadd, 1) := by decide +kernel
theorem dX7_addSorted_51 : decode cX7_addSorted 51 = .ok (.aload_n 0, 1) := by decide +kernel
theorem dX7_addSorted_52 : decode cX7_addSorted 52 = .ok (.getfield 15, 3) := by decide +kernel
theorem dX7_addSorted_55 : decode cX7_addSorted 55 = .ok (.iload_n 3, 1) := by decide +kernel
theorem dX7_addSorted_56 : decode cX7_addSorted 56 = .ok (.iload 4, 2) := by decide +kernel
theorem dX7_addSorted_58 : decode cX7_addSorted 58 = .ok (.iadd, 1) := by decide +kernel
theorem dX7_addSorted_59 : decode cX7_addSorted 59 = .ok (.iconst 1, 1) := by decide +kernel
theorem dX7_addSorted_60 : decode cX7_addSorted 60 = .ok (.isub, 1) := by decide +kernel
theorem dX7_addSorted_61 : decode cX7_addSorted 61 = .ok (.iaload, 1) := by decide +kernel
theorem dX7_addSorted_62 : decode cX7_addSorted 62 = .ok (.iastore, 1) := by decide +kernel
theorem dX7_addSorted_63 : decode cX7_addSorted 63 = .ok (.iinc 4 (-1), 3) := by decide +kernel
theorem dX7_addSorted_66 : decode cX7_addSorted 66 = .ok (.goto (-43), 3) := by decide +kernel
theorem dX7_addSorted_69 : decode cX7_addSorted 69 = .ok (.aload_n 0, 1) := by decide +kernel
theorem dX7_addSorted_70 : decode cX7_addSorted 70 = .ok (.getfield 15, 3) := by decide +kernel
theorem dX7_addSorted_73 : decode cX7_addSorted 73 = .ok (.iload_n 3, 1) := by decide +kernel
theorem dX7_addSorted_74 : decode cX7_addSorted 74 = .ok (.iload 4, 2) := by decide +kernel
theorem dX7_addSorted_76 : decode cX7_addSorted 76 = .ok (.iadd, 1) := by decide +kernel
theorem dX7_addSorted_77 : decode cX7_addSorted 77 = .ok (.iload_n 2, 1) := by decide +kernel
theorem dX7_addSorted_78 : decode cX7_addSorted 78 = .ok (.iastore, 1) := by decide +kernel
theorem dX7_addSorted_79 : decode cX7_addSorted 79 = .ok (.aload_n 0, 1) := by decide +kernel
theorem dX7_addSorted_80 : decode cX7_addSorted 80 = .ok (.getfield 19, 3) := by decide +kernel
theorem dX7_addSorted_83 : decode cX7_addSorted 83 = .ok (.iload_n 1, 1) := by decide +kernel
theorem dX7_addSorted_84 : decode cX7_addSorted 84 = .ok (.dup2, 1) := by decide +kernel
theorem dX7_addSorted_85 : decode cX7_addSorted 85 = .ok (.iaload, 1) := by decide +kernel
theorem dX7_addSorted_86 : decode cX7_addSorted 86 = .ok (.iconst 1, 1) := by decide +kernel
theorem dX7_addSorted_87 : decode cX7_addSorted 87 = .ok (.iadd, 1) := by decide +kernel
theorem dX7_addSorted_88 : decode cX7_addSorted 88 = .ok (.iastore, 1) := by decide +kernel
theorem dX7_addSorted_89 : decode cX7_addSorted 89 = .ok (.return_, 1) := by decide +kernel
theorem dX8_init_0 : decode cX8_init 0 = .ok (.aload_n 0, 1) := by decide +kernel
theorem dX8_init_1 : decode cX8_init 1 = .ok (.invokespecial 1, 3) := by decide +kernel
theorem dX8_init_4 : decode cX8_init 4 = .ok (.aload_n 0, 1) := by decide +kernel
theorem dX8_init_5 : decode cX8_init 5 = .ok (.new 7, 3) := by decide +kernel
theorem dX8_init_8 : decode cX8_init 8 = .ok (.dup, 1) := by decide +kernel
theorem dX8_init_9 : decode cX8_init 9 = .ok (.invokespecial 9, 3) := by decide +kernel
theorem dX8_init_12 : decode cX8_init 12 = .ok (.putfield 10, 3) := by decide +kernel
theorem dX8_init_15 : decode cX8_init 15 = .ok (.aload_n 0, 1) := by decide +kernel
theorem dX8_init_16 : decode cX8_init 16 = .ok (.new 16, 3) := by decide +kernel
theorem dX8_init_19 : decode cX8_init 19 = .ok (.dup, 1) := by decide +kernel
theorem dX8_init_20 : decode cX8_init 20 = .ok (.invokespecial 18, 3) := by decide +kernel
theorem dX8_init_23 : decode cX8_init 23 = .ok (.putfield 19, 3) := by decide +kernel
theorem dX8_init_26 : decode cX8_init 26 = .ok (.aload_n 0, 1) := by decide +kernel
theorem dX8_init_27 : decode cX8_init 27 = .ok (.new 23, 3) := by decide +kernel
theorem dX8_init_30 : decode cX8_init 30 = .ok (.dup, 1) := by decide +kernel
theorem dX8_init_31 : decode cX8_init 31 = .ok (.invokespecial 25, 3) := by decide +kernel
theorem dX8_init_34 : decode cX8_init 34 = .ok (.putfield 26, 3) := by decide +kernel
theorem dX8_init_37 : decode cX8_init 37 = .ok (.return_, 1) := by decide +kernel
theorem dX8_copyFrom_0 : decode cX8_copyFrom 0 = .ok (.aload_n 0, 1) := by decide +kernel
theorem dX8_copyFrom_1 : decode cX8_copyFrom 1 = .ok (.getfield 10, 3) := by decide +kernel
theorem dX8_copyFrom_4 : decode cX8_copyFrom 4 = .ok (.aload_n 1, 1) := by decide +kernel
theorem dX8_copyFrom_5 : decode cX8_copyFrom 5 = .ok (.getfield 10, 3) := by decide +kernel
theorem dX8_copyFrom_8 : decode cX8_copyFrom 8 = .ok (.invokevirtual 30, 3) := by decide +kernel
theorem dX8_copyFrom_11 : decode cX8_copyFrom 11 = .ok (.aload_n 0, 1) := by decide +kernel
theorem dX8_copyFrom_12 : decode cX8_copyFrom 12 = .ok (.getfield 19, 3) := by decide +kernel
theorem dX8_copyFrom_15 : decode cX8_copyFrom 15 = .ok (.aload_n 1, 1) := by decide +kernel
theorem dX8_copyFrom_16 : decode cX8_copyFrom 16 = .ok (.getfield 19, 3) := by decide +kernel
theorem dX8_copyFrom_19 : decode cX8_copyFrom 19 = .ok (.invokevirtual 34, 3) := by decide +kernel
theorem dX8_copyFrom_22 : decode cX8_copyFrom 22 = .ok (.aload_n 0, 1) := by decide +kernel
theorem dX8_copyFrom_23 : decode cX8_copyFrom 23 = .ok (.getfield 26, 3) := by decide +kernel
theorem dX8_copyFrom_26 : decode cX8_copyFrom 26 = .ok (.aload_n 1, 1) := by decide +kernel
theorem dX8_copyFrom_27 : decode cX8_copyFrom 27 = .ok (.getfield 26, 3) := by decide +kernel
theorem dX8_copyFrom_30 : decode cX8_copyFrom 30 = .ok (.invokevirtual 37, 3) := by decide +kernel
theorem dX8_copyFrom_33 : decode cX8_copyFrom 33 = .ok (.return_, 1) := by decide +kernel
theorem dX9_init_0 : decode cX9_init 0 = .ok (.aload_n 0, 1) := by decide +kernel
theorem dX9_init_1 : decode cX9_init 1 = .ok (.invokespecial 3, 3) := by decide +kernel
theorem dX9_init_4 : decode cX9_init 4 = .ok (.aload_n 0, 1) := by decide +kernel
theorem dX9_init_5 : decode cX9_init 5 = .ok (.sipush 160, 3) := by decide +kernel
theorem dX9_init_8 : decode cX9_init 8 = .ok (.newarray .int, 2) := by decide +kernel
theorem dX9_init_10 : decode cX9_init 10 = .ok (.putfield 9, 3) := by decide +kernel
theorem dX9_init_13 : decode cX9_init 13 = .ok (.return_, 1) := by decide +kernel
theorem dX9_add_0 : decode cX9_add 0 = .ok (.aload_n 0, 1) := by decide +kernel
theorem dX9_add_1 : decode cX9_add 1 = .ok (.getfield 15, 3) := by decide +kernel
theorem dX9_add_4 : decode cX9_add 4 = .ok (.sipush 160, 3) := by decide +kernel
theorem dX9_add_7 : decode cX9_add 7 = .ok (.if_icmp .lt 5, 3) := by decide +kernel
theorem dX9_add_10 : decode cX9_add 10 = .ok (.iconst 0, 1) := by decide +kernel
theorem dX9_add_11 : decode cX9_add 11 = .ok (.ireturn, 1) := by decide +kernel
theorem dX9_add_12 : decode cX9_add 12 = .ok (.aload_n 0, 1) := by decide +kernel
theorem dX9_add_13 : decode cX9_add 13 = .ok (.getfield 9, 3) := by decide +kernel
theorem dX9_add_16 : decode cX9_add 16 = .ok (.aload_n 0, 1) := by decide +kernel
theorem dX9_add_17 : decode cX9_add 17 = .ok (.getfield 15, 3) := by decide +kernel
theorem dX9_add_20 : decode cX9_add 20 = .ok (.iload_n 1, 1) := by decide +kernel
theorem dX9_add_21 : decode cX9_add 21 = .ok (.iastore, 1) := by decide +kernel
theorem dX9_add_22 : decode cX9_add 22 = .ok (.aload_n 0, 1) := by decide +kernel
theorem dX9_add_23 : decode cX9_add 23 = .ok (.dup, 1) := by decide +kernel
theorem dX9_add_24 : decode cX9_add 24 = .ok (.getfield 15, 3) := by decide +kernel
theorem dX9_add_27 : decode cX9_add 27 = .ok (.iconst 1, 1) := by decide +kernel
theorem dX9_add_28 : decode cX9_add 28 = .ok (.iadd, 1) := by decide +kernel
theorem dX9_add_29 : decode cX9_add 29 = .ok (.putfield 15, 3) := by decide +kernel
theorem dX9_add_32 : decode cX9_add 32 = .ok (.iconst 1, 1) := by decide +kernel
theorem dX9_add_33 : decode cX9_add 33 = .ok (.ireturn, 1) := by decide +kernel
theorem dX9_findFault_0 : decode cX9_findFault 0 = .ok (.iconst 0, 1) := by decide +kernel
theorem dX9_findFault_1 : decode cX9_findFault 1 = .ok (.istore_n 1, 1) := by decide +kernel
theorem dX9_findFault_2 : decode cX9_findFault 2 = .ok (.iconst 0, 1) := by decide +kernel
theorem dX9_findFault_3 : decode cX9_findFault 3 = .ok (.istore_n 2, 1) := by decide +kernel
theorem dX9_findFault_4 : decode cX9_findFault 4 = .ok (.bipush 8, 2) := by decide +kernel
theorem dX9_findFault_6 : decode cX9_findFault 6 = .ok (.istore_n 3, 1) := by decide +kernel
theorem dX9_findFault_7 : decode cX9_findFault 7 = .ok (.iconst 0, 1) := by decide +kernel
theorem dX9_findFault_8 : decode cX9_findFault 8 = .ok (.istore 4, 2) := by decide +kernel
theorem dX9_findFault_10 : decode cX9_findFault 10 = .ok (.iload 4, 2) := by decide +kernel
theorem dX9_findFault_12 : decode cX9_findFault 12 = .ok (.aload_n 0, 1) := by decide +kernel
theorem dX9_findFault_13 : decode cX9_findFault 13 = .ok (.getfield 15, 3) := by decide +kernel
theorem dX9_findFault_16 : decode cX9_findFault 16 = .ok (.if_icmp .ge 110, 3) := by decide +kernel
theorem dX9_findFault_19 : decode cX9_findFault 19 = .ok (.aload_n 0, 1) := by decide +kernel
theorem dX9_findFault_20 : decode cX9_findFault 20 = .ok (.getfield 9, 3) := by decide +kernel
theorem dX9_findFault_23 : decode cX9_findFault 23 = .ok (.iload 4, 2) := by decide +kernel
theorem dX9_findFault_25 : decode cX9_findFault 25 = .ok (.iaload, 1) := by decide +kernel
theorem dX9_findFault_26 : decode cX9_findFault 26 = .ok (.istore 5, 2) := by decide +kernel
theorem dX9_findFault_28 : decode cX9_findFault 28 = .ok (.iload_n 2, 1) := by decide +kernel
theorem dX9_findFault_29 : decode cX9_findFault 29 = .ok (.ifCond .le 16, 3) := by decide +kernel
theorem dX9_findFault_32 : decode cX9_findFault 32 = .ok (.iload_n 1, 1) := by decide +kernel
theorem dX9_findFault_33 : decode cX9_findFault 33 = .ok (.ifCond .eq 8, 3) := by decide +kernel
theorem dX9_findFault_36 : decode cX9_findFault 36 = .ok (.iload_n 2, 1) := by decide +kernel
theorem dX9_findFault_37 : decode cX9_findFault 37 = .ok (.iload_n 3, 1) := by decide +kernel
theorem dX9_findFault_38 : decode cX9_findFault 38 = .ok (.if_icmp .ne 7, 3) := by decide +kernel
theorem dX9_findFault_41 : decode cX9_findFault 41 = .ok (.iconst 1, 1) := by decide +kernel
theorem dX9_findFault_42 : decode cX9_findFault 42 = .ok (.goto 4, 3) := by decide +kernel
theorem dX9_findFault_45 : decode cX9_findFault 45 = .ok (.iconst 0, 1) := by decide +kernel
theorem dX9_findFault_46 : decode cX9_findFault 46 = .ok (.istore 6, 2) := by decide +kernel
theorem dX9_findFault_48 : decode cX9_findFault 48 = .ok (.iload 5, 2) := by decide +kernel
theorem dX9_findFault_50 : decode cX9_findFault 50 = .ok (.invokestatic 19, 3) := by decide +kernel
theorem dX9_findFault_53 : decode cX9_findFault 53 = .ok (.ifCond .eq 14, 3) := by decide +kernel
theorem dX9_findFault_56 : decode cX9_findFault 56 = .ok (.iload_n 2, 1) := by decide +kernel
theorem dX9_findFault_57 : decode cX9_findFault 57 = .ok (.iload_n 3, 1) := by decide +kernel
theorem dX9_findFault_58 : decode cX9_findFault 58 = .ok (.if_icmp .ge 9, 3) := by decide +kernel
theorem dX9_findFault_61 : decode cX9_findFault 61 = .ok (.iinc 2 1, 3) := by decide +kernel
theorem dX9_findFault_64 : decode cX9_findFault 64 = .ok (.goto 56, 3) := by decide +kernel
theorem dX9_findFault_67 : decode cX9_findFault 67 = .ok (.iload 5, 2) := by decide +kernel
theorem dX9_findFault_69 : decode cX9_findFault 69 = .ok (.bipush 47, 2) := by decide +kernel
theorem dX9_findFault_71 : decode cX9_findFault 71 = .ok (.if_icmp .ne 24, 3) := by decide +kernel
theorem dX9_findFault_74 : decode cX9_findFault 74 = .ok (.iload 6, 2) := by decide +kernel
theorem dX9_findFault_76 : decode cX9_findFault 76 = .ok (.ifCond .eq 19, 3) := by decide +kernel
theorem dX9_findFault_79 : decode cX9_findFault 79 = .ok (.iload_n 1, 1) := by decide +kernel
theorem dX9_findFault_80 : decode cX9_findFault 80 = .ok (.bipush 7, 2) := by decide +kernel
theorem dX9_findFault_82 : decode cX9_findFault 82 = .ok (.if_icmp .ge 13, 3) := by decide +kernel
theorem dX9_findFault_85 : decode cX9_findFault 85 = .ok (.iload_n 2, 1) := by decide +kernel
theorem dX9_findFault_86 : decode cX9_findFault 86 = .ok (.istore_n 3, 1) := by decide +kernel
theorem dX9_findFault_87 : decode cX9_findFault 87 = .ok (.iconst 0, 1) := by decide +kernel
theorem dX9_findFault_88 : decode cX9_findFault 88 = .ok (.istore_n 2, 1) := by decide +kernel
theorem dX9_findFault_89 : decode cX9_findFault 89 = .ok (.iinc 1 1, 3) := by decide +kernel
theorem dX9_findFault_92 : decode cX9_findFault 92 = .ok (.goto 28, 3) := by decide +kernel
theorem dX9_findFault_95 : decode cX9_findFault 95 = .ok (.iload 5, 2) := by decide +kernel
theorem dX9_findFault_97 : decode cX9_findFault 97 = .ok (.bipush 59, 2) := by decide +kernel
theorem dX9_findFault_99 : decode cX9_findFault 99 = .ok (.if_icmp .ne 18, 3) := by decide +kernel
theorem dX9_findFault_102 : decode cX9_findFault 102 = .ok (.iload 6, 2) := by decide +kernel
theorem dX9_findFault_104 : decode cX9_findFault 104 = .ok (.ifCond .eq 13, 3) := by decide +kernel
theorem dX9_findFault_107 : decode cX9_findFault 107 = .ok (.bipush 8, 2) := by decide +kernel
theorem dX9_findFault_109 : decode cX9_findFault 109 = .ok (.istore_n 3, 1) := by decide +kernel
theorem dX9_findFault_110 : decode cX9_findFault 110 = .ok (.iconst 0, 1) := by decide +kernel
theorem dX9_findFault_111 : decode cX9_findFault 111 = .ok (.istore_n 2, 1) := by decide +kernel
theorem dX9_findFault_112 : decode cX9_findFault 112 = .ok (.iconst 0, 1) := by decide +kernel
theorem dX9_findFault_113 : decode cX9_findFault 113 = .ok (.istore_n 1, 1) := by decide +kernel
theorem dX9_findFault_114 : decode cX9_findFault 114 = .ok (.goto 6, 3) := by decide +kernel
theorem dX9_findFault_117 : decode cX9_findFault 117 = .ok (.iload 4, 2) := by decide +kernel
theorem dX9_findFault_119 : decode cX9_findFault 119 = .ok (.ireturn, 1) := by decide +kernel
theorem dX9_findFault_120 : decode cX9_findFault 120 = .ok (.iinc 4 1, 3) := by decide +kernel
theorem dX9_findFault_123 : decode cX9_findFault 123 = .ok (.goto (-113), 3) := by decide +kernel
theorem dX9_findFault_126 : decode cX9_findFault 126 = .ok (.iload_n 1, 1) := by decide +kernel
theorem dX9_findFault_127 : decode cX9_findFault 127 = .ok (.ifCond .ne 12, 3) := by decide +kernel
theorem dX9_findFault_130 : decode cX9_findFault 130 = .ok (.iload_n 2, 1) := by decide +kernel
theorem dX9_findFault_131 : decode cX9_findFault 131 = .ok (.ifCond .ne 8, 3) := by decide +kernel
theorem dX9_findFault_134 : decode cX9_findFault 134 = .ok (.bipush (-4), 2) := by decide +kernel
theorem dX9_findFault_136 : decode cX9_findFault 136 = .ok (.goto 7, 3) := by decide +kernel
theorem dX9_findFault_139 : decode cX9_findFault 139 = .ok (.aload_n 0, 1) := by decide +kernel
theorem dX9_findFault_140 : decode cX9_findFault 140 = .ok (.getfield 15, 3) := by decide +kernel
theorem dX9_findFault_143 : decode cX9_findFault 143 = .ok (.ireturn, 1) := by decide +kernel
theorem dX9_countImages_0 : decode cX9_countImages 0 = .ok (.iconst 0, 1) := by decide +kernel
theorem dX9_countImages_1 : decode cX9_countImages 1 = .ok (.istore_n 1, 1) := by decide +kernel
theorem dX9_countImages_2 : decode cX9_countImages 2 = .ok (.iconst 0, 1) := by decide +kernel
theorem dX9_countImages_3 : decode cX9_countImages 3 = .ok (.istore_n 2, 1) := by decide +kernel
theorem dX9_countImages_4 : decode cX9_countImages 4 = .ok (.iload_n 2, 1) := by decide +kernel
theorem dX9_countImages_5 : decode cX9_countImages 5 = .ok (.aload_n 0, 1) := by decide +kernel
theorem dX9_countImages_6 : decode cX9_countImages 6 = .ok (.getfield 15, 3) := by decide +kernel
theorem dX9_countImages_9 : decode cX9_countImages 9 = .ok (.if_icmp .ge 23, 3) := by decide +kernel
theorem dX9_countImages_12 : decode cX9_countImages 12 = .ok (.aload_n 0, 1) := by decide +kernel
theorem dX9_countImages_13 : decode cX9_countImages 13 = .ok (.getfield 9, 3) := by decide +kernel
theorem dX9_countImages_16 : decode cX9_countImages 16 = .ok (.iload_n 2, 1) := by decide +kernel
theorem dX9_countImages_17 : decode cX9_countImages 17 = .ok (.iaload, 1) := by decide +kernel
theorem dX9_countImages_18 : decode cX9_countImages 18 = .ok (.bipush 59, 2) := by decide +kernel
theorem dX9_countImages_20 : decode cX9_countImages 20 = .ok (.if_icmp .ne 6, 3) := by decide +kernel
theorem dX9_countImages_23 : decode cX9_countImages 23 = .ok (.iinc 1 1, 3) := by decide +kernel
theorem dX9_countImages_26 : decode cX9_countImages 26 = .ok (.iinc 2 1, 3) := by decide +kernel
theorem dX9_countImages_29 : decode cX9_countImages 29 = .ok (.goto (-25), 3) := by decide +kernel
theorem dX9_countImages_32 : decode cX9_countImages 32 = .ok (.iload_n 1, 1) := by decide +kernel
theorem dX9_countImages_33 : decode cX9_countImages 33 = .ok (.ireturn, 1) := by decide +kernel
theorem dX9_addImagesTo_0 : decode cX9_addImagesTo 0 = .ok (.iconst 0, 1) := by decide +kernel
theorem dX9_addImagesTo_1 : decode cX9_addImagesTo 1 = .ok (.istore_n 2, 1) := by decide +kernel
theorem dX9_addImagesTo_2 : decode cX9_addImagesTo 2 = .ok (.iconst 0, 1) := by decide +kernel
theorem dX9_addImagesTo_3 : decode cX9_addImagesTo 3 = .ok (.istore_n 3, 1) := by decide +kernel
theorem dX9_addImagesTo_4 : decode cX9_addImagesTo 4 = .ok (.iload_n 3, 1) := by decide +kernel
theorem dX9_addImagesTo_5 : decode cX9_addImagesTo 5 = .ok (.aload_n 0, 1) := by decide +kernel
theorem dX9_addImagesTo_6 : decode cX9_addImagesTo 6 = .ok (.getfield 15, 3) := by decide +kernel
theorem dX9_addImagesTo_9 : decode cX9_addImagesTo 9 = .ok (.if_icmp .ge 31, 3) := by decide +kernel
theorem dX9_addImagesTo_12 : decode cX9_addImagesTo 12 = .ok (.aload_n 0, 1) := by decide +kernel
theorem dX9_addImagesTo_13 : decode cX9_addImagesTo 13 = .ok (.getfield 9, 3) := by decide +kernel
theorem dX9_addImagesTo_16 : decode cX9_addImagesTo 16 = .ok (.iload_n 3, 1) := by decide +kernel
theorem dX9_addImagesTo_17 : decode cX9_addImagesTo 17 = .ok (.iaload, 1) := by decide +kernel
theorem dX9_addImagesTo_18 : decode cX9_addImagesTo 18 = .ok (.bipush 59, 2) := by decide +kernel
theorem dX9_addImagesTo_20 : decode cX9_addImagesTo 20 = .ok (.if_icmp .ne 14, 3) := by decide +kernel
theorem dX9_addImagesTo_23 : decode cX9_addImagesTo 23 = .ok (.aload_n 0, 1) := by decide +kernel
theorem dX9_addImagesTo_24 : decode cX9_addImagesTo 24 = .ok (.aload_n 1, 1) := by decide +kernel
theorem dX9_addImagesTo_25 : decode cX9_addImagesTo 25 = .ok (.iload_n 2, 1) := by decide +kernel
theorem dX9_addImagesTo_26 : decode cX9_addImagesTo 26 = .ok (.iload_n 3, 1) := by decide +kernel
theorem dX9_addImagesTo_27 : decode cX9_addImagesTo 27 = .ok (.invokevirtual 23, 3) := by decide +kernel
theorem dX9_addImagesTo_30 : decode cX9_addImagesTo 30 = .ok (.iload_n 3, 1) := by decide +kernel
theorem dX9_addImagesTo_31 : decode cX9_addImagesTo 31 = .ok (.iconst 1, 1) := by decide +kernel
theorem dX9_addImagesTo_32 : decode cX9_addImagesTo 32 = .ok (.iadd, 1) := by decide +kernel
theorem dX9_addImagesTo_33 : decode cX9_addImagesTo 33 = .ok (.istore_n 2, 1) := by decide +kernel
theorem dX9_addImagesTo_34 : decode cX9_addImagesTo 34 = .ok (.iinc 3 1, 3) := by decide +kernel
theorem dX9_addImagesTo_37 : decode cX9_addImagesTo 37 = .ok (.goto (-33), 3) := by decide +kernel
theorem dX9_addImagesTo_40 : decode cX9_addImagesTo 40 = .ok (.return_, 1) := by decide +kernel
theorem dX9_addImage_0 : decode cX9_addImage 0 = .ok (.iconst 0, 1) := by decide +kernel
theorem dX9_addImage_1 : decode cX9_addImage 1 = .ok (.istore 4, 2) := by decide +kernel
theorem dX9_addImage_3 : decode cX9_addImage 3 = .ok (.iload_n 2, 1) := by decide +kernel
theorem dX9_addImage_4 : decode cX9_addImage 4 = .ok (.iload 4, 2) := by decide +kernel
theorem dX9_addImage_6 : decode cX9_addImage 6 = .ok (.iadd, 1) := by decide +kernel
theorem dX9_addImage_7 : decode cX9_addImage 7 = .ok (.iload_n 3, 1) := by decide +kernel
theorem dX9_addImage_8 : decode cX9_addImage 8 = .ok (.if_icmp .ge 24, 3) := by decide +kernel
theorem dX9_addImage_11 : decode cX9_addImage 11 = .ok (.aload_n 0, 1) := by decide +kernel
theorem dX9_addImage_12 : decode cX9_addImage 12 = .ok (.getfield 9, 3) := by decide +kernel
theorem dX9_addImage_15 : decode cX9_addImage 15 = .ok (.iload_n 2, 1) := by decide +kernel
theorem dX9_addImage_16 : decode cX9_addImage 16 = .ok (.iload 4, 2) := by decide +kernel
theorem dX9_addImage_18 : decode cX9_addImage 18 = .ok (.iadd, 1) := by decide +kernel
theorem dX9_addImage_19 : decode cX9_addImage 19 = .ok (.iaload, 1) := by decide +kernel
theorem dX9_addImage_20 : decode cX9_addImage 20 = .ok (.invokestatic 19, 3) := by decide +kernel
theorem dX9_addImage_23 : decode cX9_addImage 23 = .ok (.ifCond .eq 9, 3) := by decide +kernel
theorem dX9_addImage_26 : decode cX9_addImage 26 = .ok (.iinc 4 1, 3) := by decide +kernel
theorem dX9_addImage_29 : decode cX9_addImage 29 = .ok (.goto (-26), 3) := by decide +kernel
theorem dX9_addImage_32 : decode cX9_addImage 32 = .ok (.iload_n 3, 1) := by decide +kernel
theorem dX9_addImage_33 : decode cX9_addImage 33 = .ok (.iload_n 2, 1) := by decide +kernel
theorem dX9_addImage_34 : decode cX9_addImage 34 = .ok (.isub, 1) := by decide +kernel
theorem dX9_addImage_35 : decode cX9_addImage 35 = .ok (.iconst 1, 1) := by decide +kernel
theorem dX9_addImage_36 : decode cX9_addImage 36 = .ok (.iadd, 1) := by decide +kernel
theorem dX9_addImage_37 : decode cX9_addImage 37 = .ok (.iload 4, 2) := by decide +kernel
theorem dX9_addImage_39 : decode cX9_addImage 39 = .ok (.iconst 1, 1) := by decide +kernel
theorem dX9_addImage_40 : decode cX9_addImage 40 = .ok (.iadd, 1) := by decide +kernel
theorem dX9_addImage_41 : decode cX9_addImage 41 = .ok (.idiv, 1) := by decide +kernel
theorem dX9_addImage_42 : decode cX9_addImage 42 = .ok (.istore 5, 2) := by decide +kernel
theorem dX9_addImage_44 : decode cX9_addImage 44 = .ok (.aload_n 1, 1) := by decide +kernel
theorem dX9_addImage_45 : decode cX9_addImage 45 = .ok (.iload 4, 2) := by decide +kernel
theorem dX9_addImage_47 : decode cX9_addImage 47 = .ok (.iload 5, 2) := by decide +kernel
theorem dX9_addImage_49 : decode cX9_addImage 49 = .ok (.invokevirtual 27, 3) := by decide +kernel
theorem dX9_addImage_52 : decode cX9_addImage 52 = .ok (.istore 6, 2) := by decide +kernel
theorem dX9_addImage_54 : decode cX9_addImage 54 = .ok (.iload_n 2, 1) := by decide +kernel
theorem dX9_addImage_55 : decode cX9_addImage 55 = .ok (.istore 7, 2) := by decide +kernel
theorem dX9_addImage_57 : decode cX9_addImage 57 = .ok (.iload 7, 2) := by decide +kernel
theorem dX9_addImage_59 : decode cX9_addImage 59 = .ok (.iload_n 3, 1) := by decide +kernel
theorem dX9_addImage_60 : decode cX9_addImage 60 = .ok (.if_icmp .ge 58, 3) := by decide +kernel
theorem dX9_addImage_63 : decode cX9_addImage 63 = .ok (.aload_n 0, 1) := by decide +kernel
theorem dX9_addImage_64 : decode cX9_addImage 64 = .ok (.getfield 9, 3) := by decide +kernel
theorem dX9_addImage_67 : decode cX9_addImage 67 = .ok (.iload 7, 2) := by decide +kernel
theorem dX9_addImage_69 : decode cX9_addImage 69 = .ok (.iaload, 1) := by decide +kernel
theorem dX9_addImage_70 : decode cX9_addImage 70 = .ok (.invokestatic 19, 3) := by decide +kernel
theorem dX9_addImage_73 : decode cX9_addImage 73 = .ok (.ifCond .eq 39, 3) := by decide +kernel
theorem dX9_addImage_76 : decode cX9_addImage 76 = .ok (.iload 7, 2) := by decide +kernel
theorem dX9_addImage_78 : decode cX9_addImage 78 = .ok (.iload_n 2, 1) := by decide +kernel
theorem dX9_addImage_79 : decode cX9_addImage 79 = .ok (.isub, 1) := by decide +kernel
theorem dX9_addImage_80 : decode cX9_addImage 80 = .ok (.istore 8, 2) := by decide +kernel
theorem dX9_addImage_82 : decode cX9_addImage 82 = .ok (.aload_n 1, 1) := by decide +kernel
theorem dX9_addImage_83 : decode cX9_addImage 83 = .ok (.iload 6, 2) := by decide +kernel
theorem dX9_addImage_85 : decode cX9_addImage 85 = .ok (.iload 8, 2) := by decide +kernel
theorem dX9_addImage_87 : decode cX9_addImage 87 = .ok (.iload 4, 2) := by decide +kernel
theorem dX9_addImage_89 : decode cX9_addImage 89 = .ok (.iconst 1, 1) := by decide +kernel
theorem dX9_addImage_90 : decode cX9_addImage 90 = .ok (.iadd, 1) := by decide +kernel
theorem dX9_addImage_91 : decode cX9_addImage 91 = .ok (.irem, 1) := by decide +kernel
theorem dX9_addImage_92 : decode cX9_addImage 92 = .ok (.iload 8, 2) := by decide +kernel
theorem dX9_addImage_94 : decode cX9_addImage 94 = .ok (.iload 4, 2) := by decide +kernel
theorem dX9_addImage_96 : decode cX9_addImage 96 = .ok (.iconst 1, 1) := by decide +kernel
theorem dX9_addImage_97 : decode cX9_addImage 97 = .ok (.iadd, 1) := by decide +kernel
theorem dX9_addImage_98 : decode cX9_addImage 98 = .ok (.idiv, 1) := by decide +kernel
theorem dX9_addImage_99 : decode cX9_addImage 99 = .ok (.aload_n 0, 1) := by decide +kernel
theorem dX9_addImage_100 : decode cX9_addImage 100 = .ok (.getfield 9, 3) := by decide +kernel
theorem dX9_addImage_103 : decode cX9_addImage 103 = .ok (.iload 7, 2) := by decide +kernel
theorem dX9_addImage_105 : decode cX9_addImage 105 = .ok (.iaload, 1) := by decide +kernel
theorem dX9_addImage_106 : decode cX9_addImage 106 = .ok (.bipush 48, 2) := by decide +kernel
theorem dX9_addImage_108 : decode cX9_addImage 108 = .ok (.isub, 1) := by decide +kernel
theorem dX9_addImage_109 : decode cX9_addImage 109 = .ok (.invokevirtual 33, 3) := by decide +kernel
theorem dX9_addImage_112 : decode cX9_addImage 112 = .ok (.iinc 7 1, 3) := by decide +kernel
theorem dX9_addImage_115 : decode cX9_addImage 115 = .ok (.goto (-58), 3) := by decide +kernel
theorem dX9_addImage_118 : decode cX9_addImage 118 = .ok (.return_, 1) := by decide +kernel
theorem dX9_isDigit_0 : decode cX9_isDigit 0 = .ok (.iload_n 0, 1) := by decide +kernel
theorem dX9_isDigit_1 : decode cX9_isDigit 1 = .ok (.bipush 48, 2) := by decide +kernel
theorem dX9_isDigit_3 : decode cX9_isDigit 3 = .ok (.if_icmp .lt 13, 3) := by decide +kernel
theorem dX9_isDigit_6 : decode cX9_isDigit 6 = .ok (.iload_n 0, 1) := by decide +kernel
theorem dX9_isDigit_7 : decode cX9_isDigit 7 = .ok (.bipush 57, 2) := by decide +kernel
theorem dX9_isDigit_9 : decode cX9_isDigit 9 = .ok (.if_icmp .gt 7, 3) := by decide +kernel
theorem dX9_isDigit_12 : decode cX9_isDigit 12 = .ok (.iconst 1, 1) := by decide +kernel
theorem dX9_isDigit_13 : decode cX9_isDigit 13 = .ok (.goto 4, 3) := by decide +kernel
theorem dX9_isDigit_16 : decode cX9_isDigit 16 = .ok (.iconst 0, 1) := by decide +kernel
theorem dX9_isDigit_17 : decode cX9_isDigit 17 = .ok (.ireturn, 1) := by decide +kernel
theorem dX10_init_0 : decode cX10_init 0 = .ok (.aload_n 0, 1) := by decide +kernel
theorem dX10_init_1 : decode cX10_init 1 = .ok (.invokespecial 3, 3) := by decide +kernel
theorem dX10_init_4 : decode cX10_init 4 = .ok (.aload_n 0, 1) := by decide +kernel
theorem dX10_init_5 : decode cX10_init 5 = .ok (.new 9, 3) := by decide +kernel
theorem dX10_init_8 : decode cX10_init 8 = .ok (.dup, 1) := by decide +kernel
theorem dX10_init_9 : decode cX10_init 9 = .ok (.invokespecial 11, 3) := by decide +kernel
theorem dX10_init_12 : decode cX10_init 12 = .ok (.putfield 12, 3) := by decide +kernel
theorem dX10_init_15 : decode cX10_init 15 = .ok (.aload_n 0, 1) := by decide +kernel
theorem dX10_init_16 : decode cX10_init 16 = .ok (.new 16, 3) := by decide +kernel
theorem dX10_init_19 : decode cX10_init 19 = .ok (.dup, 1) := by decide +kernel
theorem dX10_init_20 : decode cX10_init 20 = .ok (.invokespecial 18, 3) := by decide +kernel
theorem dX10_init_23 : decode cX10_init 23 = .ok (.putfield 19, 3) := by decide +kernel
theorem dX10_init_26 : decode cX10_init 26 = .ok (.aload_n 0, 1) := by decide +kernel
theorem dX10_init_27 : decode cX10_init 27 = .ok (.new 23, 3) := by decide +kernel
theorem dX10_init_30 : decode cX10_init 30 = .ok (.dup, 1) := by decide +kernel
theorem dX10_init_31 : decode cX10_init 31 = .ok (.invokespecial 25, 3) := by decide +kernel
theorem dX10_init_34 : decode cX10_init 34 = .ok (.putfield 26, 3) := by decide +kernel
theorem dX10_init_37 : decode cX10_init 37 = .ok (.aload_n 0, 1) := by decide +kernel
theorem dX10_init_38 : decode cX10_init 38 = .ok (.new 30, 3) := by decide +kernel
theorem dX10_init_41 : decode cX10_init 41 = .ok (.dup, 1) := by decide +kernel
theorem dX10_init_42 : decode cX10_init 42 = .ok (.invokespecial 32, 3) := by decide +kernel
theorem dX10_init_45 : decode cX10_init 45 = .ok (.putfield 33, 3) := by decide +kernel
theorem dX10_init_48 : decode cX10_init 48 = .ok (.aload_n 0, 1) := by decide +kernel
theorem dX10_init_49 : decode cX10_init 49 = .ok (.new 30, 3) := by decide +kernel
theorem dX10_init_52 : decode cX10_init 52 = .ok (.dup, 1) := by decide +kernel
theorem dX10_init_53 : decode cX10_init 53 = .ok (.invokespecial 32, 3) := by decide +kernel
theorem dX10_init_56 : decode cX10_init 56 = .ok (.putfield 37, 3) := by decide +kernel
theorem dX10_init_59 : decode cX10_init 59 = .ok (.aload_n 0, 1) := by decide +kernel
theorem dX10_init_60 : decode cX10_init 60 = .ok (.iconst 2, 1) := by decide +kernel
theorem dX10_init_61 : decode cX10_init 61 = .ok (.newarray .boolean, 2) := by decide +kernel
theorem dX10_init_63 : decode cX10_init 63 = .ok (.putfield 40, 3) := by decide +kernel
theorem dX10_init_66 : decode cX10_init 66 = .ok (.new 30, 3) := by decide +kernel
theorem dX10_init_69 : decode cX10_init 69 = .ok (.dup, 1) := by decide +kernel
theorem dX10_init_70 : decode cX10_init 70 = .ok (.invokespecial 32, 3) := by decide +kernel
theorem dX10_init_73 : decode cX10_init 73 = .ok (.astore_n 1, 1) := by decide +kernel
theorem dX10_init_74 : decode cX10_init 74 = .ok (.new 30, 3) := by decide +kernel
theorem dX10_init_77 : decode cX10_init 77 = .ok (.dup, 1) := by decide +kernel
theorem dX10_init_78 : decode cX10_init 78 = .ok (.invokespecial 32, 3) := by decide +kernel
theorem dX10_init_81 : decode cX10_init 81 = .ok (.astore_n 2, 1) := by decide +kernel
theorem dX10_init_82 : decode cX10_init 82 = .ok (.new 44, 3) := by decide +kernel
theorem dX10_init_85 : decode cX10_init 85 = .ok (.dup, 1) := by decide +kernel
theorem dX10_init_86 : decode cX10_init 86 = .ok (.invokespecial 46, 3) := by decide +kernel
theorem dX10_init_89 : decode cX10_init 89 = .ok (.astore_n 3, 1) := by decide +kernel
theorem dX10_init_90 : decode cX10_init 90 = .ok (.aload_n 0, 1) := by decide +kernel
theorem dX10_init_91 : decode cX10_init 91 = .ok (.aload_n 1, 1) := by decide +kernel
theorem dX10_init_92 : decode cX10_init 92 = .ok (.putfield 47, 3) := by decide +kernel
theorem dX10_init_95 : decode cX10_init 95 = .ok (.aload_n 0, 1) := by decide +kernel
theorem dX10_init_96 : decode cX10_init 96 = .ok (.aload_n 2, 1) := by decide +kernel
theorem dX10_init_97 : decode cX10_init 97 = .ok (.putfield 50, 3) := by decide +kernel
theorem dX10_init_100 : decode cX10_init 100 = .ok (.aload_n 0, 1) := by decide +kernel
theorem dX10_init_101 : decode cX10_init 101 = .ok (.aload_n 3, 1) := by decide +kernel
theorem dX10_init_102 : decode cX10_init 102 = .ok (.putfield 53, 3) := by decide +kernel
theorem dX10_init_105 : decode cX10_init 105 = .ok (.aload_n 0, 1) := by decide +kernel
theorem dX10_init_106 : decode cX10_init 106 = .ok (.new 57, 3) := by decide +kernel
theorem dX10_init_109 : decode cX10_init 109 = .ok (.dup, 1) := by decide +kernel
theorem dX10_init_110 : decode cX10_init 110 = .ok (.aload_n 1, 1) := by decide +kernel
theorem dX10_init_111 : decode cX10_init 111 = .ok (.aload_n 3, 1) := by decide +kernel
theorem dX10_init_112 : decode cX10_init 112 = .ok (.invokespecial 59, 3) := by decide +kernel
theorem dX10_init_115 : decode cX10_init 115 = .ok (.putfield 62, 3) := by decide +kernel
theorem dX10_init_118 : decode cX10_init 118 = .ok (.aload_n 0, 1) := by decide +kernel
theorem dX10_init_119 : decode cX10_init 119 = .ok (.new 57, 3) := by decide +kernel
theorem dX10_init_122 : decode cX10_init 122 = .ok (.dup, 1) := by decide +kernel
theorem dX10_init_123 : decode cX10_init 123 = .ok (.aload_n 2, 1) := by decide +kernel
theorem dX10_init_124 : decode cX10_init 124 = .ok (.aload_n 3, 1) := by decide +kernel
theorem dX10_init_125 : decode cX10_init 125 = .ok (.invokespecial 59, 3) := by decide +kernel
theorem dX10_init_128 : decode cX10_init 128 = .ok (.putfield 66, 3) := by decide +kernel
theorem dX10_init_131 : decode cX10_init 131 = .ok (.return_, 1) := by decide +kernel
theorem dX10_append_0 : decode cX10_append 0 = .ok (.iload_n 1, 1) := by decide +kernel
theorem dX10_append_1 : decode cX10_append 1 = .ok (.bipush 32, 2) := by decide +kernel
theorem dX10_append_3 : decode cX10_append 3 = .ok (.bipush 126, 2) := by decide +kernel
theorem dX10_append_5 : decode cX10_append 5 = .ok (.invokestatic 69, 3) := by decide +kernel
theorem dX10_append_8 : decode cX10_append 8 = .ok (.ifCond .ne 5, 3) := by decide +kernel
theorem dX10_append_11 : decode cX10_append 11 = .ok (.iconst (-1), 1) := by decide +kernel
theorem dX10_append_12 : decode cX10_append 12 = .ok (.ireturn, 1) := by decide +kernel
theorem dX10_append_13 : decode cX10_append 13 = .ok (.aload_n 0, 1) := by decide +kernel
theorem dX10_append_14 : decode cX10_append 14 = .ok (.getfield 12, 3) := by decide +kernel
theorem dX10_append_17 : decode cX10_append 17 = .ok (.iload_n 1, 1) := by decide +kernel
theorem dX10_append_18 : decode cX10_append 18 = .ok (.invokevirtual 73, 3) := by decide +kernel
theorem dX10_append_21 : decode cX10_append 21 = .ok (.ifCond .eq 13, 3) := by decide +kernel
theorem dX10_append_24 : decode cX10_append 24 = .ok (.aload_n 0, 1) := by decide +kernel
theorem dX10_append_25 : decode cX10_append 25 = .ok (.getfield 12, 3) := by decide +kernel
theorem dX10_append_28 : decode cX10_append 28 = .ok (.getfield 77, 3) := by decide +kernel
theorem dX10_append_31 : decode cX10_append 31 = .ok (.goto 5, 3) := by decide +kernel
theorem dX10_append_34 : decode cX10_append 34 = .ok (.bipush (-2), 2) := by decide +kernel
theorem dX10_append_36 : decode cX10_append 36 = .ok (.ireturn, 1) := by decide +kernel
theorem dX10_clearText_0 : decode cX10_clearText 0 = .ok (.aload_n 0, 1) := by decide +kernel
theorem dX10_clearText_1 : decode cX10_clearText 1 = .ok (.getfield 12, 3) := by decide +kernel
theorem dX10_clearText_4 : decode cX10_clearText 4 = .ok (.getfield 77, 3) := by decide +kernel
theorem dX10_clearText_7 : decode cX10_clearText 7 = .ok (.istore_n 1, 1) := by decide +kernel
theorem dX10_clearText_8 : decode cX10_clearText 8 = .ok (.aload_n 0, 1) := by decide +kernel
theorem dX10_clearText_9 : decode cX10_clearText 9 = .ok (.getfield 12, 3) := by decide +kernel
theorem dX10_clearText_12 : decode cX10_clearText 12 = .ok (.iconst 0, 1) := by decide +kernel
theorem dX10_clearText_13 : decode cX10_clearText 13 = .ok (.putfield 77, 3) := by decide +kernel
theorem dX10_clearText_16 : decode cX10_clearText 16 = .ok (.iload_n 1, 1) := by decide +kernel
theorem dX10_clearText_17 : decode cX10_clearText 17 = .ok (.ireturn, 1) := by decide +kernel
theorem dX10_faultPosition_0 : decode cX10_faultPosition 0 = .ok (.aload_n 0, 1) := by decide +kernel
theorem dX10_faultPosition_1 : decode cX10_faultPosition 1 = .ok (.getfield 12, 3) := by decide +kernel
theorem dX10_faultPosition_4 : decode cX10_faultPosition 4 = .ok (.invokevirtual 81, 3) := by decide +kernel
theorem dX10_faultPosition_7 : decode cX10_faultPosition 7 = .ok (.ireturn, 1) := by decide +kernel
theorem dX10_read_0 : decode cX10_read 0 = .ok (.aload_n 0, 1) := by decide +kernel
theorem dX10_read_1 : decode cX10_read 1 = .ok (.getfield 12, 3) := by decide +kernel
theorem dX10_read_4 : decode cX10_read 4 = .ok (.invokevirtual 81, 3) := by decide +kernel
theorem dX10_read_7 : decode cX10_read 7 = .ok (.bipush (-4), 2) := by decide +kernel
theorem dX10_read_9 : decode cX10_read 9 = .ok (.if_icmp .eq 6, 3) := by decide +kernel
theorem dX10_read_12 : decode cX10_read 12 = .ok (.bipush (-3), 2) := by decide +kernel
theorem dX10_read_14 : decode cX10_read 14 = .ok (.ireturn, 1) := by decide +kernel
theorem dX10_read_15 : decode cX10_read 15 = .ok (.aload_n 0, 1) := by decide +kernel
theorem dX10_read_16 : decode cX10_read 16 = .ok (.getfield 47, 3) := by decide +kernel
theorem dX10_read_19 : decode cX10_read 19 = .ok (.getfield 85, 3) := by decide +kernel
theorem dX10_read_22 : decode cX10_read 22 = .ok (.getfield 89, 3) := by decide +kernel
theorem dX10_read_25 : decode cX10_read 25 = .ok (.aload_n 0, 1) := by decide +kernel
theorem dX10_read_26 : decode cX10_read 26 = .ok (.getfield 12, 3) := by decide +kernel
theorem dX10_read_29 : decode cX10_read 29 = .ok (.invokevirtual 94, 3) := by decide +kernel
theorem dX10_read_32 : decode cX10_read 32 = .ok (.iadd, 1) := by decide +kernel
theorem dX10_read_33 : decode cX10_read 33 = .ok (.bipush 24, 2) := by decide +kernel
theorem dX10_read_35 : decode cX10_read 35 = .ok (.if_icmp .le 6, 3) := by decide +kernel
theorem dX10_read_38 : decode cX10_read 38 = .ok (.bipush (-2), 2) := by decide +kernel
theorem dX10_read_40 : decode cX10_read 40 = .ok (.ireturn, 1) := by decide +kernel
theorem dX10_read_41 : decode cX10_read 41 = .ok (.aload_n 0, 1) := by decide +kernel
theorem dX10_read_42 : decode cX10_read 42 = .ok (.getfield 26, 3) := by decide +kernel
theorem dX10_read_45 : decode cX10_read 45 = .ok (.aload_n 0, 1) := by decide +kernel
theorem dX10_read_46 : decode cX10_read 46 = .ok (.getfield 47, 3) := by decide +kernel
theorem dX10_read_49 : decode cX10_read 49 = .ok (.invokevirtual 97, 3) := by decide +kernel
theorem dX10_read_52 : decode cX10_read 52 = .ok (.aload_n 0, 1) := by decide +kernel
theorem dX10_read_53 : decode cX10_read 53 = .ok (.getfield 12, 3) := by decide +kernel
theorem dX10_read_56 : decode cX10_read 56 = .ok (.aload_n 0, 1) := by decide +kernel
theorem dX10_read_57 : decode cX10_read 57 = .ok (.getfield 47, 3) := by decide +kernel
theorem dX10_read_60 : decode cX10_read 60 = .ok (.getfield 85, 3) := by decide +kernel
theorem dX10_read_63 : decode cX10_read 63 = .ok (.invokevirtual 101, 3) := by decide +kernel
theorem dX10_read_66 : decode cX10_read 66 = .ok (.aload_n 0, 1) := by decide +kernel
theorem dX10_read_67 : decode cX10_read 67 = .ok (.getfield 53, 3) := by decide +kernel
theorem dX10_read_70 : decode cX10_read 70 = .ok (.aload_n 0, 1) := by decide +kernel
theorem dX10_read_71 : decode cX10_read 71 = .ok (.getfield 47, 3) := by decide +kernel
theorem dX10_read_74 : decode cX10_read 74 = .ok (.getfield 85, 3) := by decide +kernel
theorem dX10_read_77 : decode cX10_read 77 = .ok (.aload_n 0, 1) := by decide +kernel
theorem dX10_read_78 : decode cX10_read 78 = .ok (.getfield 47, 3) := by decide +kernel
theorem dX10_read_81 : decode cX10_read 81 = .ok (.getfield 105, 3) := by decide +kernel
theorem dX10_read_84 : decode cX10_read 84 = .ok (.invokevirtual 109, 3) := by decide +kernel
theorem dX10_read_87 : decode cX10_read 87 = .ok (.aload_n 0, 1) := by decide +kernel
theorem dX10_read_88 : decode cX10_read 88 = .ok (.getfield 47, 3) := by decide +kernel
theorem dX10_read_91 : decode cX10_read 91 = .ok (.getfield 85, 3) := by decide +kernel
theorem dX10_read_94 : decode cX10_read 94 = .ok (.getfield 89, 3) := by decide +kernel
theorem dX10_read_97 : decode cX10_read 97 = .ok (.ireturn, 1) := by decide +kernel
theorem dX10_draw_0 : decode cX10_draw 0 = .ok (.iload_n 1, 1) := by decide +kernel
theorem dX10_draw_1 : decode cX10_draw 1 = .ok (.ifCond .lt 13, 3) := by decide +kernel
theorem dX10_draw_4 : decode cX10_draw 4 = .ok (.iload_n 2, 1) := by decide +kernel
theorem dX10_draw_5 : decode cX10_draw 5 = .ok (.iconst 1, 1) := by decide +kernel
theorem dX10_draw_6 : decode cX10_draw 6 = .ok (.bipush 8, 2) := by decide +kernel
theorem dX10_draw_8 : decode cX10_draw 8 = .ok (.invokestatic 69, 3) := by decide +kernel
theorem dX10_draw_11 : decode cX10_draw 11 = .ok (.ifCond .ne 5, 3) := by decide +kernel
theorem dX10_draw_14 : decode cX10_draw 14 = .ok (.iconst (-1), 1) := by decide +kernel
theorem dX10_draw_15 : decode cX10_draw 15 = .ok (.ireturn, 1) := by decide +kernel
theorem dX10_draw_16 : decode cX10_draw 16 = .ok (.aload_n 0, 1) := by decide +kernel
theorem dX10_draw_17 : decode cX10_draw 17 = .ok (.getfield 47, 3) := by decide +kernel
theorem dX10_draw_20 : decode cX10_draw 20 = .ok (.getfield 85, 3) := by decide +kernel
theorem dX10_draw_23 : decode cX10_draw 23 = .ok (.getfield 89, 3) := by decide +kernel
theorem dX10_draw_26 : decode cX10_draw 26 = .ok (.iload_n 2, 1) := by decide +kernel
theorem dX10_draw_27 : decode cX10_draw 27 = .ok (.iadd, 1) := by decide +kernel
theorem dX10_draw_28 : decode cX10_draw 28 = .ok (.bipush 24, 2) := by decide +kernel
theorem dX10_draw_30 : decode cX10_draw 30 = .ok (.if_icmp .le 6, 3) := by decide +kernel
theorem dX10_draw_33 : decode cX10_draw 33 = .ok (.bipush (-2), 2) := by decide +kernel
theorem dX10_draw_35 : decode cX10_draw 35 = .ok (.ireturn, 1) := by decide +kernel
theorem dX10_draw_36 : decode cX10_draw 36 = .ok (.aload_n 0, 1) := by decide +kernel
theorem dX10_draw_37 : decode cX10_draw 37 = .ok (.getfield 26, 3) := by decide +kernel
theorem dX10_draw_40 : decode cX10_draw 40 = .ok (.aload_n 0, 1) := by decide +kernel
theorem dX10_draw_41 : decode cX10_draw 41 = .ok (.getfield 47, 3) := by decide +kernel
theorem dX10_draw_44 : decode cX10_draw 44 = .ok (.invokevirtual 97, 3) := by decide +kernel
theorem dX10_draw_47 : decode cX10_draw 47 = .ok (.aload_n 0, 1) := by decide +kernel
theorem dX10_draw_48 : decode cX10_draw 48 = .ok (.iload_n 1, 1) := by decide +kernel
theorem dX10_draw_49 : decode cX10_draw 49 = .ok (.i2l, 1) := by decide +kernel
theorem dX10_draw_50 : decode cX10_draw 50 = .ok (.putfield 113, 3) := by decide +kernel
theorem dX10_draw_53 : decode cX10_draw 53 = .ok (.iconst 0, 1) := by decide +kernel
theorem dX10_draw_54 : decode cX10_draw 54 = .ok (.istore_n 3, 1) := by decide +kernel
theorem dX10_draw_55 : decode cX10_draw 55 = .ok (.iload_n 3, 1) := by decide +kernel
theorem dX10_draw_56 : decode cX10_draw 56 = .ok (.iload_n 2, 1) := by decide +kernel
theorem dX10_draw_57 : decode cX10_draw 57 = .ok (.if_icmp .ge 13, 3) := by decide +kernel
theorem dX10_draw_60 : decode cX10_draw 60 = .ok (.aload_n 0, 1) := by decide +kernel
theorem dX10_draw_61 : decode cX10_draw 61 = .ok (.invokevirtual 117, 3) := by decide +kernel
theorem dX10_draw_64 : decode cX10_draw 64 = .ok (.iinc 3 1, 3) := by decide +kernel
theorem dX10_draw_67 : decode cX10_draw 67 = .ok (.goto (-12), 3) := by decide +kernel
theorem dX10_draw_70 : decode cX10_draw 70 = .ok (.aload_n 0, 1) := by decide +kernel
theorem dX10_draw_71 : decode cX10_draw 71 = .ok (.getfield 53, 3) := by decide +kernel
theorem dX10_draw_74 : decode cX10_draw 74 = .ok (.aload_n 0, 1) := by decide +kernel
theorem dX10_draw_75 : decode cX10_draw 75 = .ok (.getfield 47, 3) := by decide +kernel
theorem dX10_draw_78 : decode cX10_draw 78 = .ok (.getfield 85, 3) := by decide +kernel
theorem dX10_draw_81 : decode cX10_draw 81 = .ok (.aload_n 0, 1) := by decide +kernel
theorem dX10_draw_82 : decode cX10_draw 82 = .ok (.getfield 47, 3) := by decide +kernel
theorem dX10_draw_85 : decode cX10_draw 85 = .ok (.getfield 105, 3) := by decide +kernel
theorem dX10_draw_88 : decode cX10_draw 88 = .ok (.invokevirtual 109, 3) := by decide +kernel
theorem dX10_draw_91 : decode cX10_draw 91 = .ok (.aload_n 0, 1) := by decide +kernel
theorem dX10_draw_92 : decode cX10_draw 92 = .ok (.getfield 47, 3) := by decide +kernel
theorem dX10_draw_95 : decode cX10_draw 95 = .ok (.getfield 85, 3) := by decide +kernel
theorem dX10_draw_98 : decode cX10_draw 98 = .ok (.getfield 89, 3) := by decide +kernel
theorem dX10_draw_101 : decode cX10_draw 101 = .ok (.ireturn, 1) := by decide +kernel
theorem dX10_sprites_0 : decode cX10_sprites 0 = .ok (.aload_n 0, 1) := by decide +kernel
theorem dX10_sprites_1 : decode cX10_sprites 1 = .ok (.getfield 47, 3) := by decide +kernel
theorem dX10_sprites_4 : decode cX10_sprites 4 = .ok (.getfield 85, 3) := by decide +kernel
theorem dX10_sprites_7 : decode cX10_sprites 7 = .ok (.getfield 89, 3) := by decide +kernel
theorem dX10_sprites_10 : decode cX10_sprites 10 = .ok (.ireturn, 1) := by decide +kernel
theorem dX10_width_0 : decode cX10_width 0 = .ok (.aload_n 0, 1) := by decide +kernel
theorem dX10_width_1 : decode cX10_width 1 = .ok (.getfield 47, 3) := by decide +kernel
theorem dX10_width_4 : decode cX10_width 4 = .ok (.getfield 85, 3) := by decide +kernel
theorem dX10_width_7 : decode cX10_width 7 = .ok (.iload_n 1, 1) := by decide +kernel
theorem dX10_width_8 : decode cX10_width 8 = .ok (.invokevirtual 120, 3) := by decide +kernel
theorem dX10_width_11 : decode cX10_width 11 = .ok (.ifCond .eq 18, 3) := by decide +kernel
theorem dX10_width_14 : decode cX10_width 14 = .ok (.aload_n 0, 1) := by decide +kernel
theorem dX10_width_15 : decode cX10_width 15 = .ok (.getfield 47, 3) := by decide +kernel
theorem dX10_width_18 : decode cX10_width 18 = .ok (.getfield 85, 3) := by decide +kernel
theorem dX10_width_21 : decode cX10_width 21 = .ok (.getfield 123, 3) := by decide +kernel
theorem dX10_width_24 : decode cX10_width 24 = .ok (.iload_n 1, 1) := by decide +kernel
theorem dX10_width_25 : decode cX10_width 25 = .ok (.iaload, 1) := by decide +kernel
theorem dX10_width_26 : decode cX10_width 26 = .ok (.goto 4, 3) := by decide +kernel
theorem dX10_width_29 : decode cX10_width 29 = .ok (.iconst (-1), 1) := by decide +kernel
theorem dX10_width_30 : decode cX10_width 30 = .ok (.ireturn, 1) := by decide +kernel
theorem dX10_height_0 : decode cX10_height 0 = .ok (.aload_n 0, 1) := by decide +kernel
theorem dX10_height_1 : decode cX10_height 1 = .ok (.getfield 47, 3) := by decide +kernel
theorem dX10_height_4 : decode cX10_height 4 = .ok (.getfield 85, 3) := by decide +kernel
theorem dX10_height_7 : decode cX10_height 7 = .ok (.iload_n 1, 1) := by decide +kernel
theorem dX10_height_8 : decode cX10_height 8 = .ok (.invokevirtual 120, 3) := by decide +kernel
theorem dX10_height_11 : decode cX10_height 11 = .ok (.ifCond .eq 18, 3) := by decide +kernel
theorem dX10_height_14 : decode cX10_height 14 = .ok (.aload_n 0, 1) := by decide +kernel
theorem dX10_height_15 : decode cX10_height 15 = .ok (.getfield 47, 3) := by decide +kernel
theorem dX10_height_18 : decode cX10_height 18 = .ok (.getfield 85, 3) := by decide +kernel
theorem dX10_height_21 : decode cX10_height 21 = .ok (.getfield 127, 3) := by decide +kernel
theorem dX10_height_24 : decode cX10_height 24 = .ok (.iload_n 1, 1) := by decide +kernel
theorem dX10_height_25 : decode cX10_height 25 = .ok (.iaload, 1) := by decide +kernel
theorem dX10_height_26 : decode cX10_height 26 = .ok (.goto 4, 3) := by decide +kernel
theorem dX10_height_29 : decode cX10_height 29 = .ok (.iconst (-1), 1) := by decide +kernel
theorem dX10_height_30 : decode cX10_height 30 = .ok (.ireturn, 1) := by decide +kernel
theorem dX10_color_0 : decode cX10_color 0 = .ok (.aload_n 0, 1) := by decide +kernel
theorem dX10_color_1 : decode cX10_color 1 = .ok (.getfield 47, 3) := by decide +kernel
theorem dX10_color_4 : decode cX10_color 4 = .ok (.getfield 85, 3) := by decide +kernel
theorem dX10_color_7 : decode cX10_color 7 = .ok (.iload_n 1, 1) := by decide +kernel
theorem dX10_color_8 : decode cX10_color 8 = .ok (.iload_n 2, 1) := by decide +kernel
theorem dX10_color_9 : decode cX10_color 9 = .ok (.iload_n 3, 1) := by decide +kernel
theorem dX10_color_10 : decode cX10_color 10 = .ok (.invokevirtual 130, 3) := by decide +kernel
theorem dX10_color_13 : decode cX10_color 13 = .ok (.ifCond .eq 19, 3) := by decide +kernel
theorem dX10_color_16 : decode cX10_color 16 = .ok (.aload_n 0, 1) := by decide +kernel
theorem dX10_color_17 : decode cX10_color 17 = .ok (.getfield 47, 3) := by decide +kernel
theorem dX10_color_20 : decode cX10_color 20 = .ok (.getfield 85, 3) := by decide +kernel
theorem dX10_color_23 : decode cX10_color 23 = .ok (.iload_n 1, 1) := by decide +kernel
theorem dX10_color_24 : decode cX10_color 24 = .ok (.iload_n 2, 1) := by decide +kernel
theorem dX10_color_25 : decode cX10_color 25 = .ok (.iload_n 3, 1) := by decide +kernel
theorem dX10_color_26 : decode cX10_color 26 = .ok (.invokevirtual 133, 3) := by decide +kernel
theorem dX10_color_29 : decode cX10_color 29 = .ok (.goto 4, 3) := by decide +kernel
theorem dX10_color_32 : decode cX10_color 32 = .ok (.iconst (-1), 1) := by decide +kernel
theorem dX10_color_33 : decode cX10_color 33 = .ok (.ireturn, 1) := by decide +kernel
theorem dX10_setPixel_0 : decode cX10_setPixel 0 = .ok (.aload_n 0, 1) := by decide +kernel
theorem dX10_setPixel_1 : decode cX10_setPixel 1 = .ok (.getfield 47, 3) := by decide +kernel
theorem dX10_setPixel_4 : decode cX10_setPixel 4 = .ok (.getfield 85, 3) := by decide +kernel
theorem dX10_setPixel_7 : decode cX10_setPixel 7 = .ok (.iload_n 1, 1) := by decide +kernel
theorem dX10_setPixel_8 : decode cX10_setPixel 8 = .ok (.iload_n 2, 1) := by decide +kernel
theorem dX10_setPixel_9 : decode cX10_setPixel 9 = .ok (.iload_n 3, 1) := by decide +kernel
theorem dX10_setPixel_10 : decode cX10_setPixel 10 = .ok (.invokevirtual 130, 3) := by decide +kernel
theorem dX10_setPixel_13 : decode cX10_setPixel 13 = .ok (.ifCond .eq 14, 3) := by decide +kernel
theorem dX10_setPixel_16 : decode cX10_setPixel 16 = .ok (.iload 4, 2) := by decide +kernel
theorem dX10_setPixel_18 : decode cX10_setPixel 18 = .ok (.iconst 0, 1) := by decide +kernel
theorem dX10_setPixel_19 : decode cX10_setPixel 19 = .ok (.bipush 9, 2) := by decide +kernel
theorem dX10_setPixel_21 : decode cX10_setPixel 21 = .ok (.invokestatic 69, 3) := by decide +kernel
theorem dX10_setPixel_24 : decode cX10_setPixel 24 = .ok (.ifCond .ne 5, 3) := by decide +kernel
theorem dX10_setPixel_27 : decode cX10_setPixel 27 = .ok (.iconst (-1), 1) := by decide +kernel
theorem dX10_setPixel_28 : decode cX10_setPixel 28 = .ok (.ireturn, 1) := by decide +kernel
theorem dX10_setPixel_29 : decode cX10_setPixel 29 = .ok (.aload_n 0, 1) := by decide +kernel
theorem dX10_setPixel_30 : decode cX10_setPixel 30 = .ok (.getfield 47, 3) := by decide +kernel
theorem dX10_setPixel_33 : decode cX10_setPixel 33 = .ok (.getfield 85, 3) := by decide +kernel
theorem dX10_setPixel_36 : decode cX10_setPixel 36 = .ok (.iload_n 1, 1) := by decide +kernel
theorem dX10_setPixel_37 : decode cX10_setPixel 37 = .ok (.iload_n 2, 1) := by decide +kernel
theorem dX10_setPixel_38 : decode cX10_setPixel 38 = .ok (.iload_n 3, 1) := by decide +kernel
theorem dX10_setPixel_39 : decode cX10_setPixel 39 = .ok (.invokevirtual 133, 3) := by decide +kernel
theorem dX10_setPixel_42 : decode cX10_setPixel 42 = .ok (.istore 5, 2) := by decide +kernel
theorem dX10_setPixel_44 : decode cX10_setPixel 44 = .ok (.aload_n 0, 1) := by decide +kernel
theorem dX10_setPixel_45 : decode cX10_setPixel 45 = .ok (.getfield 26, 3) := by decide +kernel
theorem dX10_setPixel_48 : decode cX10_setPixel 48 = .ok (.aload_n 0, 1) := by decide +kernel
theorem dX10_setPixel_49 : decode cX10_setPixel 49 = .ok (.getfield 47, 3) := by decide +kernel
theorem dX10_setPixel_52 : decode cX10_setPixel 52 = .ok (.invokevirtual 97, 3) := by decide +kernel
theorem dX10_setPixel_55 : decode cX10_setPixel 55 = .ok (.aload_n 0, 1) := by decide +kernel
theorem dX10_setPixel_56 : decode cX10_setPixel 56 = .ok (.getfield 47, 3) := by decide +kernel
theorem dX10_setPixel_59 : decode cX10_setPixel 59 = .ok (.getfield 85, 3) := by decide +kernel
theorem dX10_setPixel_62 : decode cX10_setPixel 62 = .ok (.iload_n 1, 1) := by decide +kernel
theorem dX10_setPixel_63 : decode cX10_setPixel 63 = .ok (.iload_n 2, 1) := by decide +kernel
theorem dX10_setPixel_64 : decode cX10_setPixel 64 = .ok (.iload_n 3, 1) := by decide +kernel
theorem dX10_setPixel_65 : decode cX10_setPixel 65 = .ok (.iload 4, 2) := by decide +kernel
theorem dX10_setPixel_67 : decode cX10_setPixel 67 = .ok (.invokevirtual 137, 3) := by decide +kernel
theorem dX10_setPixel_70 : decode cX10_setPixel 70 = .ok (.aload_n 0, 1) := by decide +kernel
theorem dX10_setPixel_71 : decode cX10_setPixel 71 = .ok (.invokevirtual 141, 3) := by decide +kernel
theorem dX10_setPixel_74 : decode cX10_setPixel 74 = .ok (.iload 5, 2) := by decide +kernel
theorem dX10_setPixel_76 : decode cX10_setPixel 76 = .ok (.ireturn, 1) := by decide +kernel
theorem dX10_drop_0 : decode cX10_drop 0 = .ok (.aload_n 0, 1) := by decide +kernel
theorem dX10_drop_1 : decode cX10_drop 1 = .ok (.getfield 47, 3) := by decide +kernel
theorem dX10_drop_4 : decode cX10_drop 4 = .ok (.getfield 85, 3) := by decide +kernel
theorem dX10_drop_7 : decode cX10_drop 7 = .ok (.iload_n 1, 1) := by decide +kernel
theorem dX10_drop_8 : decode cX10_drop 8 = .ok (.invokevirtual 120, 3) := by decide +kernel
theorem dX10_drop_11 : decode cX10_drop 11 = .ok (.ifCond .ne 5, 3) := by decide +kernel
theorem dX10_drop_14 : decode cX10_drop 14 = .ok (.iconst (-1), 1) := by decide +kernel
theorem dX10_drop_15 : decode cX10_drop 15 = .ok (.ireturn, 1) := by decide +kernel
theorem dX10_drop_16 : decode cX10_drop 16 = .ok (.aload_n 0, 1) := by decide +kernel
theorem dX10_drop_17 : decode cX10_drop 17 = .ok (.getfield 26, 3) := by decide +kernel
theorem dX10_drop_20 : decode cX10_drop 20 = .ok (.aload_n 0, 1) := by decide +kernel
theorem dX10_drop_21 : decode cX10_drop 21 = .ok (.getfield 47, 3) := by decide +kernel
theorem dX10_drop_24 : decode cX10_drop 24 = .ok (.invokevirtual 97, 3) := by decide +kernel
theorem dX10_drop_27 : decode cX10_drop 27 = .ok (.aload_n 0, 1) := by decide +kernel
theorem dX10_drop_28 : decode cX10_drop 28 = .ok (.getfield 47, 3) := by decide +kernel
theorem dX10_drop_31 : decode cX10_drop 31 = .ok (.getfield 85, 3) := by decide +kernel
theorem dX10_drop_34 : decode cX10_drop 34 = .ok (.iload_n 1, 1) := by decide +kernel
theorem dX10_drop_35 : decode cX10_drop 35 = .ok (.invokevirtual 144, 3) := by decide +kernel
theorem dX10_drop_38 : decode cX10_drop 38 = .ok (.aload_n 0, 1) := by decide +kernel
theorem dX10_drop_39 : decode cX10_drop 39 = .ok (.invokevirtual 141, 3) := by decide +kernel
theorem dX10_drop_42 : decode cX10_drop 42 = .ok (.aload_n 0, 1) := by decide +kernel
theorem dX10_drop_43 : decode cX10_drop 43 = .ok (.getfield 47, 3) := by decide +kernel
theorem dX10_drop_46 : decode cX10_drop 46 = .ok (.getfield 85, 3) := by decide +kernel
theorem dX10_drop_49 : decode cX10_drop 49 = .ok (.getfield 89, 3) := by decide +kernel
theorem dX10_drop_52 : decode cX10_drop 52 = .ok (.ireturn, 1) := by decide +kernel
theorem dX10_setGroup_0 : decode cX10_setGroup 0 = .ok (.aload_n 0, 1) := by decide +kernel
theorem dX10_setGroup_1 : decode cX10_setGroup 1 = .ok (.getfield 47, 3) := by decide +kernel
theorem dX10_setGroup_4 : decode cX10_setGroup 4 = .ok (.getfield 85, 3) := by decide +kernel
theorem dX10_setGroup_7 : decode cX10_setGroup 7 = .ok (.iload_n 1, 1) := by decide +kernel
theorem dX10_setGroup_8 : decode cX10_setGroup 8 = .ok (.invokevirtual 120, 3) := by decide +kernel
theorem dX10_setGroup_11 : decode cX10_setGroup 11 = .ok (.ifCond .eq 12, 3) := by decide +kernel
theorem dX10_setGroup_14 : decode cX10_setGroup 14 = .ok (.iload_n 2, 1) := by decide +kernel
theorem dX10_setGroup_15 : decode cX10_setGroup 15 = .ok (.iconst 0, 1) := by decide +kernel
theorem dX10_setGroup_16 : decode cX10_setGroup 16 = .ok (.iconst 3, 1) := by decide +kernel
theorem dX10_setGroup_17 : decode cX10_setGroup 17 = .ok (.invokestatic 69, 3) := by decide +kernel
theorem dX10_setGroup_20 : decode cX10_setGroup 20 = .ok (.ifCond .ne 5, 3) := by decide +kernel
theorem dX10_setGroup_23 : decode cX10_setGroup 23 = .ok (.iconst (-1), 1) := by decide +kernel
theorem dX10_setGroup_24 : decode cX10_setGroup 24 = .ok (.ireturn, 1) := by decide +kernel
theorem dX10_setGroup_25 : decode cX10_setGroup 25 = .ok (.aload_n 0, 1) := by decide +kernel
theorem dX10_setGroup_26 : decode cX10_setGroup 26 = .ok (.getfield 47, 3) := by decide +kernel
theorem dX10_setGroup_29 : decode cX10_setGroup 29 = .ok (.getfield 85, 3) := by decide +kernel
theorem dX10_setGroup_32 : decode cX10_setGroup 32 = .ok (.getfield 148, 3) := by decide +kernel
theorem dX10_setGroup_35 : decode cX10_setGroup 35 = .ok (.iload_n 1, 1) := by decide +kernel
theorem dX10_setGroup_36 : decode cX10_setGroup 36 = .ok (.iaload, 1) := by decide +kernel
theorem dX10_setGroup_37 : decode cX10_setGroup 37 = .ok (.istore_n 3, 1) := by decide +kernel
theorem dX10_setGroup_38 : decode cX10_setGroup 38 = .ok (.aload_n 0, 1) := by decide +kernel
theorem dX10_setGroup_39 : decode cX10_setGroup 39 = .ok (.getfield 26, 3) := by decide +kernel
theorem dX10_setGroup_42 : decode cX10_setGroup 42 = .ok (.aload_n 0, 1) := by decide +kernel
theorem dX10_setGroup_43 : decode cX10_setGroup 43 = .ok (.getfield 47, 3) := by decide +kernel
theorem dX10_setGroup_46 : decode cX10_setGroup 46 = .ok (.invokevirtual 97, 3) := by decide +kernel
theorem dX10_setGroup_49 : decode cX10_setGroup 49 = .ok (.aload_n 0, 1) := by decide +kernel
theorem dX10_setGroup_50 : decode cX10_setGroup 50 = .ok (.getfield 47, 3) := by decide +kernel
theorem dX10_setGroup_53 : decode cX10_setGroup 53 = .ok (.getfield 85, 3) := by decide +kernel
theorem dX10_setGroup_56 : decode cX10_setGroup 56 = .ok (.getfield 148, 3) := by decide +kernel
theorem dX10_setGroup_59 : decode cX10_setGroup 59 = .ok (.iload_n 1, 1) := by decide +kernel
theorem dX10_setGroup_60 : decode cX10_setGroup 60 = .ok (.iload_n 2, 1) := by decide +kernel
theorem dX10_setGroup_61 : decode cX10_setGroup 61 = .ok (.iastore, 1) := by decide +kernel
theorem dX10_setGroup_62 : decode cX10_setGroup 62 = .ok (.iload_n 3, 1) := by decide +kernel
theorem dX10_setGroup_63 : decode cX10_setGroup 63 = .ok (.ireturn, 1) := by decide +kernel
theorem dX10_groupOf_0 : decode cX10_groupOf 0 = .ok (.aload_n 0, 1) := by decide +kernel
theorem dX10_groupOf_1 : decode cX10_groupOf 1 = .ok (.getfield 47, 3) := by decide +kernel
theorem dX10_groupOf_4 : decode cX10_groupOf 4 = .ok (.getfield 85, 3) := by decide +kernel
theorem dX10_groupOf_7 : decode cX10_groupOf 7 = .ok (.iload_n 1, 1) := by decide +kernel
theorem dX10_groupOf_8 : decode cX10_groupOf 8 = .ok (.invokevirtual 120, 3) := by decide +kernel
theorem dX10_groupOf_11 : decode cX10_groupOf 11 = .ok (.ifCond .eq 18, 3) := by decide +kernel
theorem dX10_groupOf_14 : decode cX10_groupOf 14 = .ok (.aload_n 0, 1) := by decide +kernel
theorem dX10_groupOf_15 : decode cX10_groupOf 15 = .ok (.getfield 47, 3) := by decide +kernel
theorem dX10_groupOf_18 : decode cX10_groupOf 18 = .ok (.getfield 85, 3) := by decide +kernel
theorem dX10_groupOf_21 : decode cX10_groupOf 21 = .ok (.getfield 148, 3) := by decide +kernel
theorem dX10_groupOf_24 : decode cX10_groupOf 24 = .ok (.iload_n 1, 1) := by decide +kernel
theorem dX10_groupOf_25 : decode cX10_groupOf 25 = .ok (.iaload, 1) := by decide +kernel
theorem dX10_groupOf_26 : decode cX10_groupOf 26 = .ok (.goto 4, 3) := by decide +kernel
theorem dX10_groupOf_29 : decode cX10_groupOf 29 = .ok (.iconst (-1), 1) := by decide +kernel
theorem dX10_groupOf_30 : decode cX10_groupOf 30 = .ok (.ireturn, 1) := by decide +kernel
theorem dX10_trimLeft_0 : decode cX10_trimLeft 0 = .ok (.aload_n 0, 1) := by decide +kernel
theorem dX10_trimLeft_1 : decode cX10_trimLeft 1 = .ok (.getfield 47, 3) := by decide +kernel
theorem dX10_trimLeft_4 : decode cX10_trimLeft 4 = .ok (.getfield 85, 3) := by decide +kernel
theorem dX10_trimLeft_7 : decode cX10_trimLeft 7 = .ok (.iload_n 1, 1) := by decide +kernel
theorem dX10_trimLeft_8 : decode cX10_trimLeft 8 = .ok (.invokevirtual 120, 3) := by decide +kernel
theorem dX10_trimLeft_11 : decode cX10_trimLeft 11 = .ok (.ifCond .eq 15, 3) := by decide +kernel
theorem dX10_trimLeft_14 : decode cX10_trimLeft 14 = .ok (.aload_n 0, 1) := by decide +kernel
theorem dX10_trimLeft_15 : decode cX10_trimLeft 15 = .ok (.getfield 53, 3) := by decide +kernel
theorem dX10_trimLeft_18 : decode cX10_trimLeft 18 = .ok (.getfield 151, 3) := by decide +kernel
theorem dX10_trimLeft_21 : decode cX10_trimLeft 21 = .ok (.iload_n 1, 1) := by decide +kernel
theorem dX10_trimLeft_22 : decode cX10_trimLeft 22 = .ok (.iaload, 1) := by decide +kernel
theorem dX10_trimLeft_23 : decode cX10_trimLeft 23 = .ok (.goto 4, 3) := by decide +kernel
theorem dX10_trimLeft_26 : decode cX10_trimLeft 26 = .ok (.iconst (-1), 1) := by decide +kernel
theorem dX10_trimLeft_27 : decode cX10_trimLeft 27 = .ok (.ireturn, 1) := by decide +kernel
theorem dX10_trimTop_0 : decode cX10_trimTop 0 = .ok (.aload_n 0, 1) := by decide +kernel
theorem dX10_trimTop_1 : decode cX10_trimTop 1 = .ok (.getfield 47, 3) := by decide +kernel
theorem dX10_trimTop_4 : decode cX10_trimTop 4 = .ok (.getfield 85, 3) := by decide +kernel
theorem dX10_trimTop_7 : decode cX10_trimTop 7 = .ok (.iload_n 1, 1) := by decide +kernel
theorem dX10_trimTop_8 : decode cX10_trimTop 8 = .ok (.invokevirtual 120, 3) := by decide +kernel
theorem dX10_trimTop_11 : decode cX10_trimTop 11 = .ok (.ifCond .eq 15, 3) := by decide +kernel
theorem dX10_trimTop_14 : decode cX10_trimTop 14 = .ok (.aload_n 0, 1) := by decide +kernel
theorem dX10_trimTop_15 : decode cX10_trimTop 15 = .ok (.getfield 53, 3) := by decide +kernel
theorem dX10_trimTop_18 : decode cX10_trimTop 18 = .ok (.getfield 154, 3) := by decide +kernel
theorem dX10_trimTop_21 : decode cX10_trimTop 21 = .ok (.iload_n 1, 1) := by decide +kernel
theorem dX10_trimTop_22 : decode cX10_trimTop 22 = .ok (.iaload, 1) := by decide +kernel
theorem dX10_trimTop_23 : decode cX10_trimTop 23 = .ok (.goto 4, 3) := by decide +kernel
theorem dX10_trimTop_26 : decode cX10_trimTop 26 = .ok (.iconst (-1), 1) := by decide +kernel
theorem dX10_trimTop_27 : decode cX10_trimTop 27 = .ok (.ireturn, 1) := by decide +kernel
theorem dX10_trimWidth_0 : decode cX10_trimWidth 0 = .ok (.aload_n 0, 1) := by decide +kernel
theorem dX10_trimWidth_1 : decode cX10_trimWidth 1 = .ok (.getfield 47, 3) := by decide +kernel
theorem dX10_trimWidth_4 : decode cX10_trimWidth 4 = .ok (.getfield 85, 3) := by decide +kernel
theorem dX10_trimWidth_7 : decode cX10_trimWidth 7 = .ok (.iload_n 1, 1) := by decide +kernel
theorem dX10_trimWidth_8 : decode cX10_trimWidth 8 = .ok (.invokevirtual 120, 3) := by decide +kernel
theorem dX10_trimWidth_11 : decode cX10_trimWidth 11 = .ok (.ifCond .eq 15, 3) := by decide +kernel
theorem dX10_trimWidth_14 : decode cX10_trimWidth 14 = .ok (.aload_n 0, 1) := by decide +kernel
theorem dX10_trimWidth_15 : decode cX10_trimWidth 15 = .ok (.getfield 53, 3) := by decide +kernel
theorem dX10_trimWidth_18 : decode cX10_trimWidth 18 = .ok (.getfield 157, 3) := by decide +kernel
theorem dX10_trimWidth_21 : decode cX10_trimWidth 21 = .ok (.iload_n 1, 1) := by decide +kernel
theorem dX10_trimWidth_22 : decode cX10_trimWidth 22 = .ok (.iaload, 1) := by decide +kernel
theorem dX10_trimWidth_23 : decode cX10_trimWidth 23 = .ok (.goto 4, 3) := by decide +kernel
theorem dX10_trimWidth_26 : decode cX10_trimWidth 26 = .ok (.iconst (-1), 1) := by decide +kernel
theorem dX10_trimWidth_27 : decode cX10_trimWidth 27 = .ok (.ireturn, 1) := by decide +kernel
theorem dX10_trimHeight_0 : decode cX10_trimHeight 0 = .ok (.aload_n 0, 1) := by decide +kernel
theorem dX10_trimHeight_1 : decode cX10_trimHeight 1 = .ok (.getfield 47, 3) := by decide +kernel
theorem dX10_trimHeight_4 : decode cX10_trimHeight 4 = .ok (.getfield 85, 3) := by decide +kernel
theorem dX10_trimHeight_7 : decode cX10_trimHeight 7 = .ok (.iload_n 1, 1) := by decide +kernel
theorem dX10_trimHeight_8 : decode cX10_trimHeight 8 = .ok (.invokevirtual 120, 3) := by decide +kernel
theorem dX10_trimHeight_11 : decode cX10_trimHeight 11 = .ok (.ifCond .eq 15, 3) := by decide +kernel
theorem dX10_trimHeight_14 : decode cX10_trimHeight 14 = .ok (.aload_n 0, 1) := by decide +kernel
theorem dX10_trimHeight_15 : decode cX10_trimHeight 15 = .ok (.getfield 53, 3) := by decide +kernel
theorem dX10_trimHeight_18 : decode cX10_trimHeight 18 = .ok (.getfield 158, 3) := by decide +kernel
theorem dX10_trimHeight_21 : decode cX10_trimHeight 21 = .ok (.iload_n 1, 1) := by decide +kernel
theorem dX10_trimHeight_22 : decode cX10_trimHeight 22 = .ok (.iaload, 1) := by decide +kernel
theorem dX10_trimHeight_23 : decode cX10_trimHeight 23 = .ok (.goto 4, 3) := by decide +kernel
theorem dX10_trimHeight_26 : decode cX10_trimHeight 26 = .ok (.iconst (-1), 1) := by decide +kernel
theorem dX10_trimHeight_27 : decode cX10_trimHeight 27 = .ok (.ireturn, 1) := by decide +kernel
theorem dX10_originalOf_0 : decode cX10_originalOf 0 = .ok (.aload_n 0, 1) := by decide +kernel
theorem dX10_originalOf_1 : decode cX10_originalOf 1 = .ok (.getfield 47, 3) := by decide +kernel
theorem dX10_originalOf_4 : decode cX10_originalOf 4 = .ok (.getfield 85, 3) := by decide +kernel
theorem dX10_originalOf_7 : decode cX10_originalOf 7 = .ok (.iload_n 1, 1) := by decide +kernel
theorem dX10_originalOf_8 : decode cX10_originalOf 8 = .ok (.invokevirtual 120, 3) := by decide +kernel
theorem dX10_originalOf_11 : decode cX10_originalOf 11 = .ok (.ifCond .eq 15, 3) := by decide +kernel
theorem dX10_originalOf_14 : decode cX10_originalOf 14 = .ok (.aload_n 0, 1) := by decide +kernel
theorem dX10_originalOf_15 : decode cX10_originalOf 15 = .ok (.getfield 53, 3) := by decide +kernel
theorem dX10_originalOf_18 : decode cX10_originalOf 18 = .ok (.getfield 159, 3) := by decide +kernel
theorem dX10_originalOf_21 : decode cX10_originalOf 21 = .ok (.iload_n 1, 1) := by decide +kernel
theorem dX10_originalOf_22 : decode cX10_originalOf 22 = .ok (.iaload, 1) := by decide +kernel
theorem dX10_originalOf_23 : decode cX10_originalOf 23 = .ok (.goto 4, 3) := by decide +kernel
theorem dX10_originalOf_26 : decode cX10_originalOf 26 = .ok (.iconst (-1), 1) := by decide +kernel
theorem dX10_originalOf_27 : decode cX10_originalOf 27 = .ok (.ireturn, 1) := by decide +kernel
theorem dX10_orientationOf_0 : decode cX10_orientationOf 0 = .ok (.aload_n 0, 1) := by decide +kernel
theorem dX10_orientationOf_1 : decode cX10_orientationOf 1 = .ok (.getfield 47, 3) := by decide +kernel
theorem dX10_orientationOf_4 : decode cX10_orientationOf 4 = .ok (.getfield 85, 3) := by decide +kernel
theorem dX10_orientationOf_7 : decode cX10_orientationOf 7 = .ok (.iload_n 1, 1) := by decide +kernel
theorem dX10_orientationOf_8 : decode cX10_orientationOf 8 = .ok (.invokevirtual 120, 3) := by decide +kernel
theorem dX10_orientationOf_11 : decode cX10_orientationOf 11 = .ok (.ifCond .eq 15, 3) := by decide +kernel
theorem dX10_orientationOf_14 : decode cX10_orientationOf 14 = .ok (.aload_n 0, 1) := by decide +kernel
theorem dX10_orientationOf_15 : decode cX10_orientationOf 15 = .ok (.getfield 53, 3) := by decide +kernel
theorem dX10_orientationOf_18 : decode cX10_orientationOf 18 = .ok (.getfield 162, 3) := by decide +kernel
theorem dX10_orientationOf_21 : decode cX10_orientationOf 21 = .ok (.iload_n 1, 1) := by decide +kernel
theorem dX10_orientationOf_22 : decode cX10_orientationOf 22 = .ok (.iaload, 1) := by decide +kernel
theorem dX10_orientationOf_23 : decode cX10_orientationOf 23 = .ok (.goto 4, 3) := by decide +kernel
theorem dX10_orientationOf_26 : decode cX10_orientationOf 26 = .ok (.iconst (-1), 1) := by decide +kernel
theorem dX10_orientationOf_27 : decode cX10_orientationOf 27 = .ok (.ireturn, 1) := by decide +kernel
theorem dX10_setPageSize_0 : decode cX10_setPageSize 0 = .ok (.iload_n 1, 1) := by decide +kernel
theorem dX10_setPageSize_1 : decode cX10_setPageSize 1 = .ok (.iconst 4, 1) := by decide +kernel
theorem dX10_setPageSize_2 : decode cX10_setPageSize 2 = .ok (.bipush 32, 2) := by decide +kernel
theorem dX10_setPageSize_4 : decode cX10_setPageSize 4 = .ok (.invokestatic 69, 3) := by decide +kernel
theorem dX10_setPageSize_7 : decode cX10_setPageSize 7 = .ok (.ifCond .eq 13, 3) := by decide +kernel
theorem dX10_setPageSize_10 : decode cX10_setPageSize 10 = .ok (.iload_n 2, 1) := by decide +kernel
theorem dX10_setPageSize_11 : decode cX10_setPageSize 11 = .ok (.iconst 4, 1) := by decide +kernel
theorem dX10_setPageSize_12 : decode cX10_setPageSize 12 = .ok (.bipush 32, 2) := by decide +kernel
theorem dX10_setPageSize_14 : decode cX10_setPageSize 14 = .ok (.invokestatic 69, 3) := by decide +kernel
theorem dX10_setPageSize_17 : decode cX10_setPageSize 17 = .ok (.ifCond .ne 5, 3) := by decide +kernel
theorem dX10_setPageSize_20 : decode cX10_setPageSize 20 = .ok (.iconst (-1), 1) := by decide +kernel
theorem dX10_setPageSize_21 : decode cX10_setPageSize 21 = .ok (.ireturn, 1) := by decide +kernel
theorem dX10_setPageSize_22 : decode cX10_setPageSize 22 = .ok (.bipush 100, 2) := by decide +kernel
theorem dX10_setPageSize_24 : decode cX10_setPageSize 24 = .ok (.aload_n 0, 1) := by decide +kernel
theorem dX10_setPageSize_25 : decode cX10_setPageSize 25 = .ok (.getfield 47, 3) := by decide +kernel
theorem dX10_setPageSize_28 : decode cX10_setPageSize 28 = .ok (.getfield 105, 3) := by decide +kernel
theorem dX10_setPageSize_31 : decode cX10_setPageSize 31 = .ok (.getfield 165, 3) := by decide +kernel
theorem dX10_setPageSize_34 : decode cX10_setPageSize 34 = .ok (.imul, 1) := by decide +kernel
theorem dX10_setPageSize_35 : decode cX10_setPageSize 35 = .ok (.aload_n 0, 1) := by decide +kernel
theorem dX10_setPageSize_36 : decode cX10_setPageSize 36 = .ok (.getfield 47, 3) := by decide +kernel
theorem dX10_setPageSize_39 : decode cX10_setPageSize 39 = .ok (.getfield 105, 3) := by decide +kernel
theorem dX10_setPageSize_42 : decode cX10_setPageSize 42 = .ok (.getfield 170, 3) := by decide +kernel
theorem dX10_setPageSize_45 : decode cX10_setPageSize 45 = .ok (.iadd, 1) := by decide +kernel
theorem dX10_setPageSize_46 : decode cX10_setPageSize 46 = .ok (.istore_n 3, 1) := by decide +kernel
theorem dX10_setPageSize_47 : decode cX10_setPageSize 47 = .ok (.aload_n 0, 1) := by decide +kernel
theorem dX10_setPageSize_48 : decode cX10_setPageSize 48 = .ok (.getfield 26, 3) := by decide +kernel
theorem dX10_setPageSize_51 : decode cX10_setPageSize 51 = .ok (.aload_n 0, 1) := by decide +kernel
theorem dX10_setPageSize_52 : decode cX10_setPageSize 52 = .ok (.getfield 47, 3) := by decide +kernel
theorem dX10_setPageSize_55 : decode cX10_setPageSize 55 = .ok (.invokevirtual 97, 3) := by decide +kernel
theorem dX10_setPageSize_58 : decode cX10_setPageSize 58 = .ok (.aload_n 0, 1) := by decide +kernel
theorem dX10_setPageSize_59 : decode cX10_setPageSize 59 = .ok (.getfield 47, 3) := by decide +kernel
theorem dX10_setPageSize_62 : decode cX10_setPageSize 62 = .ok (.getfield 105, 3) := by decide +kernel
theorem dX10_setPageSize_65 : decode cX10_setPageSize 65 = .ok (.iload_n 1, 1) := by decide +kernel
theorem dX10_setPageSize_66 : decode cX10_setPageSize 66 = .ok (.putfield 165, 3) := by decide +kernel
theorem dX10_setPageSize_69 : decode cX10_setPageSize 69 = .ok (.aload_n 0, 1) := by decide +kernel
theorem dX10_setPageSize_70 : decode cX10_setPageSize 70 = .ok (.getfield 47, 3) := by decide +kernel
theorem dX10_setPageSize_73 : decode cX10_setPageSize 73 = .ok (.getfield 105, 3) := by decide +kernel
theorem dX10_setPageSize_76 : decode cX10_setPageSize 76 = .ok (.iload_n 2, 1) := by decide +kernel
theorem dX10_setPageSize_77 : decode cX10_setPageSize 77 = .ok (.putfield 170, 3) := by decide +kernel
theorem dX10_setPageSize_80 : decode cX10_setPageSize 80 = .ok (.aload_n 0, 1) := by decide +kernel
theorem dX10_setPageSize_81 : decode cX10_setPageSize 81 = .ok (.invokevirtual 141, 3) := by decide +kernel
theorem dX10_setPageSize_84 : decode cX10_setPageSize 84 = .ok (.iload_n 3, 1) := by decide +kernel
theorem dX10_setPageSize_85 : decode cX10_setPageSize 85 = .ok (.ireturn, 1) := by decide +kernel
theorem dX10_setPageLimit_0 : decode cX10_setPageLimit 0 = .ok (.iload_n 1, 1) := by decide +kernel
theorem dX10_setPageLimit_1 : decode cX10_setPageLimit 1 = .ok (.iconst 1, 1) := by decide +kernel
theorem dX10_setPageLimit_2 : decode cX10_setPageLimit 2 = .ok (.iconst 4, 1) := by decide +kernel
theorem dX10_setPageLimit_3 : decode cX10_setPageLimit 3 = .ok (.invokestatic 69, 3) := by decide +kernel
theorem dX10_setPageLimit_6 : decode cX10_setPageLimit 6 = .ok (.ifCond .ne 5, 3) := by decide +kernel
theorem dX10_setPageLimit_9 : decode cX10_setPageLimit 9 = .ok (.iconst (-1), 1) := by decide +kernel
theorem dX10_setPageLimit_10 : decode cX10_setPageLimit 10 = .ok (.ireturn, 1) := by decide +kernel
theorem dX10_setPageLimit_11 : decode cX10_setPageLimit 11 = .ok (.aload_n 0, 1) := by decide +kernel
theorem dX10_setPageLimit_12 : decode cX10_setPageLimit 12 = .ok (.getfield 47, 3) := by decide +kernel
theorem dX10_setPageLimit_15 : decode cX10_setPageLimit 15 = .ok (.getfield 105, 3) := by decide +kernel
theorem dX10_setPageLimit_18 : decode cX10_setPageLimit 18 = .ok (.getfield 173, 3) := by decide +kernel
theorem dX10_setPageLimit_21 : decode cX10_setPageLimit 21 = .ok (.istore_n 2, 1) := by decide +kernel
theorem dX10_setPageLimit_22 : decode cX10_setPageLimit 22 = .ok (.aload_n 0, 1) := by decide +kernel
theorem dX10_setPageLimit_23 : decode cX10_setPageLimit 23 = .ok (.getfield 26, 3) := by decide +kernel
theorem dX10_setPageLimit_26 : decode cX10_setPageLimit 26 = .ok (.aload_n 0, 1) := by decide +kernel
theorem dX10_setPageLimit_27 : decode cX10_setPageLimit 27 = .ok (.getfield 47, 3) := by decide +kernel
theorem dX10_setPageLimit_30 : decode cX10_setPageLimit 30 = .ok (.invokevirtual 97, 3) := by decide +kernel
theorem dX10_setPageLimit_33 : decode cX10_setPageLimit 33 = .ok (.aload_n 0, 1) := by decide +kernel
theorem dX10_setPageLimit_34 : decode cX10_setPageLimit 34 = .ok (.getfield 47, 3) := by decide +kernel
theorem dX10_setPageLimit_37 : decode cX10_setPageLimit 37 = .ok (.getfield 105, 3) := by decide +kernel
theorem dX10_setPageLimit_40 : decode cX10_setPageLimit 40 = .ok (.iload_n 1, 1) := by decide +kernel
theorem dX10_setPageLimit_41 : decode cX10_setPageLimit 41 = .ok (.putfield 173, 3) := by decide +kernel
theorem dX10_setPageLimit_44 : decode cX10_setPageLimit 44 = .ok (.aload_n 0, 1) := by decide +kernel
theorem dX10_setPageLimit_45 : decode cX10_setPageLimit 45 = .ok (.invokevirtual 141, 3) := by decide +kernel
theorem dX10_setPageLimit_48 : decode cX10_setPageLimit 48 = .ok (.iload_n 2, 1) := by decide +kernel
theorem dX10_setPageLimit_49 : decode cX10_setPageLimit 49 = .ok (.ireturn, 1) := by decide +kernel
theorem dX10_setMargins_0 : decode cX10_setMargins 0 = .ok (.iload_n 1, 1) := by decide +kernel
theorem dX10_setMargins_1 : decode cX10_setMargins 1 = .ok (.iconst 0, 1) := by decide +kernel
theorem dX10_setMargins_2 : decode cX10_setMargins 2 = .ok (.iconst 3, 1) := by decide +kernel
theorem dX10_setMargins_3 : decode cX10_setMargins 3 = .ok (.invokestatic 69, 3) := by decide +kernel
theorem dX10_setMargins_6 : decode cX10_setMargins 6 = .ok (.ifCond .eq 21, 3) := by decide +kernel
theorem dX10_setMargins_9 : decode cX10_setMargins 9 = .ok (.iload_n 2, 1) := by decide +kernel
theorem dX10_setMargins_10 : decode cX10_setMargins 10 = .ok (.iconst 0, 1) := by decide +kernel
theorem dX10_setMargins_11 : decode cX10_setMargins 11 = .ok (.iconst 3, 1) := by decide +kernel
theorem dX10_setMargins_12 : decode cX10_setMargins 12 = .ok (.invokestatic 69, 3) := by decide +kernel
theorem dX10_setMargins_15 : decode cX10_setMargins 15 = .ok (.ifCond .eq 12, 3) := by decide +kernel
theorem dX10_setMargins_18 : decode cX10_setMargins 18 = .ok (.iload_n 3, 1) := by decide +kernel
theorem dX10_setMargins_19 : decode cX10_setMargins 19 = .ok (.iconst 0, 1) := by decide +kernel
theorem dX10_setMargins_20 : decode cX10_setMargins 20 = .ok (.iconst 2, 1) := by decide +kernel
theorem dX10_setMargins_21 : decode cX10_setMargins 21 = .ok (.invokestatic 69, 3) := by decide +kernel
theorem dX10_setMargins_24 : decode cX10_setMargins 24 = .ok (.ifCond .ne 5, 3) := by decide +kernel
theorem dX10_setMargins_27 : decode cX10_setMargins 27 = .ok (.iconst (-1), 1) := by decide +kernel
theorem dX10_setMargins_28 : decode cX10_setMargins 28 = .ok (.ireturn, 1) := by decide +kernel
theorem dX10_setMargins_29 : decode cX10_setMargins 29 = .ok (.aload_n 0, 1) := by decide +kernel
theorem dX10_setMargins_30 : decode cX10_setMargins 30 = .ok (.getfield 47, 3) := by decide +kernel
theorem dX10_setMargins_33 : decode cX10_setMargins 33 = .ok (.getfield 105, 3) := by decide +kernel
theorem dX10_setMargins_36 : decode cX10_setMargins 36 = .ok (.astore 4, 2) := by decide +kernel
theorem dX10_setMargins_38 : decode cX10_setMargins 38 = .ok (.bipush 100, 2) := by decide +kernel
theorem dX10_setMargins_40 : decode cX10_setMargins 40 = .ok (.aload 4, 2) := by decide +kernel
theorem dX10_setMargins_42 : decode cX10_setMargins 42 = .ok (.getfield 176, 3) := by decide +kernel
theorem dX10_setMargins_45 : decode cX10_setMargins 45 = .ok (.imul, 1) := by decide +kernel
theorem dX10_setMargins_46 : decode cX10_setMargins 46 = .ok (.bipush 10, 2) := by decide +kernel
theorem dX10_setMargins_48 : decode cX10_setMargins 48 = .ok (.aload 4, 2) := by decide +kernel
theorem dX10_setMargins_50 : decode cX10_setMargins 50 = .ok (.getfield 179, 3) := by decide +kernel
theorem dX10_setMargins_53 : decode cX10_setMargins 53 = .ok (.imul, 1) := by decide +kernel
theorem dX10_setMargins_54 : decode cX10_setMargins 54 = .ok (.iadd, 1) := by decide +kernel
theorem dX10_setMargins_55 : decode cX10_setMargins 55 = .ok (.aload 4, 2) := by decide +kernel
theorem dX10_setMargins_57 : decode cX10_setMargins 57 = .ok (.getfield 182, 3) := by decide +kernel
theorem dX10_setMargins_60 : decode cX10_setMargins 60 = .ok (.iadd, 1) := by decide +kernel
theorem dX10_setMargins_61 : decode cX10_setMargins 61 = .ok (.istore 5, 2) := by decide +kernel
theorem dX10_setMargins_63 : decode cX10_setMargins 63 = .ok (.aload_n 0, 1) := by decide +kernel
theorem dX10_setMargins_64 : decode cX10_setMargins 64 = .ok (.getfield 26, 3) := by decide +kernel
theorem dX10_setMargins_67 : decode cX10_setMargins 67 = .ok (.aload_n 0, 1) := by decide +kernel
theorem dX10_setMargins_68 : decode cX10_setMargins 68 = .ok (.getfield 47, 3) := by decide +kernel
theorem dX10_setMargins_71 : decode cX10_setMargins 71 = .ok (.invokevirtual 97, 3) := by decide +kernel
theorem dX10_setMargins_74 : decode cX10_setMargins 74 = .ok (.aload 4, 2) := by decide +kernel
theorem dX10_setMargins_76 : decode cX10_setMargins 76 = .ok (.iload_n 1, 1) := by decide +kernel
theorem dX10_setMargins_77 : decode cX10_setMargins 77 = .ok (.putfield 176, 3) := by decide +kernel
theorem dX10_setMargins_80 : decode cX10_setMargins 80 = .ok (.aload 4, 2) := by decide +kernel
theorem dX10_setMargins_82 : decode cX10_setMargins 82 = .ok (.iload_n 2, 1) := by decide +kernel
theorem dX10_setMargins_83 : decode cX10_setMargins 83 = .ok (.putfield 179, 3) := by decide +kernel
theorem dX10_setMargins_86 : decode cX10_setMargins 86 = .ok (.aload 4, 2) := by decide +kernel
theorem dX10_setMargins_88 : decode cX10_setMargins 88 = .ok (.iload_n 3, 1) := by decide +kernel
theorem dX10_setMargins_89 : decode cX10_setMargins 89 = .ok (.putfield 182, 3) := by decide +kernel
theorem dX10_setMargins_92 : decode cX10_setMargins 92 = .ok (.aload_n 0, 1) := by decide +kernel
theorem dX10_setMargins_93 : decode cX10_setMargins 93 = .ok (.invokevirtual 141, 3) := by decide +kernel
theorem dX10_setMargins_96 : decode cX10_setMargins 96 = .ok (.iload 5, 2) := by decide +kernel
theorem dX10_setMargins_98 : decode cX10_setMargins 98 = .ok (.ireturn, 1) := by decide +kernel
theorem dX10_setTrimming_0 : decode cX10_setTrimming 0 = .ok (.aload_n 0, 1) := by decide +kernel
theorem dX10_setTrimming_1 : decode cX10_setTrimming 1 = .ok (.getfield 47, 3) := by decide +kernel
theorem dX10_setTrimming_4 : decode cX10_setTrimming 4 = .ok (.getfield 105, 3) := by decide +kernel
theorem dX10_setTrimming_7 : decode cX10_setTrimming 7 = .ok (.getfield 185, 3) := by decide +kernel
theorem dX10_setTrimming_10 : decode cX10_setTrimming 10 = .ok (.invokestatic 189, 3) := by decide +kernel
theorem dX10_setTrimming_13 : decode cX10_setTrimming 13 = .ok (.istore_n 2, 1) := by decide +kernel
theorem dX10_setTrimming_14 : decode cX10_setTrimming 14 = .ok (.aload_n 0, 1) := by decide +kernel
theorem dX10_setTrimming_15 : decode cX10_setTrimming 15 = .ok (.getfield 26, 3) := by decide +kernel
theorem dX10_setTrimming_18 : decode cX10_setTrimming 18 = .ok (.aload_n 0, 1) := by decide +kernel
theorem dX10_setTrimming_19 : decode cX10_setTrimming 19 = .ok (.getfield 47, 3) := by decide +kernel
theorem dX10_setTrimming_22 : decode cX10_setTrimming 22 = .ok (.invokevirtual 97, 3) := by decide +kernel
theorem dX10_setTrimming_25 : decode cX10_setTrimming 25 = .ok (.aload_n 0, 1) := by decide +kernel
theorem dX10_setTrimming_26 : decode cX10_setTrimming 26 = .ok (.getfield 47, 3) := by decide +kernel
theorem dX10_setTrimming_29 : decode cX10_setTrimming 29 = .ok (.getfield 105, 3) := by decide +kernel
theorem dX10_setTrimming_32 : decode cX10_setTrimming 32 = .ok (.iload_n 1, 1) := by decide +kernel
theorem dX10_setTrimming_33 : decode cX10_setTrimming 33 = .ok (.putfield 185, 3) := by decide +kernel
theorem dX10_setTrimming_36 : decode cX10_setTrimming 36 = .ok (.aload_n 0, 1) := by decide +kernel
theorem dX10_setTrimming_37 : decode cX10_setTrimming 37 = .ok (.invokevirtual 141, 3) := by decide +kernel
theorem dX10_setTrimming_40 : decode cX10_setTrimming 40 = .ok (.iload_n 2, 1) := by decide +kernel
theorem dX10_setTrimming_41 : decode cX10_setTrimming 41 = .ok (.ireturn, 1) := by decide +kernel
theorem dX10_setMatching_0 : decode cX10_setMatching 0 = .ok (.iload_n 1, 1) := by decide +kernel
theorem dX10_setMatching_1 : decode cX10_setMatching 1 = .ok (.iconst 0, 1) := by decide +kernel
theorem dX10_setMatching_2 : decode cX10_setMatching 2 = .ok (.iconst 3, 1) := by decide +kernel
theorem dX10_setMatching_3 : decode cX10_setMatching 3 = .ok (.invokestatic 69, 3) := by decide +kernel
theorem dX10_setMatching_6 : decode cX10_setMatching 6 = .ok (.ifCond .ne 5, 3) := by decide +kernel
theorem dX10_setMatching_9 : decode cX10_setMatching 9 = .ok (.iconst (-1), 1) := by decide +kernel
theorem dX10_setMatching_10 : decode cX10_setMatching 10 = .ok (.ireturn, 1) := by decide +kernel
theorem dX10_setMatching_11 : decode cX10_setMatching 11 = .ok (.aload_n 0, 1) := by decide +kernel
theorem dX10_setMatching_12 : decode cX10_setMatching 12 = .ok (.getfield 47, 3) := by decide +kernel
theorem dX10_setMatching_15 : decode cX10_setMatching 15 = .ok (.getfield 105, 3) := by decide +kernel
theorem dX10_setMatching_18 : decode cX10_setMatching 18 = .ok (.getfield 193, 3) := by decide +kernel
theorem dX10_setMatching_21 : decode cX10_setMatching 21 = .ok (.istore_n 2, 1) := by decide +kernel
theorem dX10_setMatching_22 : decode cX10_setMatching 22 = .ok (.aload_n 0, 1) := by decide +kernel
theorem dX10_setMatching_23 : decode cX10_setMatching 23 = .ok (.getfield 26, 3) := by decide +kernel
theorem dX10_setMatching_26 : decode cX10_setMatching 26 = .ok (.aload_n 0, 1) := by decide +kernel
theorem dX10_setMatching_27 : decode cX10_setMatching 27 = .ok (.getfield 47, 3) := by decide +kernel
theorem dX10_setMatching_30 : decode cX10_setMatching 30 = .ok (.invokevirtual 97, 3) := by decide +kernel
theorem dX10_setMatching_33 : decode cX10_setMatching 33 = .ok (.aload_n 0, 1) := by decide +kernel
theorem dX10_setMatching_34 : decode cX10_setMatching 34 = .ok (.getfield 47, 3) := by decide +kernel
theorem dX10_setMatching_37 : decode cX10_setMatching 37 = .ok (.getfield 105, 3) := by decide +kernel
theorem dX10_setMatching_40 : decode cX10_setMatching 40 = .ok (.iload_n 1, 1) := by decide +kernel
theorem dX10_setMatching_41 : decode cX10_setMatching 41 = .ok (.putfield 193, 3) := by decide +kernel
theorem dX10_setMatching_44 : decode cX10_setMatching 44 = .ok (.aload_n 0, 1) := by decide +kernel
theorem dX10_setMatching_45 : decode cX10_setMatching 45 = .ok (.invokevirtual 141, 3) := by decide +kernel
theorem dX10_setMatching_48 : decode cX10_setMatching 48 = .ok (.iload_n 2, 1) := by decide +kernel
theorem dX10_setMatching_49 : decode cX10_setMatching 49 = .ok (.ireturn, 1) := by decide +kernel
theorem dX10_setRotation_0 : decode cX10_setRotation 0 = .ok (.aload_n 0, 1) := by decide +kernel
theorem dX10_setRotation_1 : decode cX10_setRotation 1 = .ok (.getfield 47, 3) := by decide +kernel
theorem dX10_setRotation_4 : decode cX10_setRotation 4 = .ok (.getfield 105, 3) := by decide +kernel
theorem dX10_setRotation_7 : decode cX10_setRotation 7 = .ok (.getfield 196, 3) := by decide +kernel
theorem dX10_setRotation_10 : decode cX10_setRotation 10 = .ok (.invokestatic 189, 3) := by decide +kernel
theorem dX10_setRotation_13 : decode cX10_setRotation 13 = .ok (.istore_n 2, 1) := by decide +kernel
theorem dX10_setRotation_14 : decode cX10_setRotation 14 = .ok (.aload_n 0, 1) := by decide +kernel
theorem dX10_setRotation_15 : decode cX10_setRotation 15 = .ok (.getfield 26, 3) := by decide +kernel
theorem dX10_setRotation_18 : decode cX10_setRotation 18 = .ok (.aload_n 0, 1) := by decide +kernel
theorem dX10_setRotation_19 : decode cX10_setRotation 19 = .ok (.getfield 47, 3) := by decide +kernel
theorem dX10_setRotation_22 : decode cX10_setRotation 22 = .ok (.invokevirtual 97, 3) := by decide +kernel
theorem dX10_setRotation_25 : decode cX10_setRotation 25 = .ok (.aload_n 0, 1) := by decide +kernel
theorem dX10_setRotation_26 : decode cX10_setRotation 26 = .ok (.getfield 47, 3) := by decide +kernel
theorem dX10_setRotation_29 : decode cX10_setRotation 29 = .ok (.getfield 105, 3) := by decide +kernel
theorem dX10_setRotation_32 : decode cX10_setRotation 32 = .ok (.iload_n 1, 1) := by decide +kernel
theorem dX10_setRotation_33 : decode cX10_setRotation 33 = .ok (.putfield 196, 3) := by decide +kernel
theorem dX10_setRotation_36 : decode cX10_setRotation 36 = .ok (.aload_n 0, 1) := by decide +kernel
theorem dX10_setRotation_37 : decode cX10_setRotation 37 = .ok (.invokevirtual 141, 3) := by decide +kernel
theorem dX10_setRotation_40 : decode cX10_setRotation 40 = .ok (.iload_n 2, 1) := by decide +kernel
theorem dX10_setRotation_41 : decode cX10_setRotation 41 = .ok (.ireturn, 1) := by decide +kernel
theorem dX10_setGrouped_0 : decode cX10_setGrouped 0 = .ok (.aload_n 0, 1) := by decide +kernel
theorem dX10_setGrouped_1 : decode cX10_setGrouped 1 = .ok (.getfield 47, 3) := by decide +kernel
theorem dX10_setGrouped_4 : decode cX10_setGrouped 4 = .ok (.getfield 105, 3) := by decide +kernel
theorem dX10_setGrouped_7 : decode cX10_setGrouped 7 = .ok (.getfield 199, 3) := by decide +kernel
theorem dX10_setGrouped_10 : decode cX10_setGrouped 10 = .ok (.invokestatic 189, 3) := by decide +kernel
theorem dX10_setGrouped_13 : decode cX10_setGrouped 13 = .ok (.istore_n 2, 1) := by decide +kernel
theorem dX10_setGrouped_14 : decode cX10_setGrouped 14 = .ok (.aload_n 0, 1) := by decide +kernel
theorem dX10_setGrouped_15 : decode cX10_setGrouped 15 = .ok (.getfield 26, 3) := by decide +kernel
theorem dX10_setGrouped_18 : decode cX10_setGrouped 18 = .ok (.aload_n 0, 1) := by decide +kernel
theorem dX10_setGrouped_19 : decode cX10_setGrouped 19 = .ok (.getfield 47, 3) := by decide +kernel
theorem dX10_setGrouped_22 : decode cX10_setGrouped 22 = .ok (.invokevirtual 97, 3) := by decide +kernel
theorem dX10_setGrouped_25 : decode cX10_setGrouped 25 = .ok (.aload_n 0, 1) := by decide +kernel
theorem dX10_setGrouped_26 : decode cX10_setGrouped 26 = .ok (.getfield 47, 3) := by decide +kernel
theorem dX10_setGrouped_29 : decode cX10_setGrouped 29 = .ok (.getfield 105, 3) := by decide +kernel
theorem dX10_setGrouped_32 : decode cX10_setGrouped 32 = .ok (.iload_n 1, 1) := by decide +kernel
theorem dX10_setGrouped_33 : decode cX10_setGrouped 33 = .ok (.putfield 199, 3) := by decide +kernel
theorem dX10_setGrouped_36 : decode cX10_setGrouped 36 = .ok (.aload_n 0, 1) := by decide +kernel
theorem dX10_setGrouped_37 : decode cX10_setGrouped 37 = .ok (.invokevirtual 141, 3) := by decide +kernel
theorem dX10_setGrouped_40 : decode cX10_setGrouped 40 = .ok (.iload_n 2, 1) := by decide +kernel
theorem dX10_setGrouped_41 : decode cX10_setGrouped 41 = .ok (.ireturn, 1) := by decide +kernel
theorem dX10_setOrder_0 : decode cX10_setOrder 0 = .ok (.iload_n 1, 1) := by decide +kernel
theorem dX10_setOrder_1 : decode cX10_setOrder 1 = .ok (.iconst 0, 1) := by decide +kernel
theorem dX10_setOrder_2 : decode cX10_setOrder 2 = .ok (.iconst 3, 1) := by decide +kernel
theorem dX10_setOrder_3 : decode cX10_setOrder 3 = .ok (.invokestatic 69, 3) := by decide +kernel
theorem dX10_setOrder_6 : decode cX10_setOrder 6 = .ok (.ifCond .ne 5, 3) := by decide +kernel
theorem dX10_setOrder_9 : decode cX10_setOrder 9 = .ok (.iconst (-1), 1) := by decide +kernel
theorem dX10_setOrder_10 : decode cX10_setOrder 10 = .ok (.ireturn, 1) := by decide +kernel
theorem dX10_setOrder_11 : decode cX10_setOrder 11 = .ok (.aload_n 0, 1) := by decide +kernel
theorem dX10_setOrder_12 : decode cX10_setOrder 12 = .ok (.getfield 47, 3) := by decide +kernel
theorem dX10_setOrder_15 : decode cX10_setOrder 15 = .ok (.getfield 105, 3) := by decide +kernel
theorem dX10_setOrder_18 : decode cX10_setOrder 18 = .ok (.getfield 202, 3) := by decide +kernel
theorem dX10_setOrder_21 : decode cX10_setOrder 21 = .ok (.istore_n 2, 1) := by decide +kernel
theorem dX10_setOrder_22 : decode cX10_setOrder 22 = .ok (.aload_n 0, 1) := by decide +kernel
theorem dX10_setOrder_23 : decode cX10_setOrder 23 = .ok (.getfield 26, 3) := by decide +kernel
theorem dX10_setOrder_26 : decode cX10_setOrder 26 = .ok (.aload_n 0, 1) := by decide +kernel
theorem dX10_setOrder_27 : decode cX10_setOrder 27 = .ok (.getfield 47, 3) := by decide +kernel
theorem dX10_setOrder_30 : decode cX10_setOrder 30 = .ok (.invokevirtual 97, 3) := by decide +kernel
theorem dX10_setOrder_33 : decode cX10_setOrder 33 = .ok (.aload_n 0, 1) := by decide +kernel
theorem dX10_setOrder_34 : decode cX10_setOrder 34 = .ok (.getfield 47, 3) := by decide +kernel
theorem dX10_setOrder_37 : decode cX10_setOrder 37 = .ok (.getfield 105, 3) := by decide +kernel
theorem dX10_setOrder_40 : decode cX10_setOrder 40 = .ok (.iload_n 1, 1) := by decide +kernel
theorem dX10_setOrder_41 : decode cX10_setOrder 41 = .ok (.putfield 202, 3) := by decide +kernel
theorem dX10_setOrder_44 : decode cX10_setOrder 44 = .ok (.aload_n 0, 1) := by decide +kernel
theorem dX10_setOrder_45 : decode cX10_setOrder 45 = .ok (.invokevirtual 141, 3) := by decide +kernel
theorem dX10_setOrder_48 : decode cX10_setOrder 48 = .ok (.iload_n 2, 1) := by decide +kernel
theorem dX10_setOrder_49 : decode cX10_setOrder 49 = .ok (.ireturn, 1) := by decide +kernel
theorem dX10_setWay_0 : decode cX10_setWay 0 = .ok (.iload_n 1, 1) := by decide +kernel
theorem dX10_setWay_1 : decode cX10_setWay 1 = .ok (.iconst 0, 1) := by decide +kernel
theorem dX10_setWay_2 : decode cX10_setWay 2 = .ok (.iconst 3, 1) := by decide +kernel
theorem dX10_setWay_3 : decode cX10_setWay 3 = .ok (.invokestatic 69, 3) := by decide +kernel
theorem dX10_setWay_6 : decode cX10_setWay 6 = .ok (.ifCond .ne 5, 3) := by decide +kernel
theorem dX10_setWay_9 : decode cX10_setWay 9 = .ok (.iconst (-1), 1) := by decide +kernel
theorem dX10_setWay_10 : decode cX10_setWay 10 = .ok (.ireturn, 1) := by decide +kernel
theorem dX10_setWay_11 : decode cX10_setWay 11 = .ok (.aload_n 0, 1) := by decide +kernel
theorem dX10_setWay_12 : decode cX10_setWay 12 = .ok (.getfield 47, 3) := by decide +kernel
theorem dX10_setWay_15 : decode cX10_setWay 15 = .ok (.getfield 105, 3) := by decide +kernel
theorem dX10_setWay_18 : decode cX10_setWay 18 = .ok (.getfield 205, 3) := by decide +kernel
theorem dX10_setWay_21 : decode cX10_setWay 21 = .ok (.istore_n 2, 1) := by decide +kernel
theorem dX10_setWay_22 : decode cX10_setWay 22 = .ok (.aload_n 0, 1) := by decide +kernel
theorem dX10_setWay_23 : decode cX10_setWay 23 = .ok (.getfield 26, 3) := by decide +kernel
theorem dX10_setWay_26 : decode cX10_setWay 26 = .ok (.aload_n 0, 1) := by decide +kernel
theorem dX10_setWay_27 : decode cX10_setWay 27 = .ok (.getfield 47, 3) := by decide +kernel
theorem dX10_setWay_30 : decode cX10_setWay 30 = .ok (.invokevirtual 97, 3) := by decide +kernel
theorem dX10_setWay_33 : decode cX10_setWay 33 = .ok (.aload_n 0, 1) := by decide +kernel
theorem dX10_setWay_34 : decode cX10_setWay 34 = .ok (.getfield 47, 3) := by decide +kernel
theorem dX10_setWay_37 : decode cX10_setWay 37 = .ok (.getfield 105, 3) := by decide +kernel
theorem dX10_setWay_40 : decode cX10_setWay 40 = .ok (.iload_n 1, 1) := by decide +kernel
theorem dX10_setWay_41 : decode cX10_setWay 41 = .ok (.putfield 205, 3) := by decide +kernel
theorem dX10_setWay_44 : decode cX10_setWay 44 = .ok (.aload_n 0, 1) := by decide +kernel
theorem dX10_setWay_45 : decode cX10_setWay 45 = .ok (.invokevirtual 141, 3) := by decide +kernel
theorem dX10_setWay_48 : decode cX10_setWay 48 = .ok (.iload_n 2, 1) := by decide +kernel
theorem dX10_setWay_49 : decode cX10_setWay 49 = .ok (.ireturn, 1) := by decide +kernel
theorem dX10_pack_0 : decode cX10_pack 0 = .ok (.aload_n 0, 1) := by decide +kernel
theorem dX10_pack_1 : decode cX10_pack 1 = .ok (.getfield 26, 3) := by decide +kernel
theorem dX10_pack_4 : decode cX10_pack 4 = .ok (.aload_n 0, 1) := by decide +kernel
theorem dX10_pack_5 : decode cX10_pack 5 = .ok (.getfield 47, 3) := by decide +kernel
theorem dX10_pack_8 : decode cX10_pack 8 = .ok (.invokevirtual 97, 3) := by decide +kernel
theorem dX10_pack_11 : decode cX10_pack 11 = .ok (.aload_n 0, 1) := by decide +kernel
theorem dX10_pack_12 : decode cX10_pack 12 = .ok (.getfield 62, 3) := by decide +kernel
theorem dX10_pack_15 : decode cX10_pack 15 = .ok (.invokevirtual 208, 3) := by decide +kernel
theorem dX10_pack_18 : decode cX10_pack 18 = .ok (.ireturn, 1) := by decide +kernel
theorem dX10_insert_0 : decode cX10_insert 0 = .ok (.aload_n 0, 1) := by decide +kernel
theorem dX10_insert_1 : decode cX10_insert 1 = .ok (.getfield 47, 3) := by decide +kernel
theorem dX10_insert_4 : decode cX10_insert 4 = .ok (.getfield 85, 3) := by decide +kernel
theorem dX10_insert_7 : decode cX10_insert 7 = .ok (.iload_n 1, 1) := by decide +kernel
theorem dX10_insert_8 : decode cX10_insert 8 = .ok (.invokevirtual 120, 3) := by decide +kernel
theorem dX10_insert_11 : decode cX10_insert 11 = .ok (.ifCond .ne 5, 3) := by decide +kernel
theorem dX10_insert_14 : decode cX10_insert 14 = .ok (.iconst (-1), 1) := by decide +kernel
theorem dX10_insert_15 : decode cX10_insert 15 = .ok (.ireturn, 1) := by decide +kernel
theorem dX10_insert_16 : decode cX10_insert 16 = .ok (.aload_n 0, 1) := by decide +kernel
theorem dX10_insert_17 : decode cX10_insert 17 = .ok (.getfield 53, 3) := by decide +kernel
theorem dX10_insert_20 : decode cX10_insert 20 = .ok (.iload_n 1, 1) := by decide +kernel
theorem dX10_insert_21 : decode cX10_insert 21 = .ok (.invokevirtual 211, 3) := by decide +kernel
theorem dX10_insert_24 : decode cX10_insert 24 = .ok (.ifCond .eq 20, 3) := by decide +kernel
theorem dX10_insert_27 : decode cX10_insert 27 = .ok (.aload_n 0, 1) := by decide +kernel
theorem dX10_insert_28 : decode cX10_insert 28 = .ok (.getfield 47, 3) := by decide +kernel
theorem dX10_insert_31 : decode cX10_insert 31 = .ok (.getfield 214, 3) := by decide +kernel
theorem dX10_insert_34 : decode cX10_insert 34 = .ok (.getfield 218, 3) := by decide +kernel
theorem dX10_insert_37 : decode cX10_insert 37 = .ok (.iload_n 1, 1) := by decide +kernel
theorem dX10_insert_38 : decode cX10_insert 38 = .ok (.iaload, 1) := by decide +kernel
theorem dX10_insert_39 : decode cX10_insert 39 = .ok (.bipush (-4), 2) := by decide +kernel
theorem dX10_insert_41 : decode cX10_insert 41 = .ok (.if_icmp .eq 6, 3) := by decide +kernel
theorem dX10_insert_44 : decode cX10_insert 44 = .ok (.bipush (-3), 2) := by decide +kernel
theorem dX10_insert_46 : decode cX10_insert 46 = .ok (.ireturn, 1) := by decide +kernel
theorem dX10_insert_47 : decode cX10_insert 47 = .ok (.aload_n 0, 1) := by decide +kernel
theorem dX10_insert_48 : decode cX10_insert 48 = .ok (.getfield 62, 3) := by decide +kernel
theorem dX10_insert_51 : decode cX10_insert 51 = .ok (.iload_n 1, 1) := by decide +kernel
theorem dX10_insert_52 : decode cX10_insert 52 = .ok (.invokevirtual 223, 3) := by decide +kernel
theorem dX10_insert_55 : decode cX10_insert 55 = .ok (.ifCond .ne 6, 3) := by decide +kernel
theorem dX10_insert_58 : decode cX10_insert 58 = .ok (.bipush (-2), 2) := by decide +kernel
theorem dX10_insert_60 : decode cX10_insert 60 = .ok (.ireturn, 1) := by decide +kernel
theorem dX10_insert_61 : decode cX10_insert 61 = .ok (.aload_n 0, 1) := by decide +kernel
theorem dX10_insert_62 : decode cX10_insert 62 = .ok (.getfield 26, 3) := by decide +kernel
theorem dX10_insert_65 : decode cX10_insert 65 = .ok (.aload_n 0, 1) := by decide +kernel
theorem dX10_insert_66 : decode cX10_insert 66 = .ok (.getfield 47, 3) := by decide +kernel
theorem dX10_insert_69 : decode cX10_insert 69 = .ok (.invokevirtual 97, 3) := by decide +kernel
theorem dX10_insert_72 : decode cX10_insert 72 = .ok (.aload_n 0, 1) := by decide +kernel
theorem dX10_insert_73 : decode cX10_insert 73 = .ok (.getfield 62, 3) := by decide +kernel
theorem dX10_insert_76 : decode cX10_insert 76 = .ok (.iload_n 1, 1) := by decide +kernel
theorem dX10_insert_77 : decode cX10_insert 77 = .ok (.invokevirtual 226, 3) := by decide +kernel
theorem dX10_insert_80 : decode cX10_insert 80 = .ok (.aload_n 0, 1) := by decide +kernel
theorem dX10_insert_81 : decode cX10_insert 81 = .ok (.getfield 47, 3) := by decide +kernel
theorem dX10_insert_84 : decode cX10_insert 84 = .ok (.getfield 214, 3) := by decide +kernel
theorem dX10_insert_87 : decode cX10_insert 87 = .ok (.getfield 218, 3) := by decide +kernel
theorem dX10_insert_90 : decode cX10_insert 90 = .ok (.iload_n 1, 1) := by decide +kernel
theorem dX10_insert_91 : decode cX10_insert 91 = .ok (.iaload, 1) := by decide +kernel
theorem dX10_insert_92 : decode cX10_insert 92 = .ok (.ireturn, 1) := by decide +kernel
theorem dX10_unplace_0 : decode cX10_unplace 0 = .ok (.aload_n 0, 1) := by decide +kernel
theorem dX10_unplace_1 : decode cX10_unplace 1 = .ok (.getfield 47, 3) := by decide +kernel
theorem dX10_unplace_4 : decode cX10_unplace 4 = .ok (.getfield 85, 3) := by decide +kernel
theorem dX10_unplace_7 : decode cX10_unplace 7 = .ok (.iload_n 1, 1) := by decide +kernel
theorem dX10_unplace_8 : decode cX10_unplace 8 = .ok (.invokevirtual 120, 3) := by decide +kernel
theorem dX10_unplace_11 : decode cX10_unplace 11 = .ok (.ifCond .ne 5, 3) := by decide +kernel
theorem dX10_unplace_14 : decode cX10_unplace 14 = .ok (.iconst (-1), 1) := by decide +kernel
theorem dX10_unplace_15 : decode cX10_unplace 15 = .ok (.ireturn, 1) := by decide +kernel
theorem dX10_unplace_16 : decode cX10_unplace 16 = .ok (.aload_n 0, 1) := by decide +kernel
theorem dX10_unplace_17 : decode cX10_unplace 17 = .ok (.getfield 47, 3) := by decide +kernel
theorem dX10_unplace_20 : decode cX10_unplace 20 = .ok (.getfield 214, 3) := by decide +kernel
theorem dX10_unplace_23 : decode cX10_unplace 23 = .ok (.getfield 218, 3) := by decide +kernel
theorem dX10_unplace_26 : decode cX10_unplace 26 = .ok (.iload_n 1, 1) := by decide +kernel
theorem dX10_unplace_27 : decode cX10_unplace 27 = .ok (.iaload, 1) := by decide +kernel
theorem dX10_unplace_28 : decode cX10_unplace 28 = .ok (.istore_n 2, 1) := by decide +kernel
theorem dX10_unplace_29 : decode cX10_unplace 29 = .ok (.iload_n 2, 1) := by decide +kernel
theorem dX10_unplace_30 : decode cX10_unplace 30 = .ok (.bipush (-4), 2) := by decide +kernel
theorem dX10_unplace_32 : decode cX10_unplace 32 = .ok (.if_icmp .ne 6, 3) := by decide +kernel
theorem dX10_unplace_35 : decode cX10_unplace 35 = .ok (.bipush (-3), 2) := by decide +kernel
theorem dX10_unplace_37 : decode cX10_unplace 37 = .ok (.ireturn, 1) := by decide +kernel
theorem dX10_unplace_38 : decode cX10_unplace 38 = .ok (.aload_n 0, 1) := by decide +kernel
theorem dX10_unplace_39 : decode cX10_unplace 39 = .ok (.getfield 26, 3) := by decide +kernel
theorem dX10_unplace_42 : decode cX10_unplace 42 = .ok (.aload_n 0, 1) := by decide +kernel
theorem dX10_unplace_43 : decode cX10_unplace 43 = .ok (.getfield 47, 3) := by decide +kernel
theorem dX10_unplace_46 : decode cX10_unplace 46 = .ok (.invokevirtual 97, 3) := by decide +kernel
theorem dX10_unplace_49 : decode cX10_unplace 49 = .ok (.aload_n 0, 1) := by decide +kernel
theorem dX10_unplace_50 : decode cX10_unplace 50 = .ok (.getfield 47, 3) := by decide +kernel
theorem dX10_unplace_53 : decode cX10_unplace 53 = .ok (.getfield 214, 3) := by decide +kernel
theorem dX10_unplace_56 : decode cX10_unplace 56 = .ok (.getfield 218, 3) := by decide +kernel
theorem dX10_unplace_59 : decode cX10_unplace 59 = .ok (.iload_n 1, 1) := by decide +kernel
theorem dX10_unplace_60 : decode cX10_unplace 60 = .ok (.bipush (-4), 2) := by decide +kernel
theorem dX10_unplace_62 : decode cX10_unplace 62 = .ok (.iastore, 1) := by decide +kernel
theorem dX10_unplace_63 : decode cX10_unplace 63 = .ok (.aload_n 0, 1) := by decide +kernel
theorem dX10_unplace_64 : decode cX10_unplace 64 = .ok (.getfield 62, 3) := by decide +kernel
theorem dX10_unplace_67 : decode cX10_unplace 67 = .ok (.iload_n 2, 1) := by decide +kernel
theorem dX10_unplace_68 : decode cX10_unplace 68 = .ok (.invokevirtual 229, 3) := by decide +kernel
theorem dX10_unplace_71 : decode cX10_unplace 71 = .ok (.iload_n 2, 1) := by decide +kernel
theorem dX10_unplace_72 : decode cX10_unplace 72 = .ok (.ireturn, 1) := by decide +kernel
theorem dX10_undo_0 : decode cX10_undo 0 = .ok (.aload_n 0, 1) := by decide +kernel
theorem dX10_undo_1 : decode cX10_undo 1 = .ok (.getfield 26, 3) := by decide +kernel
theorem dX10_undo_4 : decode cX10_undo 4 = .ok (.getfield 232, 3) := by decide +kernel
theorem dX10_undo_7 : decode cX10_undo 7 = .ok (.ifCond .ne 6, 3) := by decide +kernel
theorem dX10_undo_10 : decode cX10_undo 10 = .ok (.bipush (-3), 2) := by decide +kernel
theorem dX10_undo_12 : decode cX10_undo 12 = .ok (.ireturn, 1) := by decide +kernel
theorem dX10_undo_13 : decode cX10_undo 13 = .ok (.aload_n 0, 1) := by decide +kernel
theorem dX10_undo_14 : decode cX10_undo 14 = .ok (.getfield 26, 3) := by decide +kernel
theorem dX10_undo_17 : decode cX10_undo 17 = .ok (.aload_n 0, 1) := by decide +kernel
theorem dX10_undo_18 : decode cX10_undo 18 = .ok (.getfield 47, 3) := by decide +kernel
theorem dX10_undo_21 : decode cX10_undo 21 = .ok (.invokevirtual 233, 3) := by decide +kernel
theorem dX10_undo_24 : decode cX10_undo 24 = .ok (.aload_n 0, 1) := by decide +kernel
theorem dX10_undo_25 : decode cX10_undo 25 = .ok (.invokevirtual 236, 3) := by decide +kernel
theorem dX10_undo_28 : decode cX10_undo 28 = .ok (.aload_n 0, 1) := by decide +kernel
theorem dX10_undo_29 : decode cX10_undo 29 = .ok (.getfield 26, 3) := by decide +kernel
theorem dX10_undo_32 : decode cX10_undo 32 = .ok (.getfield 232, 3) := by decide +kernel
theorem dX10_undo_35 : decode cX10_undo 35 = .ok (.ireturn, 1) := by decide +kernel
theorem dX10_pageOf_0 : decode cX10_pageOf 0 = .ok (.aload_n 0, 1) := by decide +kernel
theorem dX10_pageOf_1 : decode cX10_pageOf 1 = .ok (.getfield 47, 3) := by decide +kernel
theorem dX10_pageOf_4 : decode cX10_pageOf 4 = .ok (.getfield 85, 3) := by decide +kernel
theorem dX10_pageOf_7 : decode cX10_pageOf 7 = .ok (.iload_n 1, 1) := by decide +kernel
theorem dX10_pageOf_8 : decode cX10_pageOf 8 = .ok (.invokevirtual 120, 3) := by decide +kernel
theorem dX10_pageOf_11 : decode cX10_pageOf 11 = .ok (.ifCond .eq 11, 3) := by decide +kernel
theorem dX10_pageOf_14 : decode cX10_pageOf 14 = .ok (.aload_n 0, 1) := by decide +kernel
theorem dX10_pageOf_15 : decode cX10_pageOf 15 = .ok (.iload_n 1, 1) := by decide +kernel
theorem dX10_pageOf_16 : decode cX10_pageOf 16 = .ok (.invokevirtual 239, 3) := by decide +kernel
theorem dX10_pageOf_19 : decode cX10_pageOf 19 = .ok (.goto 4, 3) := by decide +kernel
theorem dX10_pageOf_22 : decode cX10_pageOf 22 = .ok (.iconst (-1), 1) := by decide +kernel
theorem dX10_pageOf_23 : decode cX10_pageOf 23 = .ok (.ireturn, 1) := by decide +kernel
theorem dX10_xOf_0 : decode cX10_xOf 0 = .ok (.aload_n 0, 1) := by decide +kernel
theorem dX10_xOf_1 : decode cX10_xOf 1 = .ok (.getfield 47, 3) := by decide +kernel
theorem dX10_xOf_4 : decode cX10_xOf 4 = .ok (.getfield 85, 3) := by decide +kernel
theorem dX10_xOf_7 : decode cX10_xOf 7 = .ok (.iload_n 1, 1) := by decide +kernel
theorem dX10_xOf_8 : decode cX10_xOf 8 = .ok (.invokevirtual 120, 3) := by decide +kernel
theorem dX10_xOf_11 : decode cX10_xOf 11 = .ok (.ifCond .ne 5, 3) := by decide +kernel
theorem dX10_xOf_14 : decode cX10_xOf 14 = .ok (.iconst (-1), 1) := by decide +kernel
theorem dX10_xOf_15 : decode cX10_xOf 15 = .ok (.ireturn, 1) := by decide +kernel
theorem dX10_xOf_16 : decode cX10_xOf 16 = .ok (.aload_n 0, 1) := by decide +kernel
theorem dX10_xOf_17 : decode cX10_xOf 17 = .ok (.iload_n 1, 1) := by decide +kernel
theorem dX10_xOf_18 : decode cX10_xOf 18 = .ok (.invokevirtual 239, 3) := by decide +kernel
theorem dX10_xOf_21 : decode cX10_xOf 21 = .ok (.bipush (-4), 2) := by decide +kernel
theorem dX10_xOf_23 : decode cX10_xOf 23 = .ok (.if_icmp .ne 8, 3) := by decide +kernel
theorem dX10_xOf_26 : decode cX10_xOf 26 = .ok (.bipush (-4), 2) := by decide +kernel
theorem dX10_xOf_28 : decode cX10_xOf 28 = .ok (.goto 18, 3) := by decide +kernel
theorem dX10_xOf_31 : decode cX10_xOf 31 = .ok (.aload_n 0, 1) := by decide +kernel
theorem dX10_xOf_32 : decode cX10_xOf 32 = .ok (.getfield 62, 3) := by decide +kernel
theorem dX10_xOf_35 : decode cX10_xOf 35 = .ok (.aload_n 0, 1) := by decide +kernel
theorem dX10_xOf_36 : decode cX10_xOf 36 = .ok (.getfield 53, 3) := by decide +kernel
theorem dX10_xOf_39 : decode cX10_xOf 39 = .ok (.iload_n 1, 1) := by decide +kernel
theorem dX10_xOf_40 : decode cX10_xOf 40 = .ok (.invokevirtual 243, 3) := by decide +kernel
theorem dX10_xOf_43 : decode cX10_xOf 43 = .ok (.invokevirtual 246, 3) := by decide +kernel
theorem dX10_xOf_46 : decode cX10_xOf 46 = .ok (.ireturn, 1) := by decide +kernel
theorem dX10_yOf_0 : decode cX10_yOf 0 = .ok (.aload_n 0, 1) := by decide +kernel
theorem dX10_yOf_1 : decode cX10_yOf 1 = .ok (.getfield 47, 3) := by decide +kernel
theorem dX10_yOf_4 : decode cX10_yOf 4 = .ok (.getfield 85, 3) := by decide +kernel
theorem dX10_yOf_7 : decode cX10_yOf 7 = .ok (.iload_n 1, 1) := by decide +kernel
theorem dX10_yOf_8 : decode cX10_yOf 8 = .ok (.invokevirtual 120, 3) := by decide +kernel
theorem dX10_yOf_11 : decode cX10_yOf 11 = .ok (.ifCond .ne 5, 3) := by decide +kernel
theorem dX10_yOf_14 : decode cX10_yOf 14 = .ok (.iconst (-1), 1) := by decide +kernel
theorem dX10_yOf_15 : decode cX10_yOf 15 = .ok (.ireturn, 1) := by decide +kernel
theorem dX10_yOf_16 : decode cX10_yOf 16 = .ok (.aload_n 0, 1) := by decide +kernel
theorem dX10_yOf_17 : decode cX10_yOf 17 = .ok (.iload_n 1, 1) := by decide +kernel
theorem dX10_yOf_18 : decode cX10_yOf 18 = .ok (.invokevirtual 239, 3) := by decide +kernel
theorem dX10_yOf_21 : decode cX10_yOf 21 = .ok (.bipush (-4), 2) := by decide +kernel
theorem dX10_yOf_23 : decode cX10_yOf 23 = .ok (.if_icmp .ne 8, 3) := by decide +kernel
theorem dX10_yOf_26 : decode cX10_yOf 26 = .ok (.bipush (-4), 2) := by decide +kernel
theorem dX10_yOf_28 : decode cX10_yOf 28 = .ok (.goto 18, 3) := by decide +kernel
theorem dX10_yOf_31 : decode cX10_yOf 31 = .ok (.aload_n 0, 1) := by decide +kernel
theorem dX10_yOf_32 : decode cX10_yOf 32 = .ok (.getfield 62, 3) := by decide +kernel
theorem dX10_yOf_35 : decode cX10_yOf 35 = .ok (.aload_n 0, 1) := by decide +kernel
theorem dX10_yOf_36 : decode cX10_yOf 36 = .ok (.getfield 53, 3) := by decide +kernel
theorem dX10_yOf_39 : decode cX10_yOf 39 = .ok (.iload_n 1, 1) := by decide +kernel
theorem dX10_yOf_40 : decode cX10_yOf 40 = .ok (.invokevirtual 243, 3) := by decide +kernel
theorem dX10_yOf_43 : decode cX10_yOf 43 = .ok (.invokevirtual 249, 3) := by decide +kernel
theorem dX10_yOf_46 : decode cX10_yOf 46 = .ok (.ireturn, 1) := by decide +kernel
theorem dX10_isTurned_0 : decode cX10_isTurned 0 = .ok (.aload_n 0, 1) := by decide +kernel
theorem dX10_isTurned_1 : decode cX10_isTurned 1 = .ok (.getfield 47, 3) := by decide +kernel
theorem dX10_isTurned_4 : decode cX10_isTurned 4 = .ok (.getfield 85, 3) := by decide +kernel
theorem dX10_isTurned_7 : decode cX10_isTurned 7 = .ok (.iload_n 1, 1) := by decide +kernel
theorem dX10_isTurned_8 : decode cX10_isTurned 8 = .ok (.invokevirtual 120, 3) := by decide +kernel
theorem dX10_isTurned_11 : decode cX10_isTurned 11 = .ok (.ifCond .ne 5, 3) := by decide +kernel
theorem dX10_isTurned_14 : decode cX10_isTurned 14 = .ok (.iconst (-1), 1) := by decide +kernel
theorem dX10_isTurned_15 : decode cX10_isTurned 15 = .ok (.ireturn, 1) := by decide +kernel
theorem dX10_isTurned_16 : decode cX10_isTurned 16 = .ok (.aload_n 0, 1) := by decide +kernel
theorem dX10_isTurned_17 : decode cX10_isTurned 17 = .ok (.iload_n 1, 1) := by decide +kernel
theorem dX10_isTurned_18 : decode cX10_isTurned 18 = .ok (.invokevirtual 239, 3) := by decide +kernel
theorem dX10_isTurned_21 : decode cX10_isTurned 21 = .ok (.bipush (-4), 2) := by decide +kernel
theorem dX10_isTurned_23 : decode cX10_isTurned 23 = .ok (.if_icmp .ne 8, 3) := by decide +kernel
theorem dX10_isTurned_26 : decode cX10_isTurned 26 = .ok (.bipush (-4), 2) := by decide +kernel
theorem dX10_isTurned_28 : decode cX10_isTurned 28 = .ok (.goto 25, 3) := by decide +kernel
theorem dX10_isTurned_31 : decode cX10_isTurned 31 = .ok (.aload_n 0, 1) := by decide +kernel
theorem dX10_isTurned_32 : decode cX10_isTurned 32 = .ok (.getfield 47, 3) := by decide +kernel
theorem dX10_isTurned_35 : decode cX10_isTurned 35 = .ok (.getfield 214, 3) := by decide +kernel
theorem dX10_isTurned_38 : decode cX10_isTurned 38 = .ok (.getfield 252, 3) := by decide +kernel
theorem dX10_isTurned_41 : decode cX10_isTurned 41 = .ok (.aload_n 0, 1) := by decide +kernel
theorem dX10_isTurned_42 : decode cX10_isTurned 42 = .ok (.getfield 53, 3) := by decide +kernel
theorem dX10_isTurned_45 : decode cX10_isTurned 45 = .ok (.iload_n 1, 1) := by decide +kernel
theorem dX10_isTurned_46 : decode cX10_isTurned 46 = .ok (.invokevirtual 243, 3) := by decide +kernel
theorem dX10_isTurned_49 : decode cX10_isTurned 49 = .ok (.baload, 1) := by decide +kernel
theorem dX10_isTurned_50 : decode cX10_isTurned 50 = .ok (.invokestatic 189, 3) := by decide +kernel
theorem dX10_isTurned_53 : decode cX10_isTurned 53 = .ok (.ireturn, 1) := by decide +kernel
theorem dX10_recordOf_0 : decode cX10_recordOf 0 = .ok (.aload_n 0, 1) := by decide +kernel
theorem dX10_recordOf_1 : decode cX10_recordOf 1 = .ok (.getfield 47, 3) := by decide +kernel
theorem dX10_recordOf_4 : decode cX10_recordOf 4 = .ok (.getfield 85, 3) := by decide +kernel
theorem dX10_recordOf_7 : decode cX10_recordOf 7 = .ok (.iload_n 1, 1) := by decide +kernel
theorem dX10_recordOf_8 : decode cX10_recordOf 8 = .ok (.invokevirtual 120, 3) := by decide +kernel
theorem dX10_recordOf_11 : decode cX10_recordOf 11 = .ok (.ifCond .ne 5, 3) := by decide +kernel
theorem dX10_recordOf_14 : decode cX10_recordOf 14 = .ok (.iconst (-1), 1) := by decide +kernel
theorem dX10_recordOf_15 : decode cX10_recordOf 15 = .ok (.ireturn, 1) := by decide +kernel
theorem dX10_recordOf_16 : decode cX10_recordOf 16 = .ok (.aload_n 0, 1) := by decide +kernel
theorem dX10_recordOf_17 : decode cX10_recordOf 17 = .ok (.iload_n 1, 1) := by decide +kernel
theorem dX10_recordOf_18 : decode cX10_recordOf 18 = .ok (.invokevirtual 239, 3) := by decide +kernel
theorem dX10_recordOf_21 : decode cX10_recordOf 21 = .ok (.bipush (-4), 2) := by decide +kernel
theorem dX10_recordOf_23 : decode cX10_recordOf 23 = .ok (.if_icmp .ne 6, 3) := by decide +kernel
theorem dX10_recordOf_26 : decode cX10_recordOf 26 = .ok (.bipush (-4), 2) := by decide +kernel
theorem dX10_recordOf_28 : decode cX10_recordOf 28 = .ok (.ireturn, 1) := by decide +kernel
theorem dX10_recordOf_29 : decode cX10_recordOf 29 = .ok (.aload_n 0, 1) := by decide +kernel
theorem dX10_recordOf_30 : decode cX10_recordOf 30 = .ok (.getfield 53, 3) := by decide +kernel
theorem dX10_recordOf_33 : decode cX10_recordOf 33 = .ok (.iload_n 1, 1) := by decide +kernel
theorem dX10_recordOf_34 : decode cX10_recordOf 34 = .ok (.invokevirtual 243, 3) := by decide +kernel
theorem dX10_recordOf_37 : decode cX10_recordOf 37 = .ok (.istore_n 2, 1) := by decide +kernel
theorem dX10_recordOf_38 : decode cX10_recordOf 38 = .ok (.aload_n 0, 1) := by decide +kernel
theorem dX10_recordOf_39 : decode cX10_recordOf 39 = .ok (.getfield 53, 3) := by decide +kernel
theorem dX10_recordOf_42 : decode cX10_recordOf 42 = .ok (.aload_n 0, 1) := by decide +kernel
theorem dX10_recordOf_43 : decode cX10_recordOf 43 = .ok (.getfield 47, 3) := by decide +kernel
theorem dX10_recordOf_46 : decode cX10_recordOf 46 = .ok (.getfield 85, 3) := by decide +kernel
theorem dX10_recordOf_49 : decode cX10_recordOf 49 = .ok (.iload_n 1, 1) := by decide +kernel
theorem dX10_recordOf_50 : decode cX10_recordOf 50 = .ok (.iload_n 2, 1) := by decide +kernel
theorem dX10_recordOf_51 : decode cX10_recordOf 51 = .ok (.aload_n 0, 1) := by decide +kernel
theorem dX10_recordOf_52 : decode cX10_recordOf 52 = .ok (.getfield 47, 3) := by decide +kernel
theorem dX10_recordOf_55 : decode cX10_recordOf 55 = .ok (.getfield 214, 3) := by decide +kernel
theorem dX10_recordOf_58 : decode cX10_recordOf 58 = .ok (.getfield 252, 3) := by decide +kernel
theorem dX10_recordOf_61 : decode cX10_recordOf 61 = .ok (.iload_n 2, 1) := by decide +kernel
theorem dX10_recordOf_62 : decode cX10_recordOf 62 = .ok (.baload, 1) := by decide +kernel
theorem dX10_recordOf_63 : decode cX10_recordOf 63 = .ok (.invokevirtual 255, 3) := by decide +kernel
theorem dX10_recordOf_66 : decode cX10_recordOf 66 = .ok (.ireturn, 1) := by decide +kernel
theorem dX10_pages_0 : decode cX10_pages 0 = .ok (.aload_n 0, 1) := by decide +kernel
theorem dX10_pages_1 : decode cX10_pages 1 = .ok (.getfield 47, 3) := by decide +kernel
theorem dX10_pages_4 : decode cX10_pages 4 = .ok (.getfield 214, 3) := by decide +kernel
theorem dX10_pages_7 : decode cX10_pages 7 = .ok (.getfield 259, 3) := by decide +kernel
theorem dX10_pages_10 : decode cX10_pages 10 = .ok (.ireturn, 1) := by decide +kernel
theorem dX10_pixel_0 : decode cX10_pixel 0 = .ok (.aload_n 0, 1) := by decide +kernel
theorem dX10_pixel_1 : decode cX10_pixel 1 = .ok (.iload_n 1, 1) := by decide +kernel
theorem dX10_pixel_2 : decode cX10_pixel 2 = .ok (.iload_n 2, 1) := by decide +kernel
theorem dX10_pixel_3 : decode cX10_pixel 3 = .ok (.iload_n 3, 1) := by decide +kernel
theorem dX10_pixel_4 : decode cX10_pixel 4 = .ok (.invokevirtual 262, 3) := by decide +kernel
theorem dX10_pixel_7 : decode cX10_pixel 7 = .ok (.ifCond .eq 16, 3) := by decide +kernel
theorem dX10_pixel_10 : decode cX10_pixel 10 = .ok (.aload_n 0, 1) := by decide +kernel
theorem dX10_pixel_11 : decode cX10_pixel 11 = .ok (.getfield 62, 3) := by decide +kernel
theorem dX10_pixel_14 : decode cX10_pixel 14 = .ok (.iload_n 1, 1) := by decide +kernel
theorem dX10_pixel_15 : decode cX10_pixel 15 = .ok (.iload_n 2, 1) := by decide +kernel
theorem dX10_pixel_16 : decode cX10_pixel 16 = .ok (.iload_n 3, 1) := by decide +kernel
theorem dX10_pixel_17 : decode cX10_pixel 17 = .ok (.invokevirtual 265, 3) := by decide +kernel
theorem dX10_pixel_20 : decode cX10_pixel 20 = .ok (.goto 4, 3) := by decide +kernel
theorem dX10_pixel_23 : decode cX10_pixel 23 = .ok (.iconst (-1), 1) := by decide +kernel
theorem dX10_pixel_24 : decode cX10_pixel 24 = .ok (.ireturn, 1) := by decide +kernel
theorem dX10_spriteAt_0 : decode cX10_spriteAt 0 = .ok (.aload_n 0, 1) := by decide +kernel
theorem dX10_spriteAt_1 : decode cX10_spriteAt 1 = .ok (.iload_n 1, 1) := by decide +kernel
theorem dX10_spriteAt_2 : decode cX10_spriteAt 2 = .ok (.iload_n 2, 1) := by decide +kernel
theorem dX10_spriteAt_3 : decode cX10_spriteAt 3 = .ok (.iload_n 3, 1) := by decide +kernel
theorem dX10_spriteAt_4 : decode cX10_spriteAt 4 = .ok (.invokevirtual 262, 3) := by decide +kernel
theorem dX10_spriteAt_7 : decode cX10_spriteAt 7 = .ok (.ifCond .eq 16, 3) := by decide +kernel
theorem dX10_spriteAt_10 : decode cX10_spriteAt 10 = .ok (.aload_n 0, 1) := by decide +kernel
theorem dX10_spriteAt_11 : decode cX10_spriteAt 11 = .ok (.getfield 62, 3) := by decide +kernel
theorem dX10_spriteAt_14 : decode cX10_spriteAt 14 = .ok (.iload_n 1, 1) := by decide +kernel
theorem dX10_spriteAt_15 : decode cX10_spriteAt 15 = .ok (.iload_n 2, 1) := by decide +kernel
theorem dX10_spriteAt_16 : decode cX10_spriteAt 16 = .ok (.iload_n 3, 1) := by decide +kernel
theorem dX10_spriteAt_17 : decode cX10_spriteAt 17 = .ok (.invokevirtual 268, 3) := by decide +kernel
theorem dX10_spriteAt_20 : decode cX10_spriteAt 20 = .ok (.goto 4, 3) := by decide +kernel
theorem dX10_spriteAt_23 : decode cX10_spriteAt 23 = .ok (.iconst (-1), 1) := by decide +kernel
theorem dX10_spriteAt_24 : decode cX10_spriteAt 24 = .ok (.ireturn, 1) := by decide +kernel
theorem dX10_usedWidth_0 : decode cX10_usedWidth 0 = .ok (.aload_n 0, 1) := by decide +kernel
theorem dX10_usedWidth_1 : decode cX10_usedWidth 1 = .ok (.iload_n 1, 1) := by decide +kernel
theorem dX10_usedWidth_2 : decode cX10_usedWidth 2 = .ok (.invokevirtual 271, 3) := by decide +kernel
theorem dX10_usedWidth_5 : decode cX10_usedWidth 5 = .ok (.ifCond .eq 14, 3) := by decide +kernel
theorem dX10_usedWidth_8 : decode cX10_usedWidth 8 = .ok (.aload_n 0, 1) := by decide +kernel
theorem dX10_usedWidth_9 : decode cX10_usedWidth 9 = .ok (.getfield 62, 3) := by decide +kernel
theorem dX10_usedWidth_12 : decode cX10_usedWidth 12 = .ok (.iload_n 1, 1) := by decide +kernel
theorem dX10_usedWidth_13 : decode cX10_usedWidth 13 = .ok (.invokevirtual 274, 3) := by decide +kernel
theorem dX10_usedWidth_16 : decode cX10_usedWidth 16 = .ok (.goto 4, 3) := by decide +kernel
theorem dX10_usedWidth_19 : decode cX10_usedWidth 19 = .ok (.iconst (-1), 1) := by decide +kernel
theorem dX10_usedWidth_20 : decode cX10_usedWidth 20 = .ok (.ireturn, 1) := by decide +kernel
theorem dX10_usedHeight_0 : decode cX10_usedHeight 0 = .ok (.aload_n 0, 1) := by decide +kernel
theorem dX10_usedHeight_1 : decode cX10_usedHeight 1 = .ok (.iload_n 1, 1) := by decide +kernel
theorem dX10_usedHeight_2 : decode cX10_usedHeight 2 = .ok (.invokevirtual 271, 3) := by decide +kernel
theorem dX10_usedHeight_5 : decode cX10_usedHeight 5 = .ok (.ifCond .eq 14, 3) := by decide +kernel
theorem dX10_usedHeight_8 : decode cX10_usedHeight 8 = .ok (.aload_n 0, 1) := by decide +kernel
theorem dX10_usedHeight_9 : decode cX10_usedHeight 9 = .ok (.getfield 62, 3) := by decide +kernel
theorem dX10_usedHeight_12 : decode cX10_usedHeight 12 = .ok (.iload_n 1, 1) := by decide +kernel
theorem dX10_usedHeight_13 : decode cX10_usedHeight 13 = .ok (.invokevirtual 277, 3) := by decide +kernel
theorem dX10_usedHeight_16 : decode cX10_usedHeight 16 = .ok (.goto 4, 3) := by decide +kernel
theorem dX10_usedHeight_19 : decode cX10_usedHeight 19 = .ok (.iconst (-1), 1) := by decide +kernel
theorem dX10_usedHeight_20 : decode cX10_usedHeight 20 = .ok (.ireturn, 1) := by decide +kernel
theorem dX10_freeRectangles_0 : decode cX10_freeRectangles 0 = .ok (.aload_n 0, 1) := by decide +kernel
theorem dX10_freeRectangles_1 : decode cX10_freeRectangles 1 = .ok (.iload_n 1, 1) := by decide +kernel
theorem dX10_freeRectangles_2 : decode cX10_freeRectangles 2 = .ok (.invokevirtual 271, 3) := by decide +kernel
theorem dX10_freeRectangles_5 : decode cX10_freeRectangles 5 = .ok (.ifCond .eq 18, 3) := by decide +kernel
theorem dX10_freeRectangles_8 : decode cX10_freeRectangles 8 = .ok (.aload_n 0, 1) := by decide +kernel
theorem dX10_freeRectangles_9 : decode cX10_freeRectangles 9 = .ok (.getfield 62, 3) := by decide +kernel
theorem dX10_freeRectangles_12 : decode cX10_freeRectangles 12 = .ok (.getfield 280, 3) := by decide +kernel
theorem dX10_freeRectangles_15 : decode cX10_freeRectangles 15 = .ok (.getfield 284, 3) := by decide +kernel
theorem dX10_freeRectangles_18 : decode cX10_freeRectangles 18 = .ok (.iload_n 1, 1) := by decide +kernel
theorem dX10_freeRectangles_19 : decode cX10_freeRectangles 19 = .ok (.iaload, 1) := by decide +kernel
theorem dX10_freeRectangles_20 : decode cX10_freeRectangles 20 = .ok (.goto 4, 3) := by decide +kernel
theorem dX10_freeRectangles_23 : decode cX10_freeRectangles 23 = .ok (.iconst (-1), 1) := by decide +kernel
theorem dX10_freeRectangles_24 : decode cX10_freeRectangles 24 = .ok (.ireturn, 1) := by decide +kernel
theorem dX10_freeX_0 : decode cX10_freeX 0 = .ok (.aload_n 0, 1) := by decide +kernel
theorem dX10_freeX_1 : decode cX10_freeX 1 = .ok (.iload_n 1, 1) := by decide +kernel
theorem dX10_freeX_2 : decode cX10_freeX 2 = .ok (.iload_n 2, 1) := by decide +kernel
theorem dX10_freeX_3 : decode cX10_freeX 3 = .ok (.invokevirtual 289, 3) := by decide +kernel
theorem dX10_freeX_6 : decode cX10_freeX 6 = .ok (.ifCond .eq 21, 3) := by decide +kernel
theorem dX10_freeX_9 : decode cX10_freeX 9 = .ok (.aload_n 0, 1) := by decide +kernel
theorem dX10_freeX_10 : decode cX10_freeX 10 = .ok (.getfield 62, 3) := by decide +kernel
theorem dX10_freeX_13 : decode cX10_freeX 13 = .ok (.getfield 280, 3) := by decide +kernel
theorem dX10_freeX_16 : decode cX10_freeX 16 = .ok (.iload_n 1, 1) := by decide +kernel
theorem dX10_freeX_17 : decode cX10_freeX 17 = .ok (.iload_n 2, 1) := by decide +kernel
theorem dX10_freeX_18 : decode cX10_freeX 18 = .ok (.invokevirtual 293, 3) := by decide +kernel
theorem dX10_freeX_21 : decode cX10_freeX 21 = .ok (.invokestatic 297, 3) := by decide +kernel
theorem dX10_freeX_24 : decode cX10_freeX 24 = .ok (.goto 4, 3) := by decide +kernel
theorem dX10_freeX_27 : decode cX10_freeX 27 = .ok (.iconst (-1), 1) := by decide +kernel
theorem dX10_freeX_28 : decode cX10_freeX 28 = .ok (.ireturn, 1) := by decide +kernel
theorem dX10_freeY_0 : decode cX10_freeY 0 = .ok (.aload_n 0, 1) := by decide +kernel
theorem dX10_freeY_1 : decode cX10_freeY 1 = .ok (.iload_n 1, 1) := by decide +kernel
theorem dX10_freeY_2 : decode cX10_freeY 2 = .ok (.iload_n 2, 1) := by decide +kernel
theorem dX10_freeY_3 : decode cX10_freeY 3 = .ok (.invokevirtual 289, 3) := by decide +kernel
theorem dX10_freeY_6 : decode cX10_freeY 6 = .ok (.ifCond .eq 21, 3) := by decide +kernel
theorem dX10_freeY_9 : decode cX10_freeY 9 = .ok (.aload_n 0, 1) := by decide +kernel
theorem dX10_freeY_10 : decode cX10_freeY 10 = .ok (.getfield 62, 3) := by decide +kernel
theorem dX10_freeY_13 : decode cX10_freeY 13 = .ok (.getfield 280, 3) := by decide +kernel
theorem dX10_freeY_16 : decode cX10_freeY 16 = .ok (.iload_n 1, 1) := by decide +kernel
theorem dX10_freeY_17 : decode cX10_freeY 17 = .ok (.iload_n 2, 1) := by decide +kernel
theorem dX10_freeY_18 : decode cX10_freeY 18 = .ok (.invokevirtual 293, 3) := by decide +kernel
theorem dX10_freeY_21 : decode cX10_freeY 21 = .ok (.invokestatic 300, 3) := by decide +kernel
theorem dX10_freeY_24 : decode cX10_freeY 24 = .ok (.goto 4, 3) := by decide +kernel
theorem dX10_freeY_27 : decode cX10_freeY 27 = .ok (.iconst (-1), 1) := by decide +kernel
theorem dX10_freeY_28 : decode cX10_freeY 28 = .ok (.ireturn, 1) := by decide +kernel
theorem dX10_freeWidth_0 : decode cX10_freeWidth 0 = .ok (.aload_n 0, 1) := by decide +kernel
theorem dX10_freeWidth_1 : decode cX10_freeWidth 1 = .ok (.iload_n 1, 1) := by decide +kernel
theorem dX10_freeWidth_2 : decode cX10_freeWidth 2 = .ok (.iload_n 2, 1) := by decide +kernel
theorem dX10_freeWidth_3 : decode cX10_freeWidth 3 = .ok (.invokevirtual 289, 3) := by decide +kernel
theorem dX10_freeWidth_6 : decode cX10_freeWidth 6 = .ok (.ifCond .eq 21, 3) := by decide +kernel
theorem dX10_freeWidth_9 : decode cX10_freeWidth 9 = .ok (.aload_n 0, 1) := by decide +kernel
theorem dX10_freeWidth_10 : decode cX10_freeWidth 10 = .ok (.getfield 62, 3) := by decide +kernel
theorem dX10_freeWidth_13 : decode cX10_freeWidth 13 = .ok (.getfield 280, 3) := by decide +kernel
theorem dX10_freeWidth_16 : decode cX10_freeWidth 16 = .ok (.iload_n 1, 1) := by decide +kernel
theorem dX10_freeWidth_17 : decode cX10_freeWidth 17 = .ok (.iload_n 2, 1) := by decide +kernel
theorem dX10_freeWidth_18 : decode cX10_freeWidth 18 = .ok (.invokevirtual 293, 3) := by decide +kernel
theorem dX10_freeWidth_21 : decode cX10_freeWidth 21 = .ok (.invokestatic 303, 3) := by decide +kernel
theorem dX10_freeWidth_24 : decode cX10_freeWidth 24 = .ok (.goto 4, 3) := by decide +kernel
theorem dX10_freeWidth_27 : decode cX10_freeWidth 27 = .ok (.iconst (-1), 1) := by decide +kernel
theorem dX10_freeWidth_28 : decode cX10_freeWidth 28 = .ok (.ireturn, 1) := by decide +kernel
theorem dX10_freeHeight_0 : decode cX10_freeHeight 0 = .ok (.aload_n 0, 1) := by decide +kernel
theorem dX10_freeHeight_1 : decode cX10_freeHeight 1 = .ok (.iload_n 1, 1) := by decide +kernel
theorem dX10_freeHeight_2 : decode cX10_freeHeight 2 = .ok (.iload_n 2, 1) := by decide +kernel
theorem dX10_freeHeight_3 : decode cX10_freeHeight 3 = .ok (.invokevirtual 289, 3) := by decide +kernel
theorem dX10_freeHeight_6 : decode cX10_freeHeight 6 = .ok (.ifCond .eq 21, 3) := by decide +kernel
theorem dX10_freeHeight_9 : decode cX10_freeHeight 9 = .ok (.aload_n 0, 1) := by decide +kernel
theorem dX10_freeHeight_10 : decode cX10_freeHeight 10 = .ok (.getfield 62, 3) := by decide +kernel
theorem dX10_freeHeight_13 : decode cX10_freeHeight 13 = .ok (.getfield 280, 3) := by decide +kernel
theorem dX10_freeHeight_16 : decode cX10_freeHeight 16 = .ok (.iload_n 1, 1) := by decide +kernel
theorem dX10_freeHeight_17 : decode cX10_freeHeight 17 = .ok (.iload_n 2, 1) := by decide +kernel
theorem dX10_freeHeight_18 : decode cX10_freeHeight 18 = .ok (.invokevirtual 293, 3) := by decide +kernel
theorem dX10_freeHeight_21 : decode cX10_freeHeight 21 = .ok (.invokestatic 306, 3) := by decide +kernel
theorem dX10_freeHeight_24 : decode cX10_freeHeight 24 = .ok (.goto 4, 3) := by decide +kernel
theorem dX10_freeHeight_27 : decode cX10_freeHeight 27 = .ok (.iconst (-1), 1) := by decide +kernel
theorem dX10_freeHeight_28 : decode cX10_freeHeight 28 = .ok (.ireturn, 1) := by decide +kernel
theorem dX10_fill_0 : decode cX10_fill 0 = .ok (.aload_n 0, 1) := by decide +kernel
theorem dX10_fill_1 : decode cX10_fill 1 = .ok (.iload_n 1, 1) := by decide +kernel
theorem dX10_fill_2 : decode cX10_fill 2 = .ok (.invokevirtual 271, 3) := by decide +kernel
theorem dX10_fill_5 : decode cX10_fill 5 = .ok (.ifCond .ne 5, 3) := by decide +kernel
theorem dX10_fill_8 : decode cX10_fill 8 = .ok (.iconst (-1), 1) := by decide +kernel
theorem dX10_fill_9 : decode cX10_fill 9 = .ok (.ireturn, 1) := by decide +kernel
theorem dX10_fill_10 : decode cX10_fill 10 = .ok (.aload_n 0, 1) := by decide +kernel
theorem dX10_fill_11 : decode cX10_fill 11 = .ok (.getfield 62, 3) := by decide +kernel
theorem dX10_fill_14 : decode cX10_fill 14 = .ok (.iload_n 1, 1) := by decide +kernel
theorem dX10_fill_15 : decode cX10_fill 15 = .ok (.invokevirtual 309, 3) := by decide +kernel
theorem dX10_fill_18 : decode cX10_fill 18 = .ok (.istore_n 3, 1) := by decide +kernel
theorem dX10_fill_19 : decode cX10_fill 19 = .ok (.aload_n 0, 1) := by decide +kernel
theorem dX10_fill_20 : decode cX10_fill 20 = .ok (.getfield 47, 3) := by decide +kernel
theorem dX10_fill_23 : decode cX10_fill 23 = .ok (.getfield 105, 3) := by decide +kernel
theorem dX10_fill_26 : decode cX10_fill 26 = .ok (.getfield 165, 3) := by decide +kernel
theorem dX10_fill_29 : decode cX10_fill 29 = .ok (.aload_n 0, 1) := by decide +kernel
theorem dX10_fill_30 : decode cX10_fill 30 = .ok (.getfield 47, 3) := by decide +kernel
theorem dX10_fill_33 : decode cX10_fill 33 = .ok (.getfield 105, 3) := by decide +kernel
theorem dX10_fill_36 : decode cX10_fill 36 = .ok (.getfield 170, 3) := by decide +kernel
theorem dX10_fill_39 : decode cX10_fill 39 = .ok (.imul, 1) := by decide +kernel
theorem dX10_fill_40 : decode cX10_fill 40 = .ok (.istore 4, 2) := by decide +kernel
theorem dX10_fill_42 : decode cX10_fill 42 = .ok (.iload 4, 2) := by decide +kernel
theorem dX10_fill_44 : decode cX10_fill 44 = .ok (.iload_n 3, 1) := by decide +kernel
theorem dX10_fill_45 : decode cX10_fill 45 = .ok (.invokestatic 312, 3) := by decide +kernel
theorem dX10_fill_48 : decode cX10_fill 48 = .ok (.istore 5, 2) := by decide +kernel
theorem dX10_fill_50 : decode cX10_fill 50 = .ok (.iload_n 2, 1) := by decide +kernel
theorem dX10_fill_51 : decode cX10_fill 51 = .ok (.ifCond .eq 8, 3) := by decide +kernel
theorem dX10_fill_54 : decode cX10_fill 54 = .ok (.iload 4, 2) := by decide +kernel
theorem dX10_fill_56 : decode cX10_fill 56 = .ok (.goto 4, 3) := by decide +kernel
theorem dX10_fill_59 : decode cX10_fill 59 = .ok (.iload_n 3, 1) := by decide +kernel
theorem dX10_fill_60 : decode cX10_fill 60 = .ok (.iload 5, 2) := by decide +kernel
theorem dX10_fill_62 : decode cX10_fill 62 = .ok (.idiv, 1) := by decide +kernel
theorem dX10_fill_63 : decode cX10_fill 63 = .ok (.ireturn, 1) := by decide +kernel
theorem dX10_unplaced_0 : decode cX10_unplaced 0 = .ok (.iconst 0, 1) := by decide +kernel
theorem dX10_unplaced_1 : decode cX10_unplaced 1 = .ok (.istore_n 1, 1) := by decide +kernel
theorem dX10_unplaced_2 : decode cX10_unplaced 2 = .ok (.iconst 0, 1) := by decide +kernel
theorem dX10_unplaced_3 : decode cX10_unplaced 3 = .ok (.istore_n 2, 1) := by decide +kernel
theorem dX10_unplaced_4 : decode cX10_unplaced 4 = .ok (.iload_n 2, 1) := by decide +kernel
theorem dX10_unplaced_5 : decode cX10_unplaced 5 = .ok (.aload_n 0, 1) := by decide +kernel
theorem dX10_unplaced_6 : decode cX10_unplaced 6 = .ok (.getfield 47, 3) := by decide +kernel
theorem dX10_unplaced_9 : decode cX10_unplaced 9 = .ok (.getfield 85, 3) := by decide +kernel
theorem dX10_unplaced_12 : decode cX10_unplaced 12 = .ok (.getfield 89, 3) := by decide +kernel
theorem dX10_unplaced_15 : decode cX10_unplaced 15 = .ok (.if_icmp .ge 40, 3) := by decide +kernel
theorem dX10_unplaced_18 : decode cX10_unplaced 18 = .ok (.aload_n 0, 1) := by decide +kernel
theorem dX10_unplaced_19 : decode cX10_unplaced 19 = .ok (.getfield 53, 3) := by decide +kernel
theorem dX10_unplaced_22 : decode cX10_unplaced 22 = .ok (.iload_n 2, 1) := by decide +kernel
theorem dX10_unplaced_23 : decode cX10_unplaced 23 = .ok (.invokevirtual 211, 3) := by decide +kernel
theorem dX10_unplaced_26 : decode cX10_unplaced 26 = .ok (.ifCond .eq 23, 3) := by decide +kernel
theorem dX10_unplaced_29 : decode cX10_unplaced 29 = .ok (.aload_n 0, 1) := by decide +kernel
theorem dX10_unplaced_30 : decode cX10_unplaced 30 = .ok (.getfield 47, 3) := by decide +kernel
theorem dX10_unplaced_33 : decode cX10_unplaced 33 = .ok (.getfield 214, 3) := by decide +kernel
theorem dX10_unplaced_36 : decode cX10_unplaced 36 = .ok (.getfield 218, 3) := by decide +kernel
theorem dX10_unplaced_39 : decode cX10_unplaced 39 = .ok (.iload_n 2, 1) := by decide +kernel
theorem dX10_unplaced_40 : decode cX10_unplaced 40 = .ok (.iaload, 1) := by decide +kernel
theorem dX10_unplaced_41 : decode cX10_unplaced 41 = .ok (.bipush (-4), 2) := by decide +kernel
theorem dX10_unplaced_43 : decode cX10_unplaced 43 = .ok (.if_icmp .ne 6, 3) := by decide +kernel
theorem dX10_unplaced_46 : decode cX10_unplaced 46 = .ok (.iinc 1 1, 3) := by decide +kernel
theorem dX10_unplaced_49 : decode cX10_unplaced 49 = .ok (.iinc 2 1, 3) := by decide +kernel
theorem dX10_unplaced_52 : decode cX10_unplaced 52 = .ok (.goto (-48), 3) := by decide +kernel
theorem dX10_unplaced_55 : decode cX10_unplaced 55 = .ok (.iload_n 1, 1) := by decide +kernel
theorem dX10_unplaced_56 : decode cX10_unplaced 56 = .ok (.ireturn, 1) := by decide +kernel
theorem dX10_pageBound_0 : decode cX10_pageBound 0 = .ok (.aload_n 0, 1) := by decide +kernel
theorem dX10_pageBound_1 : decode cX10_pageBound 1 = .ok (.getfield 62, 3) := by decide +kernel
theorem dX10_pageBound_4 : decode cX10_pageBound 4 = .ok (.invokevirtual 315, 3) := by decide +kernel
theorem dX10_pageBound_7 : decode cX10_pageBound 7 = .ok (.istore_n 1, 1) := by decide +kernel
theorem dX10_pageBound_8 : decode cX10_pageBound 8 = .ok (.iload_n 1, 1) := by decide +kernel
theorem dX10_pageBound_9 : decode cX10_pageBound 9 = .ok (.ifCond .ne 5, 3) := by decide +kernel
theorem dX10_pageBound_12 : decode cX10_pageBound 12 = .ok (.iconst 0, 1) := by decide +kernel
theorem dX10_pageBound_13 : decode cX10_pageBound 13 = .ok (.ireturn, 1) := by decide +kernel
theorem dX10_pageBound_14 : decode cX10_pageBound 14 = .ok (.aload_n 0, 1) := by decide +kernel
theorem dX10_pageBound_15 : decode cX10_pageBound 15 = .ok (.getfield 47, 3) := by decide +kernel
theorem dX10_pageBound_18 : decode cX10_pageBound 18 = .ok (.getfield 105, 3) := by decide +kernel
theorem dX10_pageBound_21 : decode cX10_pageBound 21 = .ok (.invokevirtual 318, 3) := by decide +kernel
theorem dX10_pageBound_24 : decode cX10_pageBound 24 = .ok (.istore_n 2, 1) := by decide +kernel
theorem dX10_pageBound_25 : decode cX10_pageBound 25 = .ok (.iload_n 2, 1) := by decide +kernel
theorem dX10_pageBound_26 : decode cX10_pageBound 26 = .ok (.ifCond .ne 8, 3) := by decide +kernel
theorem dX10_pageBound_29 : decode cX10_pageBound 29 = .ok (.bipush (-4), 2) := by decide +kernel
theorem dX10_pageBound_31 : decode cX10_pageBound 31 = .ok (.goto 10, 3) := by decide +kernel
theorem dX10_pageBound_34 : decode cX10_pageBound 34 = .ok (.iload_n 1, 1) := by decide +kernel
theorem dX10_pageBound_35 : decode cX10_pageBound 35 = .ok (.iload_n 2, 1) := by decide +kernel
theorem dX10_pageBound_36 : decode cX10_pageBound 36 = .ok (.iadd, 1) := by decide +kernel
theorem dX10_pageBound_37 : decode cX10_pageBound 37 = .ok (.iconst 1, 1) := by decide +kernel
theorem dX10_pageBound_38 : decode cX10_pageBound 38 = .ok (.isub, 1) := by decide +kernel
theorem dX10_pageBound_39 : decode cX10_pageBound 39 = .ok (.iload_n 2, 1) := by decide +kernel
theorem dX10_pageBound_40 : decode cX10_pageBound 40 = .ok (.idiv, 1) := by decide +kernel
theorem dX10_pageBound_41 : decode cX10_pageBound 41 = .ok (.ireturn, 1) := by decide +kernel
theorem dX10_bestMethod_0 : decode cX10_bestMethod 0 = .ok (.aload_n 0, 1) := by decide +kernel
theorem dX10_bestMethod_1 : decode cX10_bestMethod 1 = .ok (.getfield 50, 3) := by decide +kernel
theorem dX10_bestMethod_4 : decode cX10_bestMethod 4 = .ok (.aload_n 0, 1) := by decide +kernel
theorem dX10_bestMethod_5 : decode cX10_bestMethod 5 = .ok (.getfield 47, 3) := by decide +kernel
theorem dX10_bestMethod_8 : decode cX10_bestMethod 8 = .ok (.invokevirtual 321, 3) := by decide +kernel
theorem dX10_bestMethod_11 : decode cX10_bestMethod 11 = .ok (.iconst 0, 1) := by decide +kernel
theorem dX10_bestMethod_12 : decode cX10_bestMethod 12 = .ok (.istore_n 1, 1) := by decide +kernel
theorem dX10_bestMethod_13 : decode cX10_bestMethod 13 = .ok (.ldc2_w 324, 3) := by decide +kernel
theorem dX10_bestMethod_16 : decode cX10_bestMethod 16 = .ok (.lstore_n 2, 1) := by decide +kernel
theorem dX10_bestMethod_17 : decode cX10_bestMethod 17 = .ok (.iconst 0, 1) := by decide +kernel
theorem dX10_bestMethod_18 : decode cX10_bestMethod 18 = .ok (.istore 4, 2) := by decide +kernel
theorem dX10_bestMethod_20 : decode cX10_bestMethod 20 = .ok (.iload 4, 2) := by decide +kernel
theorem dX10_bestMethod_22 : decode cX10_bestMethod 22 = .ok (.iconst 3, 1) := by decide +kernel
theorem dX10_bestMethod_23 : decode cX10_bestMethod 23 = .ok (.if_icmp .gt 80, 3) := by decide +kernel
theorem dX10_bestMethod_26 : decode cX10_bestMethod 26 = .ok (.iconst 0, 1) := by decide +kernel
theorem dX10_bestMethod_27 : decode cX10_bestMethod 27 = .ok (.istore 5, 2) := by decide +kernel
theorem dX10_bestMethod_29 : decode cX10_bestMethod 29 = .ok (.iload 5, 2) := by decide +kernel
theorem dX10_bestMethod_31 : decode cX10_bestMethod 31 = .ok (.iconst 3, 1) := by decide +kernel
theorem dX10_bestMethod_32 : decode cX10_bestMethod 32 = .ok (.if_icmp .gt 65, 3) := by decide +kernel
theorem dX10_bestMethod_35 : decode cX10_bestMethod 35 = .ok (.aload_n 0, 1) := by decide +kernel
theorem dX10_bestMethod_36 : decode cX10_bestMethod 36 = .ok (.getfield 50, 3) := by decide +kernel
theorem dX10_bestMethod_39 : decode cX10_bestMethod 39 = .ok (.getfield 105, 3) := by decide +kernel
theorem dX10_bestMethod_42 : decode cX10_bestMethod 42 = .ok (.iload 4, 2) := by decide +kernel
theorem dX10_bestMethod_44 : decode cX10_bestMethod 44 = .ok (.putfield 202, 3) := by decide +kernel
theorem dX10_bestMethod_47 : decode cX10_bestMethod 47 = .ok (.aload_n 0, 1) := by decide +kernel
theorem dX10_bestMethod_48 : decode cX10_bestMethod 48 = .ok (.getfield 50, 3) := by decide +kernel
theorem dX10_bestMethod_51 : decode cX10_bestMethod 51 = .ok (.getfield 105, 3) := by decide +kernel
theorem dX10_bestMethod_54 : decode cX10_bestMethod 54 = .ok (.iload 5, 2) := by decide +kernel
theorem dX10_bestMethod_56 : decode cX10_bestMethod 56 = .ok (.putfield 205, 3) := by decide +kernel
theorem dX10_bestMethod_59 : decode cX10_bestMethod 59 = .ok (.aload_n 0, 1) := by decide +kernel
theorem dX10_bestMethod_60 : decode cX10_bestMethod 60 = .ok (.aload_n 0, 1) := by decide +kernel
theorem dX10_bestMethod_61 : decode cX10_bestMethod 61 = .ok (.getfield 66, 3) := by decide +kernel
theorem dX10_bestMethod_64 : decode cX10_bestMethod 64 = .ok (.invokevirtual 208, 3) := by decide +kernel
theorem dX10_bestMethod_67 : decode cX10_bestMethod 67 = .ok (.invokevirtual 326, 3) := by decide +kernel
theorem dX10_bestMethod_70 : decode cX10_bestMethod 70 = .ok (.lstore 6, 2) := by decide +kernel
theorem dX10_bestMethod_72 : decode cX10_bestMethod 72 = .ok (.lload 6, 2) := by decide +kernel
theorem dX10_bestMethod_74 : decode cX10_bestMethod 74 = .ok (.lload_n 2, 1) := by decide +kernel
theorem dX10_bestMethod_75 : decode cX10_bestMethod 75 = .ok (.lcmp, 1) := by decide +kernel
theorem dX10_bestMethod_76 : decode cX10_bestMethod 76 = .ok (.ifCond .ge 15, 3) := by decide +kernel
theorem dX10_bestMethod_79 : decode cX10_bestMethod 79 = .ok (.lload 6, 2) := by decide +kernel
theorem dX10_bestMethod_81 : decode cX10_bestMethod 81 = .ok (.lstore_n 2, 1) := by decide +kernel
theorem dX10_bestMethod_82 : decode cX10_bestMethod 82 = .ok (.bipush 10, 2) := by decide +kernel
theorem dX10_bestMethod_84 : decode cX10_bestMethod 84 = .ok (.iload 4, 2) := by decide +kernel
theorem dX10_bestMethod_86 : decode cX10_bestMethod 86 = .ok (.imul, 1) := by decide +kernel
theorem dX10_bestMethod_87 : decode cX10_bestMethod 87 = .ok (.iload 5, 2) := by decide +kernel
theorem dX10_bestMethod_89 : decode cX10_bestMethod 89 = .ok (.iadd, 1) := by decide +kernel
theorem dX10_bestMethod_90 : decode cX10_bestMethod 90 = .ok (.istore_n 1, 1) := by decide +kernel
theorem dX10_bestMethod_91 : decode cX10_bestMethod 91 = .ok (.iinc 5 1, 3) := by decide +kernel
theorem dX10_bestMethod_94 : decode cX10_bestMethod 94 = .ok (.goto (-65), 3) := by decide +kernel
theorem dX10_bestMethod_97 : decode cX10_bestMethod 97 = .ok (.iinc 4 1, 3) := by decide +kernel
theorem dX10_bestMethod_100 : decode cX10_bestMethod 100 = .ok (.goto (-80), 3) := by decide +kernel
theorem dX10_bestMethod_103 : decode cX10_bestMethod 103 = .ok (.iload_n 1, 1) := by decide +kernel
theorem dX10_bestMethod_104 : decode cX10_bestMethod 104 = .ok (.ireturn, 1) := by decide +kernel
theorem dX10_smallestPage_0 : decode cX10_smallestPage 0 = .ok (.aload_n 0, 1) := by decide +kernel
theorem dX10_smallestPage_1 : decode cX10_smallestPage 1 = .ok (.getfield 50, 3) := by decide +kernel
theorem dX10_smallestPage_4 : decode cX10_smallestPage 4 = .ok (.aload_n 0, 1) := by decide +kernel
theorem dX10_smallestPage_5 : decode cX10_smallestPage 5 = .ok (.getfield 47, 3) := by decide +kernel
theorem dX10_smallestPage_8 : decode cX10_smallestPage 8 = .ok (.invokevirtual 321, 3) := by decide +kernel
theorem dX10_smallestPage_11 : decode cX10_smallestPage 11 = .ok (.aload_n 0, 1) := by decide +kernel
theorem dX10_smallestPage_12 : decode cX10_smallestPage 12 = .ok (.getfield 50, 3) := by decide +kernel
theorem dX10_smallestPage_15 : decode cX10_smallestPage 15 = .ok (.getfield 105, 3) := by decide +kernel
theorem dX10_smallestPage_18 : decode cX10_smallestPage 18 = .ok (.iconst 1, 1) := by decide +kernel
theorem dX10_smallestPage_19 : decode cX10_smallestPage 19 = .ok (.putfield 173, 3) := by decide +kernel
theorem dX10_smallestPage_22 : decode cX10_smallestPage 22 = .ok (.aload_n 0, 1) := by decide +kernel
theorem dX10_smallestPage_23 : decode cX10_smallestPage 23 = .ok (.getfield 50, 3) := by decide +kernel
theorem dX10_smallestPage_26 : decode cX10_smallestPage 26 = .ok (.getfield 105, 3) := by decide +kernel
theorem dX10_smallestPage_29 : decode cX10_smallestPage 29 = .ok (.iconst 0, 1) := by decide +kernel
theorem dX10_smallestPage_30 : decode cX10_smallestPage 30 = .ok (.putfield 199, 3) := by decide +kernel
theorem dX10_smallestPage_33 : decode cX10_smallestPage 33 = .ok (.iconst 4, 1) := by decide +kernel
theorem dX10_smallestPage_34 : decode cX10_smallestPage 34 = .ok (.istore_n 1, 1) := by decide +kernel
theorem dX10_smallestPage_35 : decode cX10_smallestPage 35 = .ok (.iload_n 1, 1) := by decide +kernel
theorem dX10_smallestPage_36 : decode cX10_smallestPage 36 = .ok (.bipush 32, 2) := by decide +kernel
theorem dX10_smallestPage_38 : decode cX10_smallestPage 38 = .ok (.if_icmp .gt 43, 3) := by decide +kernel
theorem dX10_smallestPage_41 : decode cX10_smallestPage 41 = .ok (.aload_n 0, 1) := by decide +kernel
theorem dX10_smallestPage_42 : decode cX10_smallestPage 42 = .ok (.getfield 50, 3) := by decide +kernel
theorem dX10_smallestPage_45 : decode cX10_smallestPage 45 = .ok (.getfield 105, 3) := by decide +kernel
theorem dX10_smallestPage_48 : decode cX10_smallestPage 48 = .ok (.iload_n 1, 1) := by decide +kernel
theorem dX10_smallestPage_49 : decode cX10_smallestPage 49 = .ok (.putfield 165, 3) := by decide +kernel
theorem dX10_smallestPage_52 : decode cX10_smallestPage 52 = .ok (.aload_n 0, 1) := by decide +kernel
theorem dX10_smallestPage_53 : decode cX10_smallestPage 53 = .ok (.getfield 50, 3) := by decide +kernel
theorem dX10_smallestPage_56 : decode cX10_smallestPage 56 = .ok (.getfield 105, 3) := by decide +kernel
theorem dX10_smallestPage_59 : decode cX10_smallestPage 59 = .ok (.iload_n 1, 1) := by decide +kernel
theorem dX10_smallestPage_60 : decode cX10_smallestPage 60 = .ok (.putfield 170, 3) := by decide +kernel
theorem dX10_smallestPage_63 : decode cX10_smallestPage 63 = .ok (.aload_n 0, 1) := by decide +kernel
theorem dX10_smallestPage_64 : decode cX10_smallestPage 64 = .ok (.getfield 66, 3) := by decide +kernel
theorem dX10_smallestPage_67 : decode cX10_smallestPage 67 = .ok (.invokevirtual 208, 3) := by decide +kernel
theorem dX10_smallestPage_70 : decode cX10_smallestPage 70 = .ok (.ifCond .ne 5, 3) := by decide +kernel
theorem dX10_smallestPage_73 : decode cX10_smallestPage 73 = .ok (.iload_n 1, 1) := by decide +kernel
theorem dX10_smallestPage_74 : decode cX10_smallestPage 74 = .ok (.ireturn, 1) := by decide +kernel
theorem dX10_smallestPage_75 : decode cX10_smallestPage 75 = .ok (.iinc 1 1, 3) := by decide +kernel
theorem dX10_smallestPage_78 : decode cX10_smallestPage 78 = .ok (.goto (-43), 3) := by decide +kernel
theorem dX10_smallestPage_81 : decode cX10_smallestPage 81 = .ok (.bipush (-4), 2) := by decide +kernel
theorem dX10_smallestPage_83 : decode cX10_smallestPage 83 = .ok (.ireturn, 1) := by decide +kernel
theorem dX10_print_0 : decode cX10_print 0 = .ok (.aload_n 0, 1) := by decide +kernel
theorem dX10_print_1 : decode cX10_print 1 = .ok (.getfield 47, 3) := by decide +kernel
theorem dX10_print_4 : decode cX10_print 4 = .ok (.getfield 85, 3) := by decide +kernel
theorem dX10_print_7 : decode cX10_print 7 = .ok (.iload_n 1, 1) := by decide +kernel
theorem dX10_print_8 : decode cX10_print 8 = .ok (.invokevirtual 120, 3) := by decide +kernel
theorem dX10_print_11 : decode cX10_print 11 = .ok (.ifCond .ne 5, 3) := by decide +kernel
theorem dX10_print_14 : decode cX10_print 14 = .ok (.iconst (-1), 1) := by decide +kernel
theorem dX10_print_15 : decode cX10_print 15 = .ok (.ireturn, 1) := by decide +kernel
theorem dX10_print_16 : decode cX10_print 16 = .ok (.aload_n 0, 1) := by decide +kernel
theorem dX10_print_17 : decode cX10_print 17 = .ok (.getfield 19, 3) := by decide +kernel
theorem dX10_print_20 : decode cX10_print 20 = .ok (.iconst 0, 1) := by decide +kernel
theorem dX10_print_21 : decode cX10_print 21 = .ok (.invokevirtual 330, 3) := by decide +kernel
theorem dX10_print_24 : decode cX10_print 24 = .ok (.aload_n 0, 1) := by decide +kernel
theorem dX10_print_25 : decode cX10_print 25 = .ok (.getfield 19, 3) := by decide +kernel
theorem dX10_print_28 : decode cX10_print 28 = .ok (.iload_n 1, 1) := by decide +kernel
theorem dX10_print_29 : decode cX10_print 29 = .ok (.invokevirtual 333, 3) := by decide +kernel
theorem dX10_print_32 : decode cX10_print 32 = .ok (.pop, 1) := by decide +kernel
theorem dX10_print_33 : decode cX10_print 33 = .ok (.aload_n 0, 1) := by decide +kernel
theorem dX10_print_34 : decode cX10_print 34 = .ok (.getfield 19, 3) := by decide +kernel
theorem dX10_print_37 : decode cX10_print 37 = .ok (.bipush 58, 2) := by decide +kernel
theorem dX10_print_39 : decode cX10_print 39 = .ok (.invokevirtual 337, 3) := by decide +kernel
theorem dX10_print_42 : decode cX10_print 42 = .ok (.pop, 1) := by decide +kernel
theorem dX10_print_43 : decode cX10_print 43 = .ok (.aload_n 0, 1) := by decide +kernel
theorem dX10_print_44 : decode cX10_print 44 = .ok (.getfield 53, 3) := by decide +kernel
theorem dX10_print_47 : decode cX10_print 47 = .ok (.iload_n 1, 1) := by decide +kernel
theorem dX10_print_48 : decode cX10_print 48 = .ok (.invokevirtual 340, 3) := by decide +kernel
theorem dX10_print_51 : decode cX10_print 51 = .ok (.ifCond .eq 17, 3) := by decide +kernel
theorem dX10_print_54 : decode cX10_print 54 = .ok (.aload_n 0, 1) := by decide +kernel
theorem dX10_print_55 : decode cX10_print 55 = .ok (.getfield 19, 3) := by decide +kernel
theorem dX10_print_58 : decode cX10_print 58 = .ok (.ldc_w 343, 3) := by decide +kernel
theorem dX10_print_61 : decode cX10_print 61 = .ok (.invokevirtual 345, 3) := by decide +kernel
theorem dX10_print_64 : decode cX10_print 64 = .ok (.pop, 1) := by decide +kernel
theorem dX10_print_65 : decode cX10_print 65 = .ok (.goto 32, 3) := by decide +kernel
theorem dX10_print_68 : decode cX10_print 68 = .ok (.aload_n 0, 1) := by decide +kernel
theorem dX10_print_69 : decode cX10_print 69 = .ok (.iload_n 1, 1) := by decide +kernel
theorem dX10_print_70 : decode cX10_print 70 = .ok (.invokevirtual 239, 3) := by decide +kernel
theorem dX10_print_73 : decode cX10_print 73 = .ok (.bipush (-4), 2) := by decide +kernel
theorem dX10_print_75 : decode cX10_print 75 = .ok (.if_icmp .ne 17, 3) := by decide +kernel
theorem dX10_print_78 : decode cX10_print 78 = .ok (.aload_n 0, 1) := by decide +kernel
theorem dX10_print_79 : decode cX10_print 79 = .ok (.getfield 19, 3) := by decide +kernel
theorem dX10_print_82 : decode cX10_print 82 = .ok (.ldc_w 348, 3) := by decide +kernel
theorem dX10_print_85 : decode cX10_print 85 = .ok (.invokevirtual 345, 3) := by decide +kernel
theorem dX10_print_88 : decode cX10_print 88 = .ok (.pop, 1) := by decide +kernel
theorem dX10_print_89 : decode cX10_print 89 = .ok (.goto 8, 3) := by decide +kernel
theorem dX10_print_92 : decode cX10_print 92 = .ok (.aload_n 0, 1) := by decide +kernel
theorem dX10_print_93 : decode cX10_print 93 = .ok (.iload_n 1, 1) := by decide +kernel
theorem dX10_print_94 : decode cX10_print 94 = .ok (.invokevirtual 350, 3) := by decide +kernel
theorem dX10_print_97 : decode cX10_print 97 = .ok (.aload_n 0, 1) := by decide +kernel
theorem dX10_print_98 : decode cX10_print 98 = .ok (.getfield 53, 3) := by decide +kernel
theorem dX10_print_101 : decode cX10_print 101 = .ok (.getfield 159, 3) := by decide +kernel
theorem dX10_print_104 : decode cX10_print 104 = .ok (.iload_n 1, 1) := by decide +kernel
theorem dX10_print_105 : decode cX10_print 105 = .ok (.iaload, 1) := by decide +kernel
theorem dX10_print_106 : decode cX10_print 106 = .ok (.bipush (-4), 2) := by decide +kernel
theorem dX10_print_108 : decode cX10_print 108 = .ok (.if_icmp .eq 31, 3) := by decide +kernel
theorem dX10_print_111 : decode cX10_print 111 = .ok (.aload_n 0, 1) := by decide +kernel
theorem dX10_print_112 : decode cX10_print 112 = .ok (.getfield 19, 3) := by decide +kernel
theorem dX10_print_115 : decode cX10_print 115 = .ok (.ldc_w 353, 3) := by decide +kernel
theorem dX10_print_118 : decode cX10_print 118 = .ok (.invokevirtual 345, 3) := by decide +kernel
theorem dX10_print_121 : decode cX10_print 121 = .ok (.pop, 1) := by decide +kernel
theorem dX10_print_122 : decode cX10_print 122 = .ok (.aload_n 0, 1) := by decide +kernel
theorem dX10_print_123 : decode cX10_print 123 = .ok (.getfield 19, 3) := by decide +kernel
theorem dX10_print_126 : decode cX10_print 126 = .ok (.aload_n 0, 1) := by decide +kernel
theorem dX10_print_127 : decode cX10_print 127 = .ok (.getfield 53, 3) := by decide +kernel
theorem dX10_print_130 : decode cX10_print 130 = .ok (.getfield 159, 3) := by decide +kernel
theorem dX10_print_133 : decode cX10_print 133 = .ok (.iload_n 1, 1) := by decide +kernel
theorem dX10_print_134 : decode cX10_print 134 = .ok (.iaload, 1) := by decide +kernel
theorem dX10_print_135 : decode cX10_print 135 = .ok (.invokevirtual 333, 3) := by decide +kernel
theorem dX10_print_138 : decode cX10_print 138 = .ok (.pop, 1) := by decide +kernel
theorem dX10_print_139 : decode cX10_print 139 = .ok (.aload_n 0, 1) := by decide +kernel
theorem dX10_print_140 : decode cX10_print 140 = .ok (.getfield 19, 3) := by decide +kernel
theorem dX10_print_143 : decode cX10_print 143 = .ok (.invokevirtual 355, 3) := by decide +kernel
theorem dX10_print_146 : decode cX10_print 146 = .ok (.ireturn, 1) := by decide +kernel
theorem dX10_printed_0 : decode cX10_printed 0 = .ok (.iload_n 1, 1) := by decide +kernel
theorem dX10_printed_1 : decode cX10_printed 1 = .ok (.ifCond .ge 5, 3) := by decide +kernel
theorem dX10_printed_4 : decode cX10_printed 4 = .ok (.iconst (-1), 1) := by decide +kernel
theorem dX10_printed_5 : decode cX10_printed 5 = .ok (.ireturn, 1) := by decide +kernel
theorem dX10_printed_6 : decode cX10_printed 6 = .ok (.iload_n 1, 1) := by decide +kernel
theorem dX10_printed_7 : decode cX10_printed 7 = .ok (.aload_n 0, 1) := by decide +kernel
theorem dX10_printed_8 : decode cX10_printed 8 = .ok (.getfield 19, 3) := by decide +kernel
theorem dX10_printed_11 : decode cX10_printed 11 = .ok (.invokevirtual 355, 3) := by decide +kernel
theorem dX10_printed_14 : decode cX10_printed 14 = .ok (.if_icmp .ge 14, 3) := by decide +kernel
theorem dX10_printed_17 : decode cX10_printed 17 = .ok (.aload_n 0, 1) := by decide +kernel
theorem dX10_printed_18 : decode cX10_printed 18 = .ok (.getfield 19, 3) := by decide +kernel
theorem dX10_printed_21 : decode cX10_printed 21 = .ok (.iload_n 1, 1) := by decide +kernel
theorem dX10_printed_22 : decode cX10_printed 22 = .ok (.invokevirtual 357, 3) := by decide +kernel
theorem dX10_printed_25 : decode cX10_printed 25 = .ok (.goto 5, 3) := by decide +kernel
theorem dX10_printed_28 : decode cX10_printed 28 = .ok (.bipush (-4), 2) := by decide +kernel
theorem dX10_printed_30 : decode cX10_printed 30 = .ok (.ireturn, 1) := by decide +kernel
theorem dX10_keep_0 : decode cX10_keep 0 = .ok (.iload_n 1, 1) := by decide +kernel
theorem dX10_keep_1 : decode cX10_keep 1 = .ok (.iconst 0, 1) := by decide +kernel
theorem dX10_keep_2 : decode cX10_keep 2 = .ok (.iconst 1, 1) := by decide +kernel
theorem dX10_keep_3 : decode cX10_keep 3 = .ok (.invokestatic 69, 3) := by decide +kernel
theorem dX10_keep_6 : decode cX10_keep 6 = .ok (.ifCond .ne 5, 3) := by decide +kernel
theorem dX10_keep_9 : decode cX10_keep 9 = .ok (.iconst (-1), 1) := by decide +kernel
theorem dX10_keep_10 : decode cX10_keep 10 = .ok (.ireturn, 1) := by decide +kernel
theorem dX10_keep_11 : decode cX10_keep 11 = .ok (.aload_n 0, 1) := by decide +kernel
theorem dX10_keep_12 : decode cX10_keep 12 = .ok (.iload_n 1, 1) := by decide +kernel
theorem dX10_keep_13 : decode cX10_keep 13 = .ok (.invokevirtual 361, 3) := by decide +kernel
theorem dX10_keep_16 : decode cX10_keep 16 = .ok (.aload_n 0, 1) := by decide +kernel
theorem dX10_keep_17 : decode cX10_keep 17 = .ok (.getfield 47, 3) := by decide +kernel
theorem dX10_keep_20 : decode cX10_keep 20 = .ok (.invokevirtual 321, 3) := by decide +kernel
theorem dX10_keep_23 : decode cX10_keep 23 = .ok (.aload_n 0, 1) := by decide +kernel
theorem dX10_keep_24 : decode cX10_keep 24 = .ok (.getfield 40, 3) := by decide +kernel
theorem dX10_keep_27 : decode cX10_keep 27 = .ok (.iload_n 1, 1) := by decide +kernel
theorem dX10_keep_28 : decode cX10_keep 28 = .ok (.iconst 1, 1) := by decide +kernel
theorem dX10_keep_29 : decode cX10_keep 29 = .ok (.bastore, 1) := by decide +kernel
theorem dX10_keep_30 : decode cX10_keep 30 = .ok (.aload_n 0, 1) := by decide +kernel
theorem dX10_keep_31 : decode cX10_keep 31 = .ok (.getfield 47, 3) := by decide +kernel
theorem dX10_keep_34 : decode cX10_keep 34 = .ok (.getfield 85, 3) := by decide +kernel
theorem dX10_keep_37 : decode cX10_keep 37 = .ok (.getfield 89, 3) := by decide +kernel
theorem dX10_keep_40 : decode cX10_keep 40 = .ok (.ireturn, 1) := by decide +kernel
theorem dX10_restore_0 : decode cX10_restore 0 = .ok (.iload_n 1, 1) := by decide +kernel
theorem dX10_restore_1 : decode cX10_restore 1 = .ok (.iconst 0, 1) := by decide +kernel
theorem dX10_restore_2 : decode cX10_restore 2 = .ok (.iconst 1, 1) := by decide +kernel
theorem dX10_restore_3 : decode cX10_restore 3 = .ok (.invokestatic 69, 3) := by decide +kernel
theorem dX10_restore_6 : decode cX10_restore 6 = .ok (.ifCond .ne 5, 3) := by decide +kernel
theorem dX10_restore_9 : decode cX10_restore 9 = .ok (.iconst (-1), 1) := by decide +kernel
theorem dX10_restore_10 : decode cX10_restore 10 = .ok (.ireturn, 1) := by decide +kernel
theorem dX10_restore_11 : decode cX10_restore 11 = .ok (.aload_n 0, 1) := by decide +kernel
theorem dX10_restore_12 : decode cX10_restore 12 = .ok (.getfield 40, 3) := by decide +kernel
theorem dX10_restore_15 : decode cX10_restore 15 = .ok (.iload_n 1, 1) := by decide +kernel
theorem dX10_restore_16 : decode cX10_restore 16 = .ok (.baload, 1) := by decide +kernel
theorem dX10_restore_17 : decode cX10_restore 17 = .ok (.ifCond .ne 6, 3) := by decide +kernel
theorem dX10_restore_20 : decode cX10_restore 20 = .ok (.bipush (-3), 2) := by decide +kernel
theorem dX10_restore_22 : decode cX10_restore 22 = .ok (.ireturn, 1) := by decide +kernel
theorem dX10_restore_23 : decode cX10_restore 23 = .ok (.aload_n 0, 1) := by decide +kernel
theorem dX10_restore_24 : decode cX10_restore 24 = .ok (.getfield 47, 3) := by decide +kernel
theorem dX10_restore_27 : decode cX10_restore 27 = .ok (.aload_n 0, 1) := by decide +kernel
theorem dX10_restore_28 : decode cX10_restore 28 = .ok (.iload_n 1, 1) := by decide +kernel
theorem dX10_restore_29 : decode cX10_restore 29 = .ok (.invokevirtual 361, 3) := by decide +kernel
theorem dX10_restore_32 : decode cX10_restore 32 = .ok (.invokevirtual 321, 3) := by decide +kernel
theorem dX10_restore_35 : decode cX10_restore 35 = .ok (.aload_n 0, 1) := by decide +kernel
theorem dX10_restore_36 : decode cX10_restore 36 = .ok (.getfield 26, 3) := by decide +kernel
theorem dX10_restore_39 : decode cX10_restore 39 = .ok (.iconst 0, 1) := by decide +kernel
theorem dX10_restore_40 : decode cX10_restore 40 = .ok (.putfield 232, 3) := by decide +kernel
theorem dX10_restore_43 : decode cX10_restore 43 = .ok (.aload_n 0, 1) := by decide +kernel
theorem dX10_restore_44 : decode cX10_restore 44 = .ok (.invokevirtual 236, 3) := by decide +kernel
theorem dX10_restore_47 : decode cX10_restore 47 = .ok (.aload_n 0, 1) := by decide +kernel
theorem dX10_restore_48 : decode cX10_restore 48 = .ok (.getfield 47, 3) := by decide +kernel
theorem dX10_restore_51 : decode cX10_restore 51 = .ok (.getfield 85, 3) := by decide +kernel
theorem dX10_restore_54 : decode cX10_restore 54 = .ok (.getfield 89, 3) := by decide +kernel
theorem dX10_restore_57 : decode cX10_restore 57 = .ok (.ireturn, 1) := by decide +kernel
theorem dX10_checksum_0 : decode cX10_checksum 0 = .ok (.ldc2_w 365, 3) := by decide +kernel
theorem dX10_checksum_3 : decode cX10_checksum 3 = .ok (.aload_n 0, 1) := by decide +kernel
theorem dX10_checksum_4 : decode cX10_checksum 4 = .ok (.getfield 47, 3) := by decide +kernel
theorem dX10_checksum_7 : decode cX10_checksum 7 = .ok (.getfield 85, 3) := by decide +kernel
theorem dX10_checksum_10 : decode cX10_checksum 10 = .ok (.getfield 89, 3) := by decide +kernel
theorem dX10_checksum_13 : decode cX10_checksum 13 = .ok (.i2l, 1) := by decide +kernel
theorem dX10_checksum_14 : decode cX10_checksum 14 = .ok (.invokestatic 367, 3) := by decide +kernel
theorem dX10_checksum_17 : decode cX10_checksum 17 = .ok (.lstore_n 1, 1) := by decide +kernel
theorem dX10_checksum_18 : decode cX10_checksum 18 = .ok (.iconst 0, 1) := by decide +kernel
theorem dX10_checksum_19 : decode cX10_checksum 19 = .ok (.istore_n 3, 1) := by decide +kernel
theorem dX10_checksum_20 : decode cX10_checksum 20 = .ok (.iload_n 3, 1) := by decide +kernel
theorem dX10_checksum_21 : decode cX10_checksum 21 = .ok (.aload_n 0, 1) := by decide +kernel
theorem dX10_checksum_22 : decode cX10_checksum 22 = .ok (.getfield 47, 3) := by decide +kernel
theorem dX10_checksum_25 : decode cX10_checksum 25 = .ok (.getfield 85, 3) := by decide +kernel
theorem dX10_checksum_28 : decode cX10_checksum 28 = .ok (.getfield 89, 3) := by decide +kernel
theorem dX10_checksum_31 : decode cX10_checksum 31 = .ok (.if_icmp .ge 16, 3) := by decide +kernel
theorem dX10_checksum_34 : decode cX10_checksum 34 = .ok (.aload_n 0, 1) := by decide +kernel
theorem dX10_checksum_35 : decode cX10_checksum 35 = .ok (.lload_n 1, 1) := by decide +kernel
theorem dX10_checksum_36 : decode cX10_checksum 36 = .ok (.iload_n 3, 1) := by decide +kernel
theorem dX10_checksum_37 : decode cX10_checksum 37 = .ok (.invokevirtual 371, 3) := by decide +kernel
theorem dX10_checksum_40 : decode cX10_checksum 40 = .ok (.lstore_n 1, 1) := by decide +kernel
theorem dX10_checksum_41 : decode cX10_checksum 41 = .ok (.iinc 3 1, 3) := by decide +kernel
theorem dX10_checksum_44 : decode cX10_checksum 44 = .ok (.goto (-24), 3) := by decide +kernel
theorem dX10_checksum_47 : decode cX10_checksum 47 = .ok (.lload_n 1, 1) := by decide +kernel
theorem dX10_checksum_48 : decode cX10_checksum 48 = .ok (.aload_n 0, 1) := by decide +kernel
theorem dX10_checksum_49 : decode cX10_checksum 49 = .ok (.getfield 47, 3) := by decide +kernel
theorem dX10_checksum_52 : decode cX10_checksum 52 = .ok (.getfield 214, 3) := by decide +kernel
theorem dX10_checksum_55 : decode cX10_checksum 55 = .ok (.getfield 259, 3) := by decide +kernel
theorem dX10_checksum_58 : decode cX10_checksum 58 = .ok (.i2l, 1) := by decide +kernel
theorem dX10_checksum_59 : decode cX10_checksum 59 = .ok (.invokestatic 367, 3) := by decide +kernel
theorem dX10_checksum_62 : decode cX10_checksum 62 = .ok (.lstore_n 1, 1) := by decide +kernel
theorem dX10_checksum_63 : decode cX10_checksum 63 = .ok (.iconst 0, 1) := by decide +kernel
theorem dX10_checksum_64 : decode cX10_checksum 64 = .ok (.istore_n 3, 1) := by decide +kernel
theorem dX10_checksum_65 : decode cX10_checksum 65 = .ok (.iload_n 3, 1) := by decide +kernel
theorem dX10_checksum_66 : decode cX10_checksum 66 = .ok (.aload_n 0, 1) := by decide +kernel
theorem dX10_checksum_67 : decode cX10_checksum 67 = .ok (.getfield 47, 3) := by decide +kernel
theorem dX10_checksum_70 : decode cX10_checksum 70 = .ok (.getfield 214, 3) := by decide +kernel
theorem dX10_checksum_73 : decode cX10_checksum 73 = .ok (.getfield 259, 3) := by decide +kernel
theorem dX10_checksum_76 : decode cX10_checksum 76 = .ok (.if_icmp .ge 16, 3) := by decide +kernel
theorem dX10_checksum_79 : decode cX10_checksum 79 = .ok (.aload_n 0, 1) := by decide +kernel
theorem dX10_checksum_80 : decode cX10_checksum 80 = .ok (.lload_n 1, 1) := by decide +kernel
theorem dX10_checksum_81 : decode cX10_checksum 81 = .ok (.iload_n 3, 1) := by decide +kernel
theorem dX10_checksum_82 : decode cX10_checksum 82 = .ok (.invokevirtual 375, 3) := by decide +kernel
theorem dX10_checksum_85 : decode cX10_checksum 85 = .ok (.lstore_n 1, 1) := by decide +kernel
theorem dX10_checksum_86 : decode cX10_checksum 86 = .ok (.iinc 3 1, 3) := by decide +kernel
theorem dX10_checksum_89 : decode cX10_checksum 89 = .ok (.goto (-24), 3) := by decide +kernel
theorem dX10_checksum_92 : decode cX10_checksum 92 = .ok (.lload_n 1, 1) := by decide +kernel
theorem dX10_checksum_93 : decode cX10_checksum 93 = .ok (.lreturn, 1) := by decide +kernel
theorem dX10_isWithin_0 : decode cX10_isWithin 0 = .ok (.iload_n 0, 1) := by decide +kernel
theorem dX10_isWithin_1 : decode cX10_isWithin 1 = .ok (.iload_n 1, 1) := by decide +kernel
theorem dX10_isWithin_2 : decode cX10_isWithin 2 = .ok (.if_icmp .lt 12, 3) := by decide +kernel
theorem dX10_isWithin_5 : decode cX10_isWithin 5 = .ok (.iload_n 0, 1) := by decide +kernel
theorem dX10_isWithin_6 : decode cX10_isWithin 6 = .ok (.iload_n 2, 1) := by decide +kernel
theorem dX10_isWithin_7 : decode cX10_isWithin 7 = .ok (.if_icmp .gt 7, 3) := by decide +kernel
theorem dX10_isWithin_10 : decode cX10_isWithin 10 = .ok (.iconst 1, 1) := by decide +kernel
theorem dX10_isWithin_11 : decode cX10_isWithin 11 = .ok (.goto 4, 3) := by decide +kernel
theorem dX10_isWithin_14 : decode cX10_isWithin 14 = .ok (.iconst 0, 1) := by decide +kernel
theorem dX10_isWithin_15 : decode cX10_isWithin 15 = .ok (.ireturn, 1) := by decide +kernel
theorem dX10_asNumber_0 : decode cX10_asNumber 0 = .ok (.iload_n 0, 1) := by decide +kernel
theorem dX10_asNumber_1 : decode cX10_asNumber 1 = .ok (.ifCond .eq 7, 3) := by decide +kernel
theorem dX10_asNumber_4 : decode cX10_asNumber 4 = .ok (.iconst 1, 1) := by decide +kernel
theorem dX10_asNumber_5 : decode cX10_asNumber 5 = .ok (.goto 4, 3) := by decide +kernel
theorem dX10_asNumber_8 : decode cX10_asNumber 8 = .ok (.iconst 0, 1) := by decide +kernel
theorem dX10_asNumber_9 : decode cX10_asNumber 9 = .ok (.ireturn, 1) := by decide +kernel
theorem dX10_commonDivisor_0 : decode cX10_commonDivisor 0 = .ok (.iload_n 0, 1) := by decide +kernel
theorem dX10_commonDivisor_1 : decode cX10_commonDivisor 1 = .ok (.istore_n 2, 1) := by decide +kernel
theorem dX10_commonDivisor_2 : decode cX10_commonDivisor 2 = .ok (.iload_n 1, 1) := by decide +kernel
theorem dX10_commonDivisor_3 : decode cX10_commonDivisor 3 = .ok (.istore_n 3, 1) := by decide +kernel
theorem dX10_commonDivisor_4 : decode cX10_commonDivisor 4 = .ok (.iconst 0, 1) := by decide +kernel
theorem dX10_commonDivisor_5 : decode cX10_commonDivisor 5 = .ok (.istore 4, 2) := by decide +kernel
theorem dX10_commonDivisor_7 : decode cX10_commonDivisor 7 = .ok (.iload 4, 2) := by decide +kernel
theorem dX10_commonDivisor_9 : decode cX10_commonDivisor 9 = .ok (.bipush 64, 2) := by decide +kernel
theorem dX10_commonDivisor_11 : decode cX10_commonDivisor 11 = .ok (.if_icmp .ge 23, 3) := by decide +kernel
theorem dX10_commonDivisor_14 : decode cX10_commonDivisor 14 = .ok (.iload_n 3, 1) := by decide +kernel
theorem dX10_commonDivisor_15 : decode cX10_commonDivisor 15 = .ok (.ifCond .le 19, 3) := by decide +kernel
theorem dX10_commonDivisor_18 : decode cX10_commonDivisor 18 = .ok (.iload_n 2, 1) := by decide +kernel
theorem dX10_commonDivisor_19 : decode cX10_commonDivisor 19 = .ok (.iload_n 3, 1) := by decide +kernel
theorem dX10_commonDivisor_20 : decode cX10_commonDivisor 20 = .ok (.irem, 1) := by decide +kernel
theorem dX10_commonDivisor_21 : decode cX10_commonDivisor 21 = .ok (.istore 5, 2) := by decide +kernel
theorem dX10_commonDivisor_23 : decode cX10_commonDivisor 23 = .ok (.iload_n 3, 1) := by decide +kernel
theorem dX10_commonDivisor_24 : decode cX10_commonDivisor 24 = .ok (.istore_n 2, 1) := by decide +kernel
theorem dX10_commonDivisor_25 : decode cX10_commonDivisor 25 = .ok (.iload 5, 2) := by decide +kernel
theorem dX10_commonDivisor_27 : decode cX10_commonDivisor 27 = .ok (.istore_n 3, 1) := by decide +kernel
theorem dX10_commonDivisor_28 : decode cX10_commonDivisor 28 = .ok (.iinc 4 1, 3) := by decide +kernel
theorem dX10_commonDivisor_31 : decode cX10_commonDivisor 31 = .ok (.goto (-24), 3) := by decide +kernel
theorem dX10_commonDivisor_34 : decode cX10_commonDivisor 34 = .ok (.iload_n 2, 1) := by decide +kernel
theorem dX10_commonDivisor_35 : decode cX10_commonDivisor 35 = .ok (.iconst 1, 1) := by decide +kernel
theorem dX10_commonDivisor_36 : decode cX10_commonDivisor 36 = .ok (.invokestatic 378, 3) := by decide +kernel
theorem dX10_commonDivisor_39 : decode cX10_commonDivisor 39 = .ok (.ireturn, 1) := by decide +kernel
theorem dX10_mix_0 : decode cX10_mix 0 = .ok (.ldc2_w 383, 3) := by decide +kernel
theorem dX10_mix_3 : decode cX10_mix 3 = .ok (.lload_n 0, 1) := by decide +kernel
theorem dX10_mix_4 : decode cX10_mix 4 = .ok (.lmul, 1) := by decide +kernel
theorem dX10_mix_5 : decode cX10_mix 5 = .ok (.lload_n 2, 1) := by decide +kernel
theorem dX10_mix_6 : decode cX10_mix 6 = .ok (.ladd, 1) := by decide +kernel
theorem dX10_mix_7 : decode cX10_mix 7 = .ok (.lreturn, 1) := by decide +kernel
theorem dX10_hasPage_0 : decode cX10_hasPage 0 = .ok (.iload_n 1, 1) := by decide +kernel
theorem dX10_hasPage_1 : decode cX10_hasPage 1 = .ok (.iconst 0, 1) := by decide +kernel
theorem dX10_hasPage_2 : decode cX10_hasPage 2 = .ok (.aload_n 0, 1) := by decide +kernel
theorem dX10_hasPage_3 : decode cX10_hasPage 3 = .ok (.getfield 47, 3) := by decide +kernel
theorem dX10_hasPage_6 : decode cX10_hasPage 6 = .ok (.getfield 214, 3) := by decide +kernel
theorem dX10_hasPage_9 : decode cX10_hasPage 9 = .ok (.getfield 259, 3) := by decide +kernel
theorem dX10_hasPage_12 : decode cX10_hasPage 12 = .ok (.iconst 1, 1) := by decide +kernel
theorem dX10_hasPage_13 : decode cX10_hasPage 13 = .ok (.isub, 1) := by decide +kernel
theorem dX10_hasPage_14 : decode cX10_hasPage 14 = .ok (.invokestatic 69, 3) := by decide +kernel
theorem dX10_hasPage_17 : decode cX10_hasPage 17 = .ok (.ireturn, 1) := by decide +kernel
theorem dX10_hasPagePixel_0 : decode cX10_hasPagePixel 0 = .ok (.aload_n 0, 1) := by decide +kernel
theorem dX10_hasPagePixel_1 : decode cX10_hasPagePixel 1 = .ok (.iload_n 1, 1) := by decide +kernel
theorem dX10_hasPagePixel_2 : decode cX10_hasPagePixel 2 = .ok (.invokevirtual 271, 3) := by decide +kernel
theorem dX10_hasPagePixel_5 : decode cX10_hasPagePixel 5 = .ok (.ifCond .eq 47, 3) := by decide +kernel
theorem dX10_hasPagePixel_8 : decode cX10_hasPagePixel 8 = .ok (.iload_n 2, 1) := by decide +kernel
theorem dX10_hasPagePixel_9 : decode cX10_hasPagePixel 9 = .ok (.iconst 0, 1) := by decide +kernel
theorem dX10_hasPagePixel_10 : decode cX10_hasPagePixel 10 = .ok (.aload_n 0, 1) := by decide +kernel
theorem dX10_hasPagePixel_11 : decode cX10_hasPagePixel 11 = .ok (.getfield 47, 3) := by decide +kernel
theorem dX10_hasPagePixel_14 : decode cX10_hasPagePixel 14 = .ok (.getfield 105, 3) := by decide +kernel
theorem dX10_hasPagePixel_17 : decode cX10_hasPagePixel 17 = .ok (.getfield 165, 3) := by decide +kernel
theorem dX10_hasPagePixel_20 : decode cX10_hasPagePixel 20 = .ok (.iconst 1, 1) := by decide +kernel
theorem dX10_hasPagePixel_21 : decode cX10_hasPagePixel 21 = .ok (.isub, 1) := by decide +kernel
theorem dX10_hasPagePixel_22 : decode cX10_hasPagePixel 22 = .ok (.invokestatic 69, 3) := by decide +kernel
theorem dX10_hasPagePixel_25 : decode cX10_hasPagePixel 25 = .ok (.ifCond .eq 27, 3) := by decide +kernel
theorem dX10_hasPagePixel_28 : decode cX10_hasPagePixel 28 = .ok (.iload_n 3, 1) := by decide +kernel
theorem dX10_hasPagePixel_29 : decode cX10_hasPagePixel 29 = .ok (.iconst 0, 1) := by decide +kernel
theorem dX10_hasPagePixel_30 : decode cX10_hasPagePixel 30 = .ok (.aload_n 0, 1) := by decide +kernel
theorem dX10_hasPagePixel_31 : decode cX10_hasPagePixel 31 = .ok (.getfield 47, 3) := by decide +kernel
theorem dX10_hasPagePixel_34 : decode cX10_hasPagePixel 34 = .ok (.getfield 105, 3) := by decide +kernel
theorem dX10_hasPagePixel_37 : decode cX10_hasPagePixel 37 = .ok (.getfield 170, 3) := by decide +kernel
theorem dX10_hasPagePixel_40 : decode cX10_hasPagePixel 40 = .ok (.iconst 1, 1) := by decide +kernel
theorem dX10_hasPagePixel_41 : decode cX10_hasPagePixel 41 = .ok (.isub, 1) := by decide +kernel
theorem dX10_hasPagePixel_42 : decode cX10_hasPagePixel 42 = .ok (.invokestatic 69, 3) := by decide +kernel
theorem dX10_hasPagePixel_45 : decode cX10_hasPagePixel 45 = .ok (.ifCond .eq 7, 3) := by decide +kernel
theorem dX10_hasPagePixel_48 : decode cX10_hasPagePixel 48 = .ok (.iconst 1, 1) := by decide +kernel
theorem dX10_hasPagePixel_49 : decode cX10_hasPagePixel 49 = .ok (.goto 4, 3) := by decide +kernel
theorem dX10_hasPagePixel_52 : decode cX10_hasPagePixel 52 = .ok (.iconst 0, 1) := by decide +kernel
theorem dX10_hasPagePixel_53 : decode cX10_hasPagePixel 53 = .ok (.ireturn, 1) := by decide +kernel
theorem dX10_hasFree_0 : decode cX10_hasFree 0 = .ok (.aload_n 0, 1) := by decide +kernel
theorem dX10_hasFree_1 : decode cX10_hasFree 1 = .ok (.iload_n 1, 1) := by decide +kernel
theorem dX10_hasFree_2 : decode cX10_hasFree 2 = .ok (.invokevirtual 271, 3) := by decide +kernel
theorem dX10_hasFree_5 : decode cX10_hasFree 5 = .ok (.ifCond .eq 29, 3) := by decide +kernel
theorem dX10_hasFree_8 : decode cX10_hasFree 8 = .ok (.iload_n 2, 1) := by decide +kernel
theorem dX10_hasFree_9 : decode cX10_hasFree 9 = .ok (.iconst 0, 1) := by decide +kernel
theorem dX10_hasFree_10 : decode cX10_hasFree 10 = .ok (.aload_n 0, 1) := by decide +kernel
theorem dX10_hasFree_11 : decode cX10_hasFree 11 = .ok (.getfield 62, 3) := by decide +kernel
theorem dX10_hasFree_14 : decode cX10_hasFree 14 = .ok (.getfield 280, 3) := by decide +kernel
theorem dX10_hasFree_17 : decode cX10_hasFree 17 = .ok (.getfield 284, 3) := by decide +kernel
theorem dX10_hasFree_20 : decode cX10_hasFree 20 = .ok (.iload_n 1, 1) := by decide +kernel
theorem dX10_hasFree_21 : decode cX10_hasFree 21 = .ok (.iaload, 1) := by decide +kernel
theorem dX10_hasFree_22 : decode cX10_hasFree 22 = .ok (.iconst 1, 1) := by decide +kernel
theorem dX10_hasFree_23 : decode cX10_hasFree 23 = .ok (.isub, 1) := by decide +kernel
theorem dX10_hasFree_24 : decode cX10_hasFree 24 = .ok (.invokestatic 69, 3) := by decide +kernel
theorem dX10_hasFree_27 : decode cX10_hasFree 27 = .ok (.ifCond .eq 7, 3) := by decide +kernel
theorem dX10_hasFree_30 : decode cX10_hasFree 30 = .ok (.iconst 1, 1) := by decide +kernel
theorem dX10_hasFree_31 : decode cX10_hasFree 31 = .ok (.goto 4, 3) := by decide +kernel
theorem dX10_hasFree_34 : decode cX10_hasFree 34 = .ok (.iconst 0, 1) := by decide +kernel
theorem dX10_hasFree_35 : decode cX10_hasFree 35 = .ok (.ireturn, 1) := by decide +kernel
theorem dX10_slotState_0 : decode cX10_slotState 0 = .ok (.iload_n 1, 1) := by decide +kernel
theorem dX10_slotState_1 : decode cX10_slotState 1 = .ok (.ifCond .ne 10, 3) := by decide +kernel
theorem dX10_slotState_4 : decode cX10_slotState 4 = .ok (.aload_n 0, 1) := by decide +kernel
theorem dX10_slotState_5 : decode cX10_slotState 5 = .ok (.getfield 33, 3) := by decide +kernel
theorem dX10_slotState_8 : decode cX10_slotState 8 = .ok (.goto 7, 3) := by decide +kernel
theorem dX10_slotState_11 : decode cX10_slotState 11 = .ok (.aload_n 0, 1) := by decide +kernel
theorem dX10_slotState_12 : decode cX10_slotState 12 = .ok (.getfield 37, 3) := by decide +kernel
theorem dX10_slotState_15 : decode cX10_slotState 15 = .ok (.areturn, 1) := by decide +kernel
theorem dX10_placeOf_0 : decode cX10_placeOf 0 = .ok (.aload_n 0, 1) := by decide +kernel
theorem dX10_placeOf_1 : decode cX10_placeOf 1 = .ok (.getfield 53, 3) := by decide +kernel
theorem dX10_placeOf_4 : decode cX10_placeOf 4 = .ok (.iload_n 1, 1) := by decide +kernel
theorem dX10_placeOf_5 : decode cX10_placeOf 5 = .ok (.invokevirtual 243, 3) := by decide +kernel
theorem dX10_placeOf_8 : decode cX10_placeOf 8 = .ok (.istore_n 2, 1) := by decide +kernel
theorem dX10_placeOf_9 : decode cX10_placeOf 9 = .ok (.iload_n 2, 1) := by decide +kernel
theorem dX10_placeOf_10 : decode cX10_placeOf 10 = .ok (.bipush (-4), 2) := by decide +kernel
theorem dX10_placeOf_12 : decode cX10_placeOf 12 = .ok (.if_icmp .ne 8, 3) := by decide +kernel
theorem dX10_placeOf_15 : decode cX10_placeOf 15 = .ok (.bipush (-4), 2) := by decide +kernel
theorem dX10_placeOf_17 : decode cX10_placeOf 17 = .ok (.goto 15, 3) := by decide +kernel
theorem dX10_placeOf_20 : decode cX10_placeOf 20 = .ok (.aload_n 0, 1) := by decide +kernel
theorem dX10_placeOf_21 : decode cX10_placeOf 21 = .ok (.getfield 47, 3) := by decide +kernel
theorem dX10_placeOf_24 : decode cX10_placeOf 24 = .ok (.getfield 214, 3) := by decide +kernel
theorem dX10_placeOf_27 : decode cX10_placeOf 27 = .ok (.getfield 218, 3) := by decide +kernel
theorem dX10_placeOf_30 : decode cX10_placeOf 30 = .ok (.iload_n 2, 1) := by decide +kernel
theorem dX10_placeOf_31 : decode cX10_placeOf 31 = .ok (.iaload, 1) := by decide +kernel
theorem dX10_placeOf_32 : decode cX10_placeOf 32 = .ok (.ireturn, 1) := by decide +kernel
theorem dX10_studyAll_0 : decode cX10_studyAll 0 = .ok (.aload_n 0, 1) := by decide +kernel
theorem dX10_studyAll_1 : decode cX10_studyAll 1 = .ok (.getfield 53, 3) := by decide +kernel
theorem dX10_studyAll_4 : decode cX10_studyAll 4 = .ok (.aload_n 0, 1) := by decide +kernel
theorem dX10_studyAll_5 : decode cX10_studyAll 5 = .ok (.getfield 47, 3) := by decide +kernel
theorem dX10_studyAll_8 : decode cX10_studyAll 8 = .ok (.getfield 85, 3) := by decide +kernel
theorem dX10_studyAll_11 : decode cX10_studyAll 11 = .ok (.aload_n 0, 1) := by decide +kernel
theorem dX10_studyAll_12 : decode cX10_studyAll 12 = .ok (.getfield 47, 3) := by decide +kernel
theorem dX10_studyAll_15 : decode cX10_studyAll 15 = .ok (.getfield 105, 3) := by decide +kernel
theorem dX10_studyAll_18 : decode cX10_studyAll 18 = .ok (.invokevirtual 109, 3) := by decide +kernel
theorem dX10_studyAll_21 : decode cX10_studyAll 21 = .ok (.iconst 0, 1) := by decide +kernel
theorem dX10_studyAll_22 : decode cX10_studyAll 22 = .ok (.istore_n 1, 1) := by decide +kernel
theorem dX10_studyAll_23 : decode cX10_studyAll 23 = .ok (.iload_n 1, 1) := by decide +kernel
theorem dX10_studyAll_24 : decode cX10_studyAll 24 = .ok (.aload_n 0, 1) := by decide +kernel
theorem dX10_studyAll_25 : decode cX10_studyAll 25 = .ok (.getfield 47, 3) := by decide +kernel
theorem dX10_studyAll_28 : decode cX10_studyAll 28 = .ok (.getfield 214, 3) := by decide +kernel
theorem dX10_studyAll_31 : decode cX10_studyAll 31 = .ok (.getfield 259, 3) := by decide +kernel
theorem dX10_studyAll_34 : decode cX10_studyAll 34 = .ok (.if_icmp .ge 17, 3) := by decide +kernel
theorem dX10_studyAll_37 : decode cX10_studyAll 37 = .ok (.aload_n 0, 1) := by decide +kernel
theorem dX10_studyAll_38 : decode cX10_studyAll 38 = .ok (.getfield 62, 3) := by decide +kernel
theorem dX10_studyAll_41 : decode cX10_studyAll 41 = .ok (.iload_n 1, 1) := by decide +kernel
theorem dX10_studyAll_42 : decode cX10_studyAll 42 = .ok (.invokevirtual 229, 3) := by decide +kernel
theorem dX10_studyAll_45 : decode cX10_studyAll 45 = .ok (.iinc 1 1, 3) := by decide +kernel
theorem dX10_studyAll_48 : decode cX10_studyAll 48 = .ok (.goto (-25), 3) := by decide +kernel
theorem dX10_studyAll_51 : decode cX10_studyAll 51 = .ok (.return_, 1) := by decide +kernel
theorem dX10_emptyAtlas_0 : decode cX10_emptyAtlas 0 = .ok (.aload_n 0, 1) := by decide +kernel
theorem dX10_emptyAtlas_1 : decode cX10_emptyAtlas 1 = .ok (.getfield 47, 3) := by decide +kernel
theorem dX10_emptyAtlas_4 : decode cX10_emptyAtlas 4 = .ok (.getfield 214, 3) := by decide +kernel
theorem dX10_emptyAtlas_7 : decode cX10_emptyAtlas 7 = .ok (.invokevirtual 385, 3) := by decide +kernel
theorem dX10_emptyAtlas_10 : decode cX10_emptyAtlas 10 = .ok (.aload_n 0, 1) := by decide +kernel
theorem dX10_emptyAtlas_11 : decode cX10_emptyAtlas 11 = .ok (.getfield 53, 3) := by decide +kernel
theorem dX10_emptyAtlas_14 : decode cX10_emptyAtlas 14 = .ok (.aload_n 0, 1) := by decide +kernel
theorem dX10_emptyAtlas_15 : decode cX10_emptyAtlas 15 = .ok (.getfield 47, 3) := by decide +kernel
theorem dX10_emptyAtlas_18 : decode cX10_emptyAtlas 18 = .ok (.getfield 85, 3) := by decide +kernel
theorem dX10_emptyAtlas_21 : decode cX10_emptyAtlas 21 = .ok (.aload_n 0, 1) := by decide +kernel
theorem dX10_emptyAtlas_22 : decode cX10_emptyAtlas 22 = .ok (.getfield 47, 3) := by decide +kernel
theorem dX10_emptyAtlas_25 : decode cX10_emptyAtlas 25 = .ok (.getfield 105, 3) := by decide +kernel
theorem dX10_emptyAtlas_28 : decode cX10_emptyAtlas 28 = .ok (.invokevirtual 109, 3) := by decide +kernel
theorem dX10_emptyAtlas_31 : decode cX10_emptyAtlas 31 = .ok (.return_, 1) := by decide +kernel
theorem dX10_nextRandom_0 : decode cX10_nextRandom 0 = .ok (.aload_n 0, 1) := by decide +kernel
theorem dX10_nextRandom_1 : decode cX10_nextRandom 1 = .ok (.aload_n 0, 1) := by decide +kernel
theorem dX10_nextRandom_2 : decode cX10_nextRandom 2 = .ok (.getfield 113, 3) := by decide +kernel
theorem dX10_nextRandom_5 : decode cX10_nextRandom 5 = .ok (.ldc2_w 388, 3) := by decide +kernel
theorem dX10_nextRandom_8 : decode cX10_nextRandom 8 = .ok (.lmul, 1) := by decide +kernel
theorem dX10_nextRandom_9 : decode cX10_nextRandom 9 = .ok (.ldc2_w 390, 3) := by decide +kernel
theorem dX10_nextRandom_12 : decode cX10_nextRandom 12 = .ok (.ladd, 1) := by decide +kernel
theorem dX10_nextRandom_13 : decode cX10_nextRandom 13 = .ok (.ldc2_w 392, 3) := by decide +kernel
theorem dX10_nextRandom_16 : decode cX10_nextRandom 16 = .ok (.lrem, 1) := by decide +kernel
theorem dX10_nextRandom_17 : decode cX10_nextRandom 17 = .ok (.putfield 113, 3) := by decide +kernel
theorem dX10_nextRandom_20 : decode cX10_nextRandom 20 = .ok (.aload_n 0, 1) := by decide +kernel
theorem dX10_nextRandom_21 : decode cX10_nextRandom 21 = .ok (.getfield 113, 3) := by decide +kernel
theorem dX10_nextRandom_24 : decode cX10_nextRandom 24 = .ok (.ldc2_w 394, 3) := by decide +kernel
theorem dX10_nextRandom_27 : decode cX10_nextRandom 27 = .ok (.ldiv, 1) := by decide +kernel
theorem dX10_nextRandom_28 : decode cX10_nextRandom 28 = .ok (.l2i, 1) := by decide +kernel
theorem dX10_nextRandom_29 : decode cX10_nextRandom 29 = .ok (.ireturn, 1) := by decide +kernel
theorem dX10_drawOne_0 : decode cX10_drawOne 0 = .ok (.aload_n 0, 1) := by decide +kernel
theorem dX10_drawOne_1 : decode cX10_drawOne 1 = .ok (.invokevirtual 396, 3) := by decide +kernel
theorem dX10_drawOne_4 : decode cX10_drawOne 4 = .ok (.iconst 5, 1) := by decide +kernel
theorem dX10_drawOne_5 : decode cX10_drawOne 5 = .ok (.irem, 1) := by decide +kernel
theorem dX10_drawOne_6 : decode cX10_drawOne 6 = .ok (.iconst 1, 1) := by decide +kernel
theorem dX10_drawOne_7 : decode cX10_drawOne 7 = .ok (.iadd, 1) := by decide +kernel
theorem dX10_drawOne_8 : decode cX10_drawOne 8 = .ok (.istore_n 1, 1) := by decide +kernel
theorem dX10_drawOne_9 : decode cX10_drawOne 9 = .ok (.aload_n 0, 1) := by decide +kernel
theorem dX10_drawOne_10 : decode cX10_drawOne 10 = .ok (.invokevirtual 396, 3) := by decide +kernel
theorem dX10_drawOne_13 : decode cX10_drawOne 13 = .ok (.iconst 5, 1) := by decide +kernel
theorem dX10_drawOne_14 : decode cX10_drawOne 14 = .ok (.irem, 1) := by decide +kernel
theorem dX10_drawOne_15 : decode cX10_drawOne 15 = .ok (.iconst 1, 1) := by decide +kernel
theorem dX10_drawOne_16 : decode cX10_drawOne 16 = .ok (.iadd, 1) := by decide +kernel
theorem dX10_drawOne_17 : decode cX10_drawOne 17 = .ok (.istore_n 2, 1) := by decide +kernel
theorem dX10_drawOne_18 : decode cX10_drawOne 18 = .ok (.aload_n 0, 1) := by decide +kernel
theorem dX10_drawOne_19 : decode cX10_drawOne 19 = .ok (.getfield 47, 3) := by decide +kernel
theorem dX10_drawOne_22 : decode cX10_drawOne 22 = .ok (.getfield 85, 3) := by decide +kernel
theorem dX10_drawOne_25 : decode cX10_drawOne 25 = .ok (.iload_n 1, 1) := by decide +kernel
theorem dX10_drawOne_26 : decode cX10_drawOne 26 = .ok (.iload_n 2, 1) := by decide +kernel
theorem dX10_drawOne_27 : decode cX10_drawOne 27 = .ok (.invokevirtual 399, 3) := by decide +kernel
theorem dX10_drawOne_30 : decode cX10_drawOne 30 = .ok (.istore_n 3, 1) := by decide +kernel
theorem dX10_drawOne_31 : decode cX10_drawOne 31 = .ok (.iconst 0, 1) := by decide +kernel
theorem dX10_drawOne_32 : decode cX10_drawOne 32 = .ok (.istore 4, 2) := by decide +kernel
theorem dX10_drawOne_34 : decode cX10_drawOne 34 = .ok (.iload 4, 2) := by decide +kernel
theorem dX10_drawOne_36 : decode cX10_drawOne 36 = .ok (.iload_n 2, 1) := by decide +kernel
theorem dX10_drawOne_37 : decode cX10_drawOne 37 = .ok (.if_icmp .ge 52, 3) := by decide +kernel
theorem dX10_drawOne_40 : decode cX10_drawOne 40 = .ok (.iconst 0, 1) := by decide +kernel
theorem dX10_drawOne_41 : decode cX10_drawOne 41 = .ok (.istore 5, 2) := by decide +kernel
theorem dX10_drawOne_43 : decode cX10_drawOne 43 = .ok (.iload 5, 2) := by decide +kernel
theorem dX10_drawOne_45 : decode cX10_drawOne 45 = .ok (.iload_n 1, 1) := by decide +kernel
theorem dX10_drawOne_46 : decode cX10_drawOne 46 = .ok (.if_icmp .ge 37, 3) := by decide +kernel
theorem dX10_drawOne_49 : decode cX10_drawOne 49 = .ok (.aload_n 0, 1) := by decide +kernel
theorem dX10_drawOne_50 : decode cX10_drawOne 50 = .ok (.getfield 47, 3) := by decide +kernel
theorem dX10_drawOne_53 : decode cX10_drawOne 53 = .ok (.getfield 85, 3) := by decide +kernel
theorem dX10_drawOne_56 : decode cX10_drawOne 56 = .ok (.iload_n 3, 1) := by decide +kernel
theorem dX10_drawOne_57 : decode cX10_drawOne 57 = .ok (.iload 5, 2) := by decide +kernel
theorem dX10_drawOne_59 : decode cX10_drawOne 59 = .ok (.iload 4, 2) := by decide +kernel
theorem dX10_drawOne_61 : decode cX10_drawOne 61 = .ok (.aload_n 0, 1) := by decide +kernel
theorem dX10_drawOne_62 : decode cX10_drawOne 62 = .ok (.invokevirtual 396, 3) := by decide +kernel
theorem dX10_drawOne_65 : decode cX10_drawOne 65 = .ok (.bipush 6, 2) := by decide +kernel
theorem dX10_drawOne_67 : decode cX10_drawOne 67 = .ok (.irem, 1) := by decide +kernel
theorem dX10_drawOne_68 : decode cX10_drawOne 68 = .ok (.iconst 2, 1) := by decide +kernel
theorem dX10_drawOne_69 : decode cX10_drawOne 69 = .ok (.isub, 1) := by decide +kernel
theorem dX10_drawOne_70 : decode cX10_drawOne 70 = .ok (.iconst 0, 1) := by decide +kernel
theorem dX10_drawOne_71 : decode cX10_drawOne 71 = .ok (.invokestatic 378, 3) := by decide +kernel
theorem dX10_drawOne_74 : decode cX10_drawOne 74 = .ok (.invokevirtual 137, 3) := by decide +kernel
theorem dX10_drawOne_77 : decode cX10_drawOne 77 = .ok (.iinc 5 1, 3) := by decide +kernel
theorem dX10_drawOne_80 : decode cX10_drawOne 80 = .ok (.goto (-37), 3) := by decide +kernel
theorem dX10_drawOne_83 : decode cX10_drawOne 83 = .ok (.iinc 4 1, 3) := by decide +kernel
theorem dX10_drawOne_86 : decode cX10_drawOne 86 = .ok (.goto (-52), 3) := by decide +kernel
theorem dX10_drawOne_89 : decode cX10_drawOne 89 = .ok (.return_, 1) := by decide +kernel
theorem dX10_packingCost_0 : decode cX10_packingCost 0 = .ok (.lconst 0, 1) := by decide +kernel
theorem dX10_packingCost_1 : decode cX10_packingCost 1 = .ok (.lstore_n 2, 1) := by decide +kernel
theorem dX10_packingCost_2 : decode cX10_packingCost 2 = .ok (.iconst 0, 1) := by decide +kernel
theorem dX10_packingCost_3 : decode cX10_packingCost 3 = .ok (.istore 4, 2) := by decide +kernel
theorem dX10_packingCost_5 : decode cX10_packingCost 5 = .ok (.iload 4, 2) := by decide +kernel
theorem dX10_packingCost_7 : decode cX10_packingCost 7 = .ok (.aload_n 0, 1) := by decide +kernel
theorem dX10_packingCost_8 : decode cX10_packingCost 8 = .ok (.getfield 50, 3) := by decide +kernel
theorem dX10_packingCost_11 : decode cX10_packingCost 11 = .ok (.getfield 214, 3) := by decide +kernel
theorem dX10_packingCost_14 : decode cX10_packingCost 14 = .ok (.getfield 259, 3) := by decide +kernel
theorem dX10_packingCost_17 : decode cX10_packingCost 17 = .ok (.if_icmp .ge 32, 3) := by decide +kernel
theorem dX10_packingCost_20 : decode cX10_packingCost 20 = .ok (.lload_n 2, 1) := by decide +kernel
theorem dX10_packingCost_21 : decode cX10_packingCost 21 = .ok (.aload_n 0, 1) := by decide +kernel
theorem dX10_packingCost_22 : decode cX10_packingCost 22 = .ok (.getfield 66, 3) := by decide +kernel
theorem dX10_packingCost_25 : decode cX10_packingCost 25 = .ok (.iload 4, 2) := by decide +kernel
theorem dX10_packingCost_27 : decode cX10_packingCost 27 = .ok (.invokevirtual 274, 3) := by decide +kernel
theorem dX10_packingCost_30 : decode cX10_packingCost 30 = .ok (.aload_n 0, 1) := by decide +kernel
theorem dX10_packingCost_31 : decode cX10_packingCost 31 = .ok (.getfield 66, 3) := by decide +kernel
theorem dX10_packingCost_34 : decode cX10_packingCost 34 = .ok (.iload 4, 2) := by decide +kernel
theorem dX10_packingCost_36 : decode cX10_packingCost 36 = .ok (.invokevirtual 277, 3) := by decide +kernel
theorem dX10_packingCost_39 : decode cX10_packingCost 39 = .ok (.imul, 1) := by decide +kernel
theorem dX10_packingCost_40 : decode cX10_packingCost 40 = .ok (.i2l, 1) := by decide +kernel
theorem dX10_packingCost_41 : decode cX10_packingCost 41 = .ok (.ladd, 1) := by decide +kernel
theorem dX10_packingCost_42 : decode cX10_packingCost 42 = .ok (.lstore_n 2, 1) := by decide +kernel
theorem dX10_packingCost_43 : decode cX10_packingCost 43 = .ok (.iinc 4 1, 3) := by decide +kernel
theorem dX10_packingCost_46 : decode cX10_packingCost 46 = .ok (.goto (-41), 3) := by decide +kernel
theorem dX10_packingCost_49 : decode cX10_packingCost 49 = .ok (.iload_n 1, 1) := by decide +kernel
theorem dX10_packingCost_50 : decode cX10_packingCost 50 = .ok (.i2l, 1) := by decide +kernel
theorem dX10_packingCost_51 : decode cX10_packingCost 51 = .ok (.ldc2_w 401, 3) := by decide +kernel
theorem dX10_packingCost_54 : decode cX10_packingCost 54 = .ok (.lmul, 1) := by decide +kernel
theorem dX10_packingCost_55 : decode cX10_packingCost 55 = .ok (.aload_n 0, 1) := by decide +kernel
theorem dX10_packingCost_56 : decode cX10_packingCost 56 = .ok (.getfield 50, 3) := by decide +kernel
theorem dX10_packingCost_59 : decode cX10_packingCost 59 = .ok (.getfield 214, 3) := by decide +kernel
theorem dX10_packingCost_62 : decode cX10_packingCost 62 = .ok (.getfield 259, 3) := by decide +kernel
theorem dX10_packingCost_65 : decode cX10_packingCost 65 = .ok (.i2l, 1) := by decide +kernel
theorem dX10_packingCost_66 : decode cX10_packingCost 66 = .ok (.ladd, 1) := by decide +kernel
theorem dX10_packingCost_67 : decode cX10_packingCost 67 = .ok (.ldc2_w 403, 3) := by decide +kernel
theorem dX10_packingCost_70 : decode cX10_packingCost 70 = .ok (.lmul, 1) := by decide +kernel
theorem dX10_packingCost_71 : decode cX10_packingCost 71 = .ok (.lload_n 2, 1) := by decide +kernel
theorem dX10_packingCost_72 : decode cX10_packingCost 72 = .ok (.ladd, 1) := by decide +kernel
theorem dX10_packingCost_73 : decode cX10_packingCost 73 = .ok (.lreturn, 1) := by decide +kernel
theorem dX10_printPlace_0 : decode cX10_printPlace 0 = .ok (.aload_n 0, 1) := by decide +kernel
theorem dX10_printPlace_1 : decode cX10_printPlace 1 = .ok (.getfield 19, 3) := by decide +kernel
theorem dX10_printPlace_4 : decode cX10_printPlace 4 = .ok (.ldc_w 405, 3) := by decide +kernel
theorem dX10_printPlace_7 : decode cX10_printPlace 7 = .ok (.invokevirtual 345, 3) := by decide +kernel
theorem dX10_printPlace_10 : decode cX10_printPlace 10 = .ok (.pop, 1) := by decide +kernel
theorem dX10_printPlace_11 : decode cX10_printPlace 11 = .ok (.aload_n 0, 1) := by decide +kernel
theorem dX10_printPlace_12 : decode cX10_printPlace 12 = .ok (.getfield 19, 3) := by decide +kernel
theorem dX10_printPlace_15 : decode cX10_printPlace 15 = .ok (.aload_n 0, 1) := by decide +kernel
theorem dX10_printPlace_16 : decode cX10_printPlace 16 = .ok (.iload_n 1, 1) := by decide +kernel
theorem dX10_printPlace_17 : decode cX10_printPlace 17 = .ok (.invokevirtual 407, 3) := by decide +kernel
theorem dX10_printPlace_20 : decode cX10_printPlace 20 = .ok (.invokevirtual 333, 3) := by decide +kernel
theorem dX10_printPlace_23 : decode cX10_printPlace 23 = .ok (.pop, 1) := by decide +kernel
theorem dX10_printPlace_24 : decode cX10_printPlace 24 = .ok (.aload_n 0, 1) := by decide +kernel
theorem dX10_printPlace_25 : decode cX10_printPlace 25 = .ok (.getfield 19, 3) := by decide +kernel
theorem dX10_printPlace_28 : decode cX10_printPlace 28 = .ok (.ldc_w 410, 3) := by decide +kernel
theorem dX10_printPlace_31 : decode cX10_printPlace 31 = .ok (.invokevirtual 345, 3) := by decide +kernel
theorem dX10_printPlace_34 : decode cX10_printPlace 34 = .ok (.pop, 1) := by decide +kernel
theorem dX10_printPlace_35 : decode cX10_printPlace 35 = .ok (.aload_n 0, 1) := by decide +kernel
theorem dX10_printPlace_36 : decode cX10_printPlace 36 = .ok (.getfield 19, 3) := by decide +kernel
theorem dX10_printPlace_39 : decode cX10_printPlace 39 = .ok (.aload_n 0, 1) := by decide +kernel
theorem dX10_printPlace_40 : decode cX10_printPlace 40 = .ok (.iload_n 1, 1) := by decide +kernel
theorem dX10_printPlace_41 : decode cX10_printPlace 41 = .ok (.invokevirtual 412, 3) := by decide +kernel
theorem dX10_printPlace_44 : decode cX10_printPlace 44 = .ok (.invokevirtual 333, 3) := by decide +kernel
theorem dX10_printPlace_47 : decode cX10_printPlace 47 = .ok (.pop, 1) := by decide +kernel
theorem dX10_printPlace_48 : decode cX10_printPlace 48 = .ok (.aload_n 0, 1) := by decide +kernel
theorem dX10_printPlace_49 : decode cX10_printPlace 49 = .ok (.getfield 19, 3) := by decide +kernel
theorem dX10_printPlace_52 : decode cX10_printPlace 52 = .ok (.bipush 44, 2) := by decide +kernel
theorem dX10_printPlace_54 : decode cX10_printPlace 54 = .ok (.invokevirtual 337, 3) := by decide +kernel
theorem dX10_printPlace_57 : decode cX10_printPlace 57 = .ok (.pop, 1) := by decide +kernel
theorem dX10_printPlace_58 : decode cX10_printPlace 58 = .ok (.aload_n 0, 1) := by decide +kernel
theorem dX10_printPlace_59 : decode cX10_printPlace 59 = .ok (.getfield 19, 3) := by decide +kernel
theorem dX10_printPlace_62 : decode cX10_printPlace 62 = .ok (.aload_n 0, 1) := by decide +kernel
theorem dX10_printPlace_63 : decode cX10_printPlace 63 = .ok (.iload_n 1, 1) := by decide +kernel
theorem dX10_printPlace_64 : decode cX10_printPlace 64 = .ok (.invokevirtual 415, 3) := by decide +kernel
theorem dX10_printPlace_67 : decode cX10_printPlace 67 = .ok (.invokevirtual 333, 3) := by decide +kernel
theorem dX10_printPlace_70 : decode cX10_printPlace 70 = .ok (.pop, 1) := by decide +kernel
theorem dX10_printPlace_71 : decode cX10_printPlace 71 = .ok (.aload_n 0, 1) := by decide +kernel
theorem dX10_printPlace_72 : decode cX10_printPlace 72 = .ok (.getfield 19, 3) := by decide +kernel
theorem dX10_printPlace_75 : decode cX10_printPlace 75 = .ok (.ldc_w 418, 3) := by decide +kernel
theorem dX10_printPlace_78 : decode cX10_printPlace 78 = .ok (.invokevirtual 345, 3) := by decide +kernel
theorem dX10_printPlace_81 : decode cX10_printPlace 81 = .ok (.pop, 1) := by decide +kernel
theorem dX10_printPlace_82 : decode cX10_printPlace 82 = .ok (.aload_n 0, 1) := by decide +kernel
theorem dX10_printPlace_83 : decode cX10_printPlace 83 = .ok (.getfield 19, 3) := by decide +kernel
theorem dX10_printPlace_86 : decode cX10_printPlace 86 = .ok (.aload_n 0, 1) := by decide +kernel
theorem dX10_printPlace_87 : decode cX10_printPlace 87 = .ok (.getfield 53, 3) := by decide +kernel
theorem dX10_printPlace_90 : decode cX10_printPlace 90 = .ok (.getfield 157, 3) := by decide +kernel
theorem dX10_printPlace_93 : decode cX10_printPlace 93 = .ok (.iload_n 1, 1) := by decide +kernel
theorem dX10_printPlace_94 : decode cX10_printPlace 94 = .ok (.iaload, 1) := by decide +kernel
theorem dX10_printPlace_95 : decode cX10_printPlace 95 = .ok (.invokevirtual 333, 3) := by decide +kernel
theorem dX10_printPlace_98 : decode cX10_printPlace 98 = .ok (.pop, 1) := by decide +kernel
theorem dX10_printPlace_99 : decode cX10_printPlace 99 = .ok (.aload_n 0, 1) := by decide +kernel
theorem dX10_printPlace_100 : decode cX10_printPlace 100 = .ok (.getfield 19, 3) := by decide +kernel
theorem dX10_printPlace_103 : decode cX10_printPlace 103 = .ok (.bipush 120, 2) := by decide +kernel
theorem dX10_printPlace_105 : decode cX10_printPlace 105 = .ok (.invokevirtual 337, 3) := by decide +kernel
theorem dX10_printPlace_108 : decode cX10_printPlace 108 = .ok (.pop, 1) := by decide +kernel
theorem dX10_printPlace_109 : decode cX10_printPlace 109 = .ok (.aload_n 0, 1) := by decide +kernel
theorem dX10_printPlace_110 : decode cX10_printPlace 110 = .ok (.getfield 19, 3) := by decide +kernel
theorem dX10_printPlace_113 : decode cX10_printPlace 113 = .ok (.aload_n 0, 1) := by decide +kernel
theorem dX10_printPlace_114 : decode cX10_printPlace 114 = .ok (.getfield 53, 3) := by decide +kernel
theorem dX10_printPlace_117 : decode cX10_printPlace 117 = .ok (.getfield 158, 3) := by decide +kernel
theorem dX10_printPlace_120 : decode cX10_printPlace 120 = .ok (.iload_n 1, 1) := by decide +kernel
theorem dX10_printPlace_121 : decode cX10_printPlace 121 = .ok (.iaload, 1) := by decide +kernel
theorem dX10_printPlace_122 : decode cX10_printPlace 122 = .ok (.invokevirtual 333, 3) := by decide +kernel
theorem dX10_printPlace_125 : decode cX10_printPlace 125 = .ok (.pop, 1) := by decide +kernel
theorem dX10_printPlace_126 : decode cX10_printPlace 126 = .ok (.aload_n 0, 1) := by decide +kernel
theorem dX10_printPlace_127 : decode cX10_printPlace 127 = .ok (.getfield 19, 3) := by decide +kernel
theorem dX10_printPlace_130 : decode cX10_printPlace 130 = .ok (.ldc_w 420, 3) := by decide +kernel
theorem dX10_printPlace_133 : decode cX10_printPlace 133 = .ok (.invokevirtual 345, 3) := by decide +kernel
theorem dX10_printPlace_136 : decode cX10_printPlace 136 = .ok (.pop, 1) := by decide +kernel
theorem dX10_printPlace_137 : decode cX10_printPlace 137 = .ok (.aload_n 0, 1) := by decide +kernel
theorem dX10_printPlace_138 : decode cX10_printPlace 138 = .ok (.getfield 19, 3) := by decide +kernel
theorem dX10_printPlace_141 : decode cX10_printPlace 141 = .ok (.aload_n 0, 1) := by decide +kernel
theorem dX10_printPlace_142 : decode cX10_printPlace 142 = .ok (.iload_n 1, 1) := by decide +kernel
theorem dX10_printPlace_143 : decode cX10_printPlace 143 = .ok (.invokevirtual 422, 3) := by decide +kernel
theorem dX10_printPlace_146 : decode cX10_printPlace 146 = .ok (.invokevirtual 333, 3) := by decide +kernel
theorem dX10_printPlace_149 : decode cX10_printPlace 149 = .ok (.pop, 1) := by decide +kernel
theorem dX10_printPlace_150 : decode cX10_printPlace 150 = .ok (.return_, 1) := by decide +kernel
theorem dX10_mixSprite_0 : decode cX10_mixSprite 0 = .ok (.lload_n 1, 1) := by decide +kernel
theorem dX10_mixSprite_1 : decode cX10_mixSprite 1 = .ok (.aload_n 0, 1) := by decide +kernel
theorem dX10_mixSprite_2 : decode cX10_mixSprite 2 = .ok (.iload_n 3, 1) := by decide +kernel
theorem dX10_mixSprite_3 : decode cX10_mixSprite 3 = .ok (.invokevirtual 425, 3) := by decide +kernel
theorem dX10_mixSprite_6 : decode cX10_mixSprite 6 = .ok (.i2l, 1) := by decide +kernel
theorem dX10_mixSprite_7 : decode cX10_mixSprite 7 = .ok (.invokestatic 367, 3) := by decide +kernel
theorem dX10_mixSprite_10 : decode cX10_mixSprite 10 = .ok (.aload_n 0, 1) := by decide +kernel
theorem dX10_mixSprite_11 : decode cX10_mixSprite 11 = .ok (.iload_n 3, 1) := by decide +kernel
theorem dX10_mixSprite_12 : decode cX10_mixSprite 12 = .ok (.invokevirtual 428, 3) := by decide +kernel
theorem dX10_mixSprite_15 : decode cX10_mixSprite 15 = .ok (.i2l, 1) := by decide +kernel
theorem dX10_mixSprite_16 : decode cX10_mixSprite 16 = .ok (.invokestatic 367, 3) := by decide +kernel
theorem dX10_mixSprite_19 : decode cX10_mixSprite 19 = .ok (.lstore 4, 2) := by decide +kernel
theorem dX10_mixSprite_21 : decode cX10_mixSprite 21 = .ok (.iconst 0, 1) := by decide +kernel
theorem dX10_mixSprite_22 : decode cX10_mixSprite 22 = .ok (.istore 6, 2) := by decide +kernel
theorem dX10_mixSprite_24 : decode cX10_mixSprite 24 = .ok (.iload 6, 2) := by decide +kernel
theorem dX10_mixSprite_26 : decode cX10_mixSprite 26 = .ok (.aload_n 0, 1) := by decide +kernel
theorem dX10_mixSprite_27 : decode cX10_mixSprite 27 = .ok (.iload_n 3, 1) := by decide +kernel
theorem dX10_mixSprite_28 : decode cX10_mixSprite 28 = .ok (.invokevirtual 428, 3) := by decide +kernel
theorem dX10_mixSprite_31 : decode cX10_mixSprite 31 = .ok (.if_icmp .ge 45, 3) := by decide +kernel
theorem dX10_mixSprite_34 : decode cX10_mixSprite 34 = .ok (.iconst 0, 1) := by decide +kernel
theorem dX10_mixSprite_35 : decode cX10_mixSprite 35 = .ok (.istore 7, 2) := by decide +kernel
theorem dX10_mixSprite_37 : decode cX10_mixSprite 37 = .ok (.iload 7, 2) := by decide +kernel
theorem dX10_mixSprite_39 : decode cX10_mixSprite 39 = .ok (.aload_n 0, 1) := by decide +kernel
theorem dX10_mixSprite_40 : decode cX10_mixSprite 40 = .ok (.iload_n 3, 1) := by decide +kernel
theorem dX10_mixSprite_41 : decode cX10_mixSprite 41 = .ok (.invokevirtual 425, 3) := by decide +kernel
theorem dX10_mixSprite_44 : decode cX10_mixSprite 44 = .ok (.if_icmp .ge 26, 3) := by decide +kernel
theorem dX10_mixSprite_47 : decode cX10_mixSprite 47 = .ok (.lload 4, 2) := by decide +kernel
theorem dX10_mixSprite_49 : decode cX10_mixSprite 49 = .ok (.aload_n 0, 1) := by decide +kernel
theorem dX10_mixSprite_50 : decode cX10_mixSprite 50 = .ok (.iload_n 3, 1) := by decide +kernel
theorem dX10_mixSprite_51 : decode cX10_mixSprite 51 = .ok (.iload 7, 2) := by decide +kernel
theorem dX10_mixSprite_53 : decode cX10_mixSprite 53 = .ok (.iload 6, 2) := by decide +kernel
theorem dX10_mixSprite_55 : decode cX10_mixSprite 55 = .ok (.invokevirtual 431, 3) := by decide +kernel
theorem dX10_mixSprite_58 : decode cX10_mixSprite 58 = .ok (.i2l, 1) := by decide +kernel
theorem dX10_mixSprite_59 : decode cX10_mixSprite 59 = .ok (.invokestatic 367, 3) := by decide +kernel
theorem dX10_mixSprite_62 : decode cX10_mixSprite 62 = .ok (.lstore 4, 2) := by decide +kernel
theorem dX10_mixSprite_64 : decode cX10_mixSprite 64 = .ok (.iinc 7 1, 3) := by decide +kernel
theorem dX10_mixSprite_67 : decode cX10_mixSprite 67 = .ok (.goto (-30), 3) := by decide +kernel
theorem dX10_mixSprite_70 : decode cX10_mixSprite 70 = .ok (.iinc 6 1, 3) := by decide +kernel
theorem dX10_mixSprite_73 : decode cX10_mixSprite 73 = .ok (.goto (-49), 3) := by decide +kernel
theorem dX10_mixSprite_76 : decode cX10_mixSprite 76 = .ok (.lload 4, 2) := by decide +kernel
theorem dX10_mixSprite_78 : decode cX10_mixSprite 78 = .ok (.aload_n 0, 1) := by decide +kernel
theorem dX10_mixSprite_79 : decode cX10_mixSprite 79 = .ok (.iload_n 3, 1) := by decide +kernel
theorem dX10_mixSprite_80 : decode cX10_mixSprite 80 = .ok (.invokevirtual 434, 3) := by decide +kernel
theorem dX10_mixSprite_83 : decode cX10_mixSprite 83 = .ok (.i2l, 1) := by decide +kernel
theorem dX10_mixSprite_84 : decode cX10_mixSprite 84 = .ok (.invokestatic 367, 3) := by decide +kernel
theorem dX10_mixSprite_87 : decode cX10_mixSprite 87 = .ok (.lstore 4, 2) := by decide +kernel
theorem dX10_mixSprite_89 : decode cX10_mixSprite 89 = .ok (.lload 4, 2) := by decide +kernel
theorem dX10_mixSprite_91 : decode cX10_mixSprite 91 = .ok (.aload_n 0, 1) := by decide +kernel
theorem dX10_mixSprite_92 : decode cX10_mixSprite 92 = .ok (.iload_n 3, 1) := by decide +kernel
theorem dX10_mixSprite_93 : decode cX10_mixSprite 93 = .ok (.invokevirtual 437, 3) := by decide +kernel
theorem dX10_mixSprite_96 : decode cX10_mixSprite 96 = .ok (.i2l, 1) := by decide +kernel
theorem dX10_mixSprite_97 : decode cX10_mixSprite 97 = .ok (.invokestatic 367, 3) := by decide +kernel
theorem dX10_mixSprite_100 : decode cX10_mixSprite 100 = .ok (.aload_n 0, 1) := by decide +kernel
theorem dX10_mixSprite_101 : decode cX10_mixSprite 101 = .ok (.iload_n 3, 1) := by decide +kernel
theorem dX10_mixSprite_102 : decode cX10_mixSprite 102 = .ok (.invokevirtual 440, 3) := by decide +kernel
theorem dX10_mixSprite_105 : decode cX10_mixSprite 105 = .ok (.i2l, 1) := by decide +kernel
theorem dX10_mixSprite_106 : decode cX10_mixSprite 106 = .ok (.invokestatic 367, 3) := by decide +kernel
theorem dX10_mixSprite_109 : decode cX10_mixSprite 109 = .ok (.lstore 4, 2) := by decide +kernel
theorem dX10_mixSprite_111 : decode cX10_mixSprite 111 = .ok (.lload 4, 2) := by decide +kernel
theorem dX10_mixSprite_113 : decode cX10_mixSprite 113 = .ok (.aload_n 0, 1) := by decide +kernel
theorem dX10_mixSprite_114 : decode cX10_mixSprite 114 = .ok (.iload_n 3, 1) := by decide +kernel
theorem dX10_mixSprite_115 : decode cX10_mixSprite 115 = .ok (.invokevirtual 443, 3) := by decide +kernel
theorem dX10_mixSprite_118 : decode cX10_mixSprite 118 = .ok (.i2l, 1) := by decide +kernel
theorem dX10_mixSprite_119 : decode cX10_mixSprite 119 = .ok (.invokestatic 367, 3) := by decide +kernel
theorem dX10_mixSprite_122 : decode cX10_mixSprite 122 = .ok (.aload_n 0, 1) := by decide +kernel
theorem dX10_mixSprite_123 : decode cX10_mixSprite 123 = .ok (.iload_n 3, 1) := by decide +kernel
theorem dX10_mixSprite_124 : decode cX10_mixSprite 124 = .ok (.invokevirtual 446, 3) := by decide +kernel
theorem dX10_mixSprite_127 : decode cX10_mixSprite 127 = .ok (.i2l, 1) := by decide +kernel
theorem dX10_mixSprite_128 : decode cX10_mixSprite 128 = .ok (.invokestatic 367, 3) := by decide +kernel
theorem dX10_mixSprite_131 : decode cX10_mixSprite 131 = .ok (.lstore 4, 2) := by decide +kernel
theorem dX10_mixSprite_133 : decode cX10_mixSprite 133 = .ok (.lload 4, 2) := by decide +kernel
theorem dX10_mixSprite_135 : decode cX10_mixSprite 135 = .ok (.aload_n 0, 1) := by decide +kernel
theorem dX10_mixSprite_136 : decode cX10_mixSprite 136 = .ok (.iload_n 3, 1) := by decide +kernel
theorem dX10_mixSprite_137 : decode cX10_mixSprite 137 = .ok (.invokevirtual 449, 3) := by decide +kernel
theorem dX10_mixSprite_140 : decode cX10_mixSprite 140 = .ok (.i2l, 1) := by decide +kernel
theorem dX10_mixSprite_141 : decode cX10_mixSprite 141 = .ok (.invokestatic 367, 3) := by decide +kernel
theorem dX10_mixSprite_144 : decode cX10_mixSprite 144 = .ok (.aload_n 0, 1) := by decide +kernel
theorem dX10_mixSprite_145 : decode cX10_mixSprite 145 = .ok (.iload_n 3, 1) := by decide +kernel
theorem dX10_mixSprite_146 : decode cX10_mixSprite 146 = .ok (.invokevirtual 452, 3) := by decide +kernel
theorem dX10_mixSprite_149 : decode cX10_mixSprite 149 = .ok (.i2l, 1) := by decide +kernel
theorem dX10_mixSprite_150 : decode cX10_mixSprite 150 = .ok (.invokestatic 367, 3) := by decide +kernel
theorem dX10_mixSprite_153 : decode cX10_mixSprite 153 = .ok (.lstore 4, 2) := by decide +kernel
theorem dX10_mixSprite_155 : decode cX10_mixSprite 155 = .ok (.lload 4, 2) := by decide +kernel
theorem dX10_mixSprite_157 : decode cX10_mixSprite 157 = .ok (.aload_n 0, 1) := by decide +kernel
theorem dX10_mixSprite_158 : decode cX10_mixSprite 158 = .ok (.iload_n 3, 1) := by decide +kernel
theorem dX10_mixSprite_159 : decode cX10_mixSprite 159 = .ok (.invokevirtual 407, 3) := by decide +kernel
theorem dX10_mixSprite_162 : decode cX10_mixSprite 162 = .ok (.i2l, 1) := by decide +kernel
theorem dX10_mixSprite_163 : decode cX10_mixSprite 163 = .ok (.invokestatic 367, 3) := by decide +kernel
theorem dX10_mixSprite_166 : decode cX10_mixSprite 166 = .ok (.aload_n 0, 1) := by decide +kernel
theorem dX10_mixSprite_167 : decode cX10_mixSprite 167 = .ok (.iload_n 3, 1) := by decide +kernel
theorem dX10_mixSprite_168 : decode cX10_mixSprite 168 = .ok (.invokevirtual 412, 3) := by decide +kernel
theorem dX10_mixSprite_171 : decode cX10_mixSprite 171 = .ok (.i2l, 1) := by decide +kernel
theorem dX10_mixSprite_172 : decode cX10_mixSprite 172 = .ok (.invokestatic 367, 3) := by decide +kernel
theorem dX10_mixSprite_175 : decode cX10_mixSprite 175 = .ok (.aload_n 0, 1) := by decide +kernel
theorem dX10_mixSprite_176 : decode cX10_mixSprite 176 = .ok (.iload_n 3, 1) := by decide +kernel
theorem dX10_mixSprite_177 : decode cX10_mixSprite 177 = .ok (.invokevirtual 415, 3) := by decide +kernel
theorem dX10_mixSprite_180 : decode cX10_mixSprite 180 = .ok (.i2l, 1) := by decide +kernel
theorem dX10_mixSprite_181 : decode cX10_mixSprite 181 = .ok (.invokestatic 367, 3) := by decide +kernel
theorem dX10_mixSprite_184 : decode cX10_mixSprite 184 = .ok (.lstore 4, 2) := by decide +kernel
theorem dX10_mixSprite_186 : decode cX10_mixSprite 186 = .ok (.lload 4, 2) := by decide +kernel
theorem dX10_mixSprite_188 : decode cX10_mixSprite 188 = .ok (.aload_n 0, 1) := by decide +kernel
theorem dX10_mixSprite_189 : decode cX10_mixSprite 189 = .ok (.iload_n 3, 1) := by decide +kernel
theorem dX10_mixSprite_190 : decode cX10_mixSprite 190 = .ok (.invokevirtual 455, 3) := by decide +kernel
theorem dX10_mixSprite_193 : decode cX10_mixSprite 193 = .ok (.i2l, 1) := by decide +kernel
theorem dX10_mixSprite_194 : decode cX10_mixSprite 194 = .ok (.invokestatic 367, 3) := by decide +kernel
theorem dX10_mixSprite_197 : decode cX10_mixSprite 197 = .ok (.aload_n 0, 1) := by decide +kernel
theorem dX10_mixSprite_198 : decode cX10_mixSprite 198 = .ok (.iload_n 3, 1) := by decide +kernel
theorem dX10_mixSprite_199 : decode cX10_mixSprite 199 = .ok (.invokevirtual 422, 3) := by decide +kernel
theorem dX10_mixSprite_202 : decode cX10_mixSprite 202 = .ok (.i2l, 1) := by decide +kernel
theorem dX10_mixSprite_203 : decode cX10_mixSprite 203 = .ok (.invokestatic 367, 3) := by decide +kernel
theorem dX10_mixSprite_206 : decode cX10_mixSprite 206 = .ok (.lreturn, 1) := by decide +kernel
theorem dX10_mixPage_0 : decode cX10_mixPage 0 = .ok (.lload_n 1, 1) := by decide +kernel
theorem dX10_mixPage_1 : decode cX10_mixPage 1 = .ok (.aload_n 0, 1) := by decide +kernel
theorem dX10_mixPage_2 : decode cX10_mixPage 2 = .ok (.iload_n 3, 1) := by decide +kernel
theorem dX10_mixPage_3 : decode cX10_mixPage 3 = .ok (.invokevirtual 458, 3) := by decide +kernel
theorem dX10_mixPage_6 : decode cX10_mixPage 6 = .ok (.i2l, 1) := by decide +kernel
theorem dX10_mixPage_7 : decode cX10_mixPage 7 = .ok (.invokestatic 367, 3) := by decide +kernel
theorem dX10_mixPage_10 : decode cX10_mixPage 10 = .ok (.aload_n 0, 1) := by decide +kernel
theorem dX10_mixPage_11 : decode cX10_mixPage 11 = .ok (.iload_n 3, 1) := by decide +kernel
theorem dX10_mixPage_12 : decode cX10_mixPage 12 = .ok (.invokevirtual 461, 3) := by decide +kernel
theorem dX10_mixPage_15 : decode cX10_mixPage 15 = .ok (.i2l, 1) := by decide +kernel
theorem dX10_mixPage_16 : decode cX10_mixPage 16 = .ok (.invokestatic 367, 3) := by decide +kernel
theorem dX10_mixPage_19 : decode cX10_mixPage 19 = .ok (.lstore 4, 2) := by decide +kernel
theorem dX10_mixPage_21 : decode cX10_mixPage 21 = .ok (.lload 4, 2) := by decide +kernel
theorem dX10_mixPage_23 : decode cX10_mixPage 23 = .ok (.aload_n 0, 1) := by decide +kernel
theorem dX10_mixPage_24 : decode cX10_mixPage 24 = .ok (.iload_n 3, 1) := by decide +kernel
theorem dX10_mixPage_25 : decode cX10_mixPage 25 = .ok (.invokevirtual 464, 3) := by decide +kernel
theorem dX10_mixPage_28 : decode cX10_mixPage 28 = .ok (.i2l, 1) := by decide +kernel
theorem dX10_mixPage_29 : decode cX10_mixPage 29 = .ok (.invokestatic 367, 3) := by decide +kernel
theorem dX10_mixPage_32 : decode cX10_mixPage 32 = .ok (.lstore 4, 2) := by decide +kernel
theorem dX10_mixPage_34 : decode cX10_mixPage 34 = .ok (.iconst 0, 1) := by decide +kernel
theorem dX10_mixPage_35 : decode cX10_mixPage 35 = .ok (.istore 6, 2) := by decide +kernel
theorem dX10_mixPage_37 : decode cX10_mixPage 37 = .ok (.iload 6, 2) := by decide +kernel
theorem dX10_mixPage_39 : decode cX10_mixPage 39 = .ok (.aload_n 0, 1) := by decide +kernel
theorem dX10_mixPage_40 : decode cX10_mixPage 40 = .ok (.getfield 47, 3) := by decide +kernel
theorem dX10_mixPage_43 : decode cX10_mixPage 43 = .ok (.getfield 105, 3) := by decide +kernel
theorem dX10_mixPage_46 : decode cX10_mixPage 46 = .ok (.getfield 170, 3) := by decide +kernel
theorem dX10_mixPage_49 : decode cX10_mixPage 49 = .ok (.if_icmp .ge 53, 3) := by decide +kernel
theorem dX10_mixPage_52 : decode cX10_mixPage 52 = .ok (.iconst 0, 1) := by decide +kernel
theorem dX10_mixPage_53 : decode cX10_mixPage 53 = .ok (.istore 7, 2) := by decide +kernel
theorem dX10_mixPage_55 : decode cX10_mixPage 55 = .ok (.iload 7, 2) := by decide +kernel
theorem dX10_mixPage_57 : decode cX10_mixPage 57 = .ok (.aload_n 0, 1) := by decide +kernel
theorem dX10_mixPage_58 : decode cX10_mixPage 58 = .ok (.getfield 47, 3) := by decide +kernel
theorem dX10_mixPage_61 : decode cX10_mixPage 61 = .ok (.getfield 105, 3) := by decide +kernel
theorem dX10_mixPage_64 : decode cX10_mixPage 64 = .ok (.getfield 165, 3) := by decide +kernel
theorem dX10_mixPage_67 : decode cX10_mixPage 67 = .ok (.if_icmp .ge 29, 3) := by decide +kernel
theorem dX10_mixPage_70 : decode cX10_mixPage 70 = .ok (.lload 4, 2) := by decide +kernel
theorem dX10_mixPage_72 : decode cX10_mixPage 72 = .ok (.aload_n 0, 1) := by decide +kernel
theorem dX10_mixPage_73 : decode cX10_mixPage 73 = .ok (.getfield 62, 3) := by decide +kernel
theorem dX10_mixPage_76 : decode cX10_mixPage 76 = .ok (.iload_n 3, 1) := by decide +kernel
theorem dX10_mixPage_77 : decode cX10_mixPage 77 = .ok (.iload 7, 2) := by decide +kernel
theorem dX10_mixPage_79 : decode cX10_mixPage 79 = .ok (.iload 6, 2) := by decide +kernel
theorem dX10_mixPage_81 : decode cX10_mixPage 81 = .ok (.invokevirtual 265, 3) := by decide +kernel
theorem dX10_mixPage_84 : decode cX10_mixPage 84 = .ok (.i2l, 1) := by decide +kernel
theorem dX10_mixPage_85 : decode cX10_mixPage 85 = .ok (.invokestatic 367, 3) := by decide +kernel
theorem dX10_mixPage_88 : decode cX10_mixPage 88 = .ok (.lstore 4, 2) := by decide +kernel
theorem dX10_mixPage_90 : decode cX10_mixPage 90 = .ok (.iinc 7 1, 3) := by decide +kernel
theorem dX10_mixPage_93 : decode cX10_mixPage 93 = .ok (.goto (-38), 3) := by decide +kernel
theorem dX10_mixPage_96 : decode cX10_mixPage 96 = .ok (.iinc 6 1, 3) := by decide +kernel
theorem dX10_mixPage_99 : decode cX10_mixPage 99 = .ok (.goto (-62), 3) := by decide +kernel
theorem dX10_mixPage_102 : decode cX10_mixPage 102 = .ok (.lload 4, 2) := by decide +kernel
theorem dX10_mixPage_104 : decode cX10_mixPage 104 = .ok (.lreturn, 1) := by decide +kernel
