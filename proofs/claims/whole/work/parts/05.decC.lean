theorem dX8_init_0 : decode cX8_init 0 = .ok (.aload_n 0, 1) := by decide +kernel
theorem dX8_init_1 : decode cX8_init 1 = .ok (.invokespecial 1, 3) := by decide +kernel
theorem dX8_init_4 : decode cX8_init 4 = .ok (.aload_n 0, 1) := by decide +kernel
theorem dX8_init_5 : decode cX8_init 5 = .ok (.sipush 616, 3) := by decide +kernel
theorem dX8_init_8 : decode cX8_init 8 = .ok (.newarray .int, 2) := by decide +kernel
theorem dX8_init_10 : decode cX8_init 10 = .ok (.putfield 7, 3) := by decide +kernel
theorem dX8_init_13 : decode cX8_init 13 = .ok (.aload_n 0, 1) := by decide +kernel
theorem dX8_init_14 : decode cX8_init 14 = .ok (.sipush 4312, 3) := by decide +kernel
theorem dX8_init_17 : decode cX8_init 17 = .ok (.newarray .int, 2) := by decide +kernel
theorem dX8_init_19 : decode cX8_init 19 = .ok (.putfield 13, 3) := by decide +kernel
theorem dX8_init_22 : decode cX8_init 22 = .ok (.aload_n 0, 1) := by decide +kernel
theorem dX8_init_23 : decode cX8_init 23 = .ok (.iconst (-1), 1) := by decide +kernel
theorem dX8_init_24 : decode cX8_init 24 = .ok (.putfield 16, 3) := by decide +kernel
theorem dX8_init_27 : decode cX8_init 27 = .ok (.aload_n 0, 1) := by decide +kernel
theorem dX8_init_28 : decode cX8_init 28 = .ok (.sipush 201, 3) := by decide +kernel
theorem dX8_init_31 : decode cX8_init 31 = .ok (.newarray .int, 2) := by decide +kernel
theorem dX8_init_33 : decode cX8_init 33 = .ok (.putfield 20, 3) := by decide +kernel
theorem dX8_init_36 : decode cX8_init 36 = .ok (.aload_n 0, 1) := by decide +kernel
theorem dX8_init_37 : decode cX8_init 37 = .ok (.bipush 120, 2) := by decide +kernel
theorem dX8_init_39 : decode cX8_init 39 = .ok (.newarray .int, 2) := by decide +kernel
theorem dX8_init_41 : decode cX8_init 41 = .ok (.putfield 23, 3) := by decide +kernel
theorem dX8_init_44 : decode cX8_init 44 = .ok (.aload_n 0, 1) := by decide +kernel
theorem dX8_init_45 : decode cX8_init 45 = .ok (.bipush 24, 2) := by decide +kernel
theorem dX8_init_47 : decode cX8_init 47 = .ok (.newarray .int, 2) := by decide +kernel
theorem dX8_init_49 : decode cX8_init 49 = .ok (.putfield 26, 3) := by decide +kernel
theorem dX8_init_52 : decode cX8_init 52 = .ok (.aload_n 0, 1) := by decide +kernel
theorem dX8_init_53 : decode cX8_init 53 = .ok (.bipush 72, 2) := by decide +kernel
theorem dX8_init_55 : decode cX8_init 55 = .ok (.newarray .int, 2) := by decide +kernel
theorem dX8_init_57 : decode cX8_init 57 = .ok (.putfield 29, 3) := by decide +kernel
theorem dX8_init_60 : decode cX8_init 60 = .ok (.aload_n 0, 1) := by decide +kernel
theorem dX8_init_61 : decode cX8_init 61 = .ok (.getfield 7, 3) := by decide +kernel
theorem dX8_init_64 : decode cX8_init 64 = .ok (.iconst 0, 1) := by decide +kernel
theorem dX8_init_65 : decode cX8_init 65 = .ok (.bipush 100, 2) := by decide +kernel
theorem dX8_init_67 : decode cX8_init 67 = .ok (.iastore, 1) := by decide +kernel
theorem dX8_init_68 : decode cX8_init 68 = .ok (.aload_n 0, 1) := by decide +kernel
theorem dX8_init_69 : decode cX8_init 69 = .ok (.getfield 7, 3) := by decide +kernel
theorem dX8_init_72 : decode cX8_init 72 = .ok (.iconst 1, 1) := by decide +kernel
theorem dX8_init_73 : decode cX8_init 73 = .ok (.bipush 10, 2) := by decide +kernel
theorem dX8_init_75 : decode cX8_init 75 = .ok (.iastore, 1) := by decide +kernel
theorem dX8_init_76 : decode cX8_init 76 = .ok (.aload_n 0, 1) := by decide +kernel
theorem dX8_init_77 : decode cX8_init 77 = .ok (.getfield 7, 3) := by decide +kernel
theorem dX8_init_80 : decode cX8_init 80 = .ok (.iconst 2, 1) := by decide +kernel
theorem dX8_init_81 : decode cX8_init 81 = .ok (.bipush 6, 2) := by decide +kernel
theorem dX8_init_83 : decode cX8_init 83 = .ok (.iastore, 1) := by decide +kernel
theorem dX8_init_84 : decode cX8_init 84 = .ok (.aload_n 0, 1) := by decide +kernel
theorem dX8_init_85 : decode cX8_init 85 = .ok (.getfield 7, 3) := by decide +kernel
theorem dX8_init_88 : decode cX8_init 88 = .ok (.iconst 3, 1) := by decide +kernel
theorem dX8_init_89 : decode cX8_init 89 = .ok (.iconst 1, 1) := by decide +kernel
theorem dX8_init_90 : decode cX8_init 90 = .ok (.iastore, 1) := by decide +kernel
theorem dX8_init_91 : decode cX8_init 91 = .ok (.aload_n 0, 1) := by decide +kernel
theorem dX8_init_92 : decode cX8_init 92 = .ok (.getfield 7, 3) := by decide +kernel
theorem dX8_init_95 : decode cX8_init 95 = .ok (.iconst 4, 1) := by decide +kernel
theorem dX8_init_96 : decode cX8_init 96 = .ok (.bipush 20, 2) := by decide +kernel
theorem dX8_init_98 : decode cX8_init 98 = .ok (.iastore, 1) := by decide +kernel
theorem dX8_init_99 : decode cX8_init 99 = .ok (.aload_n 0, 1) := by decide +kernel
theorem dX8_init_100 : decode cX8_init 100 = .ok (.getfield 7, 3) := by decide +kernel
theorem dX8_init_103 : decode cX8_init 103 = .ok (.iconst 5, 1) := by decide +kernel
theorem dX8_init_104 : decode cX8_init 104 = .ok (.iconst 1, 1) := by decide +kernel
theorem dX8_init_105 : decode cX8_init 105 = .ok (.iastore, 1) := by decide +kernel
theorem dX8_init_106 : decode cX8_init 106 = .ok (.aload_n 0, 1) := by decide +kernel
theorem dX8_init_107 : decode cX8_init 107 = .ok (.getfield 7, 3) := by decide +kernel
theorem dX8_init_110 : decode cX8_init 110 = .ok (.bipush 6, 2) := by decide +kernel
theorem dX8_init_112 : decode cX8_init 112 = .ok (.iconst 3, 1) := by decide +kernel
theorem dX8_init_113 : decode cX8_init 113 = .ok (.iastore, 1) := by decide +kernel
theorem dX8_init_114 : decode cX8_init 114 = .ok (.aload_n 0, 1) := by decide +kernel
theorem dX8_init_115 : decode cX8_init 115 = .ok (.getfield 7, 3) := by decide +kernel
theorem dX8_init_118 : decode cX8_init 118 = .ok (.bipush 7, 2) := by decide +kernel
theorem dX8_init_120 : decode cX8_init 120 = .ok (.iconst 5, 1) := by decide +kernel
theorem dX8_init_121 : decode cX8_init 121 = .ok (.iastore, 1) := by decide +kernel
theorem dX8_init_122 : decode cX8_init 122 = .ok (.iconst 0, 1) := by decide +kernel
theorem dX8_init_123 : decode cX8_init 123 = .ok (.istore_n 1, 1) := by decide +kernel
theorem dX8_init_124 : decode cX8_init 124 = .ok (.iload_n 1, 1) := by decide +kernel
theorem dX8_init_125 : decode cX8_init 125 = .ok (.sipush 200, 3) := by decide +kernel
theorem dX8_init_128 : decode cX8_init 128 = .ok (.if_icmp .ge 22, 3) := by decide +kernel
theorem dX8_init_131 : decode cX8_init 131 = .ok (.aload_n 0, 1) := by decide +kernel
theorem dX8_init_132 : decode cX8_init 132 = .ok (.getfield 7, 3) := by decide +kernel
theorem dX8_init_135 : decode cX8_init 135 = .ok (.bipush 16, 2) := by decide +kernel
theorem dX8_init_137 : decode cX8_init 137 = .ok (.iconst 3, 1) := by decide +kernel
theorem dX8_init_138 : decode cX8_init 138 = .ok (.iload_n 1, 1) := by decide +kernel
theorem dX8_init_139 : decode cX8_init 139 = .ok (.imul, 1) := by decide +kernel
theorem dX8_init_140 : decode cX8_init 140 = .ok (.iadd, 1) := by decide +kernel
theorem dX8_init_141 : decode cX8_init 141 = .ok (.bipush 40, 2) := by decide +kernel
theorem dX8_init_143 : decode cX8_init 143 = .ok (.iastore, 1) := by decide +kernel
theorem dX8_init_144 : decode cX8_init 144 = .ok (.iinc 1 1, 3) := by decide +kernel
theorem dX8_init_147 : decode cX8_init 147 = .ok (.goto (-23), 3) := by decide +kernel
theorem dX8_init_150 : decode cX8_init 150 = .ok (.return_, 1) := by decide +kernel
theorem dX8_in_0 : decode cX8_in 0 = .ok (.iload_n 0, 1) := by decide +kernel
theorem dX8_in_1 : decode cX8_in 1 = .ok (.iload_n 1, 1) := by decide +kernel
theorem dX8_in_2 : decode cX8_in 2 = .ok (.if_icmp .lt 12, 3) := by decide +kernel
theorem dX8_in_5 : decode cX8_in 5 = .ok (.iload_n 0, 1) := by decide +kernel
theorem dX8_in_6 : decode cX8_in 6 = .ok (.iload_n 2, 1) := by decide +kernel
theorem dX8_in_7 : decode cX8_in 7 = .ok (.if_icmp .gt 7, 3) := by decide +kernel
theorem dX8_in_10 : decode cX8_in 10 = .ok (.iconst 1, 1) := by decide +kernel
theorem dX8_in_11 : decode cX8_in 11 = .ok (.goto 4, 3) := by decide +kernel
theorem dX8_in_14 : decode cX8_in 14 = .ok (.iconst 0, 1) := by decide +kernel
theorem dX8_in_15 : decode cX8_in 15 = .ok (.ireturn, 1) := by decide +kernel
theorem dX8_bad_0 : decode cX8_bad 0 = .ok (.aload_n 0, 1) := by decide +kernel
theorem dX8_bad_1 : decode cX8_bad 1 = .ok (.dup, 1) := by decide +kernel
theorem dX8_bad_2 : decode cX8_bad 2 = .ok (.getfield 32, 3) := by decide +kernel
theorem dX8_bad_5 : decode cX8_bad 5 = .ok (.iconst 1, 1) := by decide +kernel
theorem dX8_bad_6 : decode cX8_bad 6 = .ok (.iadd, 1) := by decide +kernel
theorem dX8_bad_7 : decode cX8_bad 7 = .ok (.putfield 32, 3) := by decide +kernel
theorem dX8_bad_10 : decode cX8_bad 10 = .ok (.bipush (-2), 2) := by decide +kernel
theorem dX8_bad_12 : decode cX8_bad 12 = .ok (.ireturn, 1) := by decide +kernel
theorem dX8_no_0 : decode cX8_no 0 = .ok (.aload_n 0, 1) := by decide +kernel
theorem dX8_no_1 : decode cX8_no 1 = .ok (.dup, 1) := by decide +kernel
theorem dX8_no_2 : decode cX8_no 2 = .ok (.getfield 35, 3) := by decide +kernel
theorem dX8_no_5 : decode cX8_no 5 = .ok (.iconst 1, 1) := by decide +kernel
theorem dX8_no_6 : decode cX8_no 6 = .ok (.iadd, 1) := by decide +kernel
theorem dX8_no_7 : decode cX8_no 7 = .ok (.putfield 35, 3) := by decide +kernel
theorem dX8_no_10 : decode cX8_no 10 = .ok (.bipush (-3), 2) := by decide +kernel
theorem dX8_no_12 : decode cX8_no 12 = .ok (.ireturn, 1) := by decide +kernel
theorem dX8_keepTo_0 : decode cX8_keepTo 0 = .ok (.iconst 0, 1) := by decide +kernel
theorem dX8_keepTo_1 : decode cX8_keepTo 1 = .ok (.istore_n 2, 1) := by decide +kernel
theorem dX8_keepTo_2 : decode cX8_keepTo 2 = .ok (.iload_n 2, 1) := by decide +kernel
theorem dX8_keepTo_3 : decode cX8_keepTo 3 = .ok (.sipush 616, 3) := by decide +kernel
theorem dX8_keepTo_6 : decode cX8_keepTo 6 = .ok (.if_icmp .ge 27, 3) := by decide +kernel
theorem dX8_keepTo_9 : decode cX8_keepTo 9 = .ok (.aload_n 0, 1) := by decide +kernel
theorem dX8_keepTo_10 : decode cX8_keepTo 10 = .ok (.getfield 13, 3) := by decide +kernel
theorem dX8_keepTo_13 : decode cX8_keepTo 13 = .ok (.sipush 616, 3) := by decide +kernel
theorem dX8_keepTo_16 : decode cX8_keepTo 16 = .ok (.iload_n 1, 1) := by decide +kernel
theorem dX8_keepTo_17 : decode cX8_keepTo 17 = .ok (.imul, 1) := by decide +kernel
theorem dX8_keepTo_18 : decode cX8_keepTo 18 = .ok (.iload_n 2, 1) := by decide +kernel
theorem dX8_keepTo_19 : decode cX8_keepTo 19 = .ok (.iadd, 1) := by decide +kernel
theorem dX8_keepTo_20 : decode cX8_keepTo 20 = .ok (.aload_n 0, 1) := by decide +kernel
theorem dX8_keepTo_21 : decode cX8_keepTo 21 = .ok (.getfield 7, 3) := by decide +kernel
theorem dX8_keepTo_24 : decode cX8_keepTo 24 = .ok (.iload_n 2, 1) := by decide +kernel
theorem dX8_keepTo_25 : decode cX8_keepTo 25 = .ok (.iaload, 1) := by decide +kernel
theorem dX8_keepTo_26 : decode cX8_keepTo 26 = .ok (.iastore, 1) := by decide +kernel
theorem dX8_keepTo_27 : decode cX8_keepTo 27 = .ok (.iinc 2 1, 3) := by decide +kernel
theorem dX8_keepTo_30 : decode cX8_keepTo 30 = .ok (.goto (-28), 3) := by decide +kernel
theorem dX8_keepTo_33 : decode cX8_keepTo 33 = .ok (.return_, 1) := by decide +kernel
theorem dX8_takeFrom_0 : decode cX8_takeFrom 0 = .ok (.iconst 0, 1) := by decide +kernel
theorem dX8_takeFrom_1 : decode cX8_takeFrom 1 = .ok (.istore_n 2, 1) := by decide +kernel
theorem dX8_takeFrom_2 : decode cX8_takeFrom 2 = .ok (.iload_n 2, 1) := by decide +kernel
theorem dX8_takeFrom_3 : decode cX8_takeFrom 3 = .ok (.sipush 616, 3) := by decide +kernel
theorem dX8_takeFrom_6 : decode cX8_takeFrom 6 = .ok (.if_icmp .ge 27, 3) := by decide +kernel
theorem dX8_takeFrom_9 : decode cX8_takeFrom 9 = .ok (.aload_n 0, 1) := by decide +kernel
theorem dX8_takeFrom_10 : decode cX8_takeFrom 10 = .ok (.getfield 7, 3) := by decide +kernel
theorem dX8_takeFrom_13 : decode cX8_takeFrom 13 = .ok (.iload_n 2, 1) := by decide +kernel
theorem dX8_takeFrom_14 : decode cX8_takeFrom 14 = .ok (.aload_n 0, 1) := by decide +kernel
theorem dX8_takeFrom_15 : decode cX8_takeFrom 15 = .ok (.getfield 13, 3) := by decide +kernel
theorem dX8_takeFrom_18 : decode cX8_takeFrom 18 = .ok (.sipush 616, 3) := by decide +kernel
theorem dX8_takeFrom_21 : decode cX8_takeFrom 21 = .ok (.iload_n 1, 1) := by decide +kernel
theorem dX8_takeFrom_22 : decode cX8_takeFrom 22 = .ok (.imul, 1) := by decide +kernel
theorem dX8_takeFrom_23 : decode cX8_takeFrom 23 = .ok (.iload_n 2, 1) := by decide +kernel
theorem dX8_takeFrom_24 : decode cX8_takeFrom 24 = .ok (.iadd, 1) := by decide +kernel
theorem dX8_takeFrom_25 : decode cX8_takeFrom 25 = .ok (.iaload, 1) := by decide +kernel
theorem dX8_takeFrom_26 : decode cX8_takeFrom 26 = .ok (.iastore, 1) := by decide +kernel
theorem dX8_takeFrom_27 : decode cX8_takeFrom 27 = .ok (.iinc 2 1, 3) := by decide +kernel
theorem dX8_takeFrom_30 : decode cX8_takeFrom 30 = .ok (.goto (-28), 3) := by decide +kernel
theorem dX8_takeFrom_33 : decode cX8_takeFrom 33 = .ok (.return_, 1) := by decide +kernel
theorem dX8_notes_0 : decode cX8_notes 0 = .ok (.aload_n 0, 1) := by decide +kernel
theorem dX8_notes_1 : decode cX8_notes 1 = .ok (.getfield 38, 3) := by decide +kernel
theorem dX8_notes_4 : decode cX8_notes 4 = .ok (.bipush 6, 2) := by decide +kernel
theorem dX8_notes_6 : decode cX8_notes 6 = .ok (.if_icmp .ne 44, 3) := by decide +kernel
theorem dX8_notes_9 : decode cX8_notes 9 = .ok (.iconst 0, 1) := by decide +kernel
theorem dX8_notes_10 : decode cX8_notes 10 = .ok (.istore_n 1, 1) := by decide +kernel
theorem dX8_notes_11 : decode cX8_notes 11 = .ok (.iload_n 1, 1) := by decide +kernel
theorem dX8_notes_12 : decode cX8_notes 12 = .ok (.sipush 3080, 3) := by decide +kernel
theorem dX8_notes_15 : decode cX8_notes 15 = .ok (.if_icmp .ge 25, 3) := by decide +kernel
theorem dX8_notes_18 : decode cX8_notes 18 = .ok (.aload_n 0, 1) := by decide +kernel
theorem dX8_notes_19 : decode cX8_notes 19 = .ok (.getfield 13, 3) := by decide +kernel
theorem dX8_notes_22 : decode cX8_notes 22 = .ok (.iload_n 1, 1) := by decide +kernel
theorem dX8_notes_23 : decode cX8_notes 23 = .ok (.aload_n 0, 1) := by decide +kernel
theorem dX8_notes_24 : decode cX8_notes 24 = .ok (.getfield 13, 3) := by decide +kernel
theorem dX8_notes_27 : decode cX8_notes 27 = .ok (.iload_n 1, 1) := by decide +kernel
theorem dX8_notes_28 : decode cX8_notes 28 = .ok (.sipush 616, 3) := by decide +kernel
theorem dX8_notes_31 : decode cX8_notes 31 = .ok (.iadd, 1) := by decide +kernel
theorem dX8_notes_32 : decode cX8_notes 32 = .ok (.iaload, 1) := by decide +kernel
theorem dX8_notes_33 : decode cX8_notes 33 = .ok (.iastore, 1) := by decide +kernel
theorem dX8_notes_34 : decode cX8_notes 34 = .ok (.iinc 1 1, 3) := by decide +kernel
theorem dX8_notes_37 : decode cX8_notes 37 = .ok (.goto (-26), 3) := by decide +kernel
theorem dX8_notes_40 : decode cX8_notes 40 = .ok (.aload_n 0, 1) := by decide +kernel
theorem dX8_notes_41 : decode cX8_notes 41 = .ok (.dup, 1) := by decide +kernel
theorem dX8_notes_42 : decode cX8_notes 42 = .ok (.getfield 38, 3) := by decide +kernel
theorem dX8_notes_45 : decode cX8_notes 45 = .ok (.iconst 1, 1) := by decide +kernel
theorem dX8_notes_46 : decode cX8_notes 46 = .ok (.isub, 1) := by decide +kernel
theorem dX8_notes_47 : decode cX8_notes 47 = .ok (.putfield 38, 3) := by decide +kernel
theorem dX8_notes_50 : decode cX8_notes 50 = .ok (.aload_n 0, 1) := by decide +kernel
theorem dX8_notes_51 : decode cX8_notes 51 = .ok (.aload_n 0, 1) := by decide +kernel
theorem dX8_notes_52 : decode cX8_notes 52 = .ok (.getfield 38, 3) := by decide +kernel
theorem dX8_notes_55 : decode cX8_notes 55 = .ok (.invokevirtual 41, 3) := by decide +kernel
theorem dX8_notes_58 : decode cX8_notes 58 = .ok (.aload_n 0, 1) := by decide +kernel
theorem dX8_notes_59 : decode cX8_notes 59 = .ok (.dup, 1) := by decide +kernel
theorem dX8_notes_60 : decode cX8_notes 60 = .ok (.getfield 38, 3) := by decide +kernel
theorem dX8_notes_63 : decode cX8_notes 63 = .ok (.iconst 1, 1) := by decide +kernel
theorem dX8_notes_64 : decode cX8_notes 64 = .ok (.iadd, 1) := by decide +kernel
theorem dX8_notes_65 : decode cX8_notes 65 = .ok (.putfield 38, 3) := by decide +kernel
theorem dX8_notes_68 : decode cX8_notes 68 = .ok (.return_, 1) := by decide +kernel
theorem dX8_isCell_0 : decode cX8_isCell 0 = .ok (.iload_n 1, 1) := by decide +kernel
theorem dX8_isCell_1 : decode cX8_isCell 1 = .ok (.iconst 0, 1) := by decide +kernel
theorem dX8_isCell_2 : decode cX8_isCell 2 = .ok (.aload_n 0, 1) := by decide +kernel
theorem dX8_isCell_3 : decode cX8_isCell 3 = .ok (.getfield 7, 3) := by decide +kernel
theorem dX8_isCell_6 : decode cX8_isCell 6 = .ok (.iconst 0, 1) := by decide +kernel
theorem dX8_isCell_7 : decode cX8_isCell 7 = .ok (.iaload, 1) := by decide +kernel
theorem dX8_isCell_8 : decode cX8_isCell 8 = .ok (.iconst 1, 1) := by decide +kernel
theorem dX8_isCell_9 : decode cX8_isCell 9 = .ok (.isub, 1) := by decide +kernel
theorem dX8_isCell_10 : decode cX8_isCell 10 = .ok (.invokestatic 45, 3) := by decide +kernel
theorem dX8_isCell_13 : decode cX8_isCell 13 = .ok (.ireturn, 1) := by decide +kernel
theorem dX8_ceiling_0 : decode cX8_ceiling 0 = .ok (.aload_n 0, 1) := by decide +kernel
theorem dX8_ceiling_1 : decode cX8_ceiling 1 = .ok (.getfield 7, 3) := by decide +kernel
theorem dX8_ceiling_4 : decode cX8_ceiling 4 = .ok (.bipush 16, 2) := by decide +kernel
theorem dX8_ceiling_6 : decode cX8_ceiling 6 = .ok (.iconst 3, 1) := by decide +kernel
theorem dX8_ceiling_7 : decode cX8_ceiling 7 = .ok (.iload_n 1, 1) := by decide +kernel
theorem dX8_ceiling_8 : decode cX8_ceiling 8 = .ok (.imul, 1) := by decide +kernel
theorem dX8_ceiling_9 : decode cX8_ceiling 9 = .ok (.iadd, 1) := by decide +kernel
theorem dX8_ceiling_10 : decode cX8_ceiling 10 = .ok (.iaload, 1) := by decide +kernel
theorem dX8_ceiling_11 : decode cX8_ceiling 11 = .ok (.ireturn, 1) := by decide +kernel
theorem dX8_grade_0 : decode cX8_grade 0 = .ok (.aload_n 0, 1) := by decide +kernel
theorem dX8_grade_1 : decode cX8_grade 1 = .ok (.getfield 7, 3) := by decide +kernel
theorem dX8_grade_4 : decode cX8_grade 4 = .ok (.bipush 16, 2) := by decide +kernel
theorem dX8_grade_6 : decode cX8_grade 6 = .ok (.iconst 3, 1) := by decide +kernel
theorem dX8_grade_7 : decode cX8_grade 7 = .ok (.iload_n 1, 1) := by decide +kernel
theorem dX8_grade_8 : decode cX8_grade 8 = .ok (.imul, 1) := by decide +kernel
theorem dX8_grade_9 : decode cX8_grade 9 = .ok (.iadd, 1) := by decide +kernel
theorem dX8_grade_10 : decode cX8_grade 10 = .ok (.iconst 1, 1) := by decide +kernel
theorem dX8_grade_11 : decode cX8_grade 11 = .ok (.iadd, 1) := by decide +kernel
theorem dX8_grade_12 : decode cX8_grade 12 = .ok (.iaload, 1) := by decide +kernel
theorem dX8_grade_13 : decode cX8_grade 13 = .ok (.ireturn, 1) := by decide +kernel
theorem dX8_decel_0 : decode cX8_decel 0 = .ok (.aload_n 0, 1) := by decide +kernel
theorem dX8_decel_1 : decode cX8_decel 1 = .ok (.getfield 7, 3) := by decide +kernel
theorem dX8_decel_4 : decode cX8_decel 4 = .ok (.iconst 1, 1) := by decide +kernel
theorem dX8_decel_5 : decode cX8_decel 5 = .ok (.iaload, 1) := by decide +kernel
theorem dX8_decel_6 : decode cX8_decel 6 = .ok (.aload_n 0, 1) := by decide +kernel
theorem dX8_decel_7 : decode cX8_decel 7 = .ok (.iload_n 1, 1) := by decide +kernel
theorem dX8_decel_8 : decode cX8_decel 8 = .ok (.invokevirtual 49, 3) := by decide +kernel
theorem dX8_decel_11 : decode cX8_decel 11 = .ok (.iadd, 1) := by decide +kernel
theorem dX8_decel_12 : decode cX8_decel 12 = .ok (.istore_n 2, 1) := by decide +kernel
theorem dX8_decel_13 : decode cX8_decel 13 = .ok (.iload_n 2, 1) := by decide +kernel
theorem dX8_decel_14 : decode cX8_decel 14 = .ok (.iconst 1, 1) := by decide +kernel
theorem dX8_decel_15 : decode cX8_decel 15 = .ok (.if_icmp .ge 7, 3) := by decide +kernel
theorem dX8_decel_18 : decode cX8_decel 18 = .ok (.iconst 1, 1) := by decide +kernel
theorem dX8_decel_19 : decode cX8_decel 19 = .ok (.goto 4, 3) := by decide +kernel
theorem dX8_decel_22 : decode cX8_decel 22 = .ok (.iload_n 2, 1) := by decide +kernel
theorem dX8_decel_23 : decode cX8_decel 23 = .ok (.ireturn, 1) := by decide +kernel
theorem dX8_inForce_0 : decode cX8_inForce 0 = .ok (.aload_n 0, 1) := by decide +kernel
theorem dX8_inForce_1 : decode cX8_inForce 1 = .ok (.iload_n 1, 1) := by decide +kernel
theorem dX8_inForce_2 : decode cX8_inForce 2 = .ok (.invokevirtual 53, 3) := by decide +kernel
theorem dX8_inForce_5 : decode cX8_inForce 5 = .ok (.istore_n 2, 1) := by decide +kernel
theorem dX8_inForce_6 : decode cX8_inForce 6 = .ok (.iload_n 1, 1) := by decide +kernel
theorem dX8_inForce_7 : decode cX8_inForce 7 = .ok (.aload_n 0, 1) := by decide +kernel
theorem dX8_inForce_8 : decode cX8_inForce 8 = .ok (.getfield 7, 3) := by decide +kernel
theorem dX8_inForce_11 : decode cX8_inForce 11 = .ok (.iconst 3, 1) := by decide +kernel
theorem dX8_inForce_12 : decode cX8_inForce 12 = .ok (.iaload, 1) := by decide +kernel
theorem dX8_inForce_13 : decode cX8_inForce 13 = .ok (.isub, 1) := by decide +kernel
theorem dX8_inForce_14 : decode cX8_inForce 14 = .ok (.iconst 1, 1) := by decide +kernel
theorem dX8_inForce_15 : decode cX8_inForce 15 = .ok (.iadd, 1) := by decide +kernel
theorem dX8_inForce_16 : decode cX8_inForce 16 = .ok (.istore_n 3, 1) := by decide +kernel
theorem dX8_inForce_17 : decode cX8_inForce 17 = .ok (.iload_n 3, 1) := by decide +kernel
theorem dX8_inForce_18 : decode cX8_inForce 18 = .ok (.iload_n 1, 1) := by decide +kernel
theorem dX8_inForce_19 : decode cX8_inForce 19 = .ok (.if_icmp .ge 32, 3) := by decide +kernel
theorem dX8_inForce_22 : decode cX8_inForce 22 = .ok (.iload_n 3, 1) := by decide +kernel
theorem dX8_inForce_23 : decode cX8_inForce 23 = .ok (.ifCond .lt 20, 3) := by decide +kernel
theorem dX8_inForce_26 : decode cX8_inForce 26 = .ok (.aload_n 0, 1) := by decide +kernel
theorem dX8_inForce_27 : decode cX8_inForce 27 = .ok (.iload_n 3, 1) := by decide +kernel
theorem dX8_inForce_28 : decode cX8_inForce 28 = .ok (.invokevirtual 53, 3) := by decide +kernel
theorem dX8_inForce_31 : decode cX8_inForce 31 = .ok (.iload_n 2, 1) := by decide +kernel
theorem dX8_inForce_32 : decode cX8_inForce 32 = .ok (.if_icmp .ge 11, 3) := by decide +kernel
theorem dX8_inForce_35 : decode cX8_inForce 35 = .ok (.aload_n 0, 1) := by decide +kernel
theorem dX8_inForce_36 : decode cX8_inForce 36 = .ok (.iload_n 3, 1) := by decide +kernel
theorem dX8_inForce_37 : decode cX8_inForce 37 = .ok (.invokevirtual 53, 3) := by decide +kernel
theorem dX8_inForce_40 : decode cX8_inForce 40 = .ok (.goto 4, 3) := by decide +kernel
theorem dX8_inForce_43 : decode cX8_inForce 43 = .ok (.iload_n 2, 1) := by decide +kernel
theorem dX8_inForce_44 : decode cX8_inForce 44 = .ok (.istore_n 2, 1) := by decide +kernel
theorem dX8_inForce_45 : decode cX8_inForce 45 = .ok (.iinc 3 1, 3) := by decide +kernel
theorem dX8_inForce_48 : decode cX8_inForce 48 = .ok (.goto (-31), 3) := by decide +kernel
theorem dX8_inForce_51 : decode cX8_inForce 51 = .ok (.iload_n 2, 1) := by decide +kernel
theorem dX8_inForce_52 : decode cX8_inForce 52 = .ok (.ireturn, 1) := by decide +kernel
theorem dX8_mayLengthen_0 : decode cX8_mayLengthen 0 = .ok (.iload_n 1, 1) := by decide +kernel
theorem dX8_mayLengthen_1 : decode cX8_mayLengthen 1 = .ok (.iconst 5, 1) := by decide +kernel
theorem dX8_mayLengthen_2 : decode cX8_mayLengthen 2 = .ok (.sipush 200, 3) := by decide +kernel
theorem dX8_mayLengthen_5 : decode cX8_mayLengthen 5 = .ok (.invokestatic 45, 3) := by decide +kernel
theorem dX8_mayLengthen_8 : decode cX8_mayLengthen 8 = .ok (.ireturn, 1) := by decide +kernel
theorem dX8_lengthen_0 : decode cX8_lengthen 0 = .ok (.aload_n 0, 1) := by decide +kernel
theorem dX8_lengthen_1 : decode cX8_lengthen 1 = .ok (.getfield 7, 3) := by decide +kernel
theorem dX8_lengthen_4 : decode cX8_lengthen 4 = .ok (.iconst 0, 1) := by decide +kernel
theorem dX8_lengthen_5 : decode cX8_lengthen 5 = .ok (.iaload, 1) := by decide +kernel
theorem dX8_lengthen_6 : decode cX8_lengthen 6 = .ok (.istore_n 2, 1) := by decide +kernel
theorem dX8_lengthen_7 : decode cX8_lengthen 7 = .ok (.iload_n 2, 1) := by decide +kernel
theorem dX8_lengthen_8 : decode cX8_lengthen 8 = .ok (.istore_n 3, 1) := by decide +kernel
theorem dX8_lengthen_9 : decode cX8_lengthen 9 = .ok (.iload_n 3, 1) := by decide +kernel
theorem dX8_lengthen_10 : decode cX8_lengthen 10 = .ok (.iload_n 1, 1) := by decide +kernel
theorem dX8_lengthen_11 : decode cX8_lengthen 11 = .ok (.if_icmp .ge 50, 3) := by decide +kernel
theorem dX8_lengthen_14 : decode cX8_lengthen 14 = .ok (.aload_n 0, 1) := by decide +kernel
theorem dX8_lengthen_15 : decode cX8_lengthen 15 = .ok (.getfield 7, 3) := by decide +kernel
theorem dX8_lengthen_18 : decode cX8_lengthen 18 = .ok (.bipush 16, 2) := by decide +kernel
theorem dX8_lengthen_20 : decode cX8_lengthen 20 = .ok (.iconst 3, 1) := by decide +kernel
theorem dX8_lengthen_21 : decode cX8_lengthen 21 = .ok (.iload_n 3, 1) := by decide +kernel
theorem dX8_lengthen_22 : decode cX8_lengthen 22 = .ok (.imul, 1) := by decide +kernel
theorem dX8_lengthen_23 : decode cX8_lengthen 23 = .ok (.iadd, 1) := by decide +kernel
theorem dX8_lengthen_24 : decode cX8_lengthen 24 = .ok (.bipush 40, 2) := by decide +kernel
theorem dX8_lengthen_26 : decode cX8_lengthen 26 = .ok (.iastore, 1) := by decide +kernel
theorem dX8_lengthen_27 : decode cX8_lengthen 27 = .ok (.aload_n 0, 1) := by decide +kernel
theorem dX8_lengthen_28 : decode cX8_lengthen 28 = .ok (.getfield 7, 3) := by decide +kernel
theorem dX8_lengthen_31 : decode cX8_lengthen 31 = .ok (.bipush 16, 2) := by decide +kernel
theorem dX8_lengthen_33 : decode cX8_lengthen 33 = .ok (.iconst 3, 1) := by decide +kernel
theorem dX8_lengthen_34 : decode cX8_lengthen 34 = .ok (.iload_n 3, 1) := by decide +kernel
theorem dX8_lengthen_35 : decode cX8_lengthen 35 = .ok (.imul, 1) := by decide +kernel
theorem dX8_lengthen_36 : decode cX8_lengthen 36 = .ok (.iadd, 1) := by decide +kernel
theorem dX8_lengthen_37 : decode cX8_lengthen 37 = .ok (.iconst 1, 1) := by decide +kernel
theorem dX8_lengthen_38 : decode cX8_lengthen 38 = .ok (.iadd, 1) := by decide +kernel
theorem dX8_lengthen_39 : decode cX8_lengthen 39 = .ok (.iconst 0, 1) := by decide +kernel
theorem dX8_lengthen_40 : decode cX8_lengthen 40 = .ok (.iastore, 1) := by decide +kernel
theorem dX8_lengthen_41 : decode cX8_lengthen 41 = .ok (.aload_n 0, 1) := by decide +kernel
theorem dX8_lengthen_42 : decode cX8_lengthen 42 = .ok (.getfield 7, 3) := by decide +kernel
theorem dX8_lengthen_45 : decode cX8_lengthen 45 = .ok (.bipush 16, 2) := by decide +kernel
theorem dX8_lengthen_47 : decode cX8_lengthen 47 = .ok (.iconst 3, 1) := by decide +kernel
theorem dX8_lengthen_48 : decode cX8_lengthen 48 = .ok (.iload_n 3, 1) := by decide +kernel
theorem dX8_lengthen_49 : decode cX8_lengthen 49 = .ok (.imul, 1) := by decide +kernel
theorem dX8_lengthen_50 : decode cX8_lengthen 50 = .ok (.iadd, 1) := by decide +kernel
theorem dX8_lengthen_51 : decode cX8_lengthen 51 = .ok (.iconst 2, 1) := by decide +kernel
theorem dX8_lengthen_52 : decode cX8_lengthen 52 = .ok (.iadd, 1) := by decide +kernel
theorem dX8_lengthen_53 : decode cX8_lengthen 53 = .ok (.iconst 0, 1) := by decide +kernel
theorem dX8_lengthen_54 : decode cX8_lengthen 54 = .ok (.iastore, 1) := by decide +kernel
theorem dX8_lengthen_55 : decode cX8_lengthen 55 = .ok (.iinc 3 1, 3) := by decide +kernel
theorem dX8_lengthen_58 : decode cX8_lengthen 58 = .ok (.goto (-49), 3) := by decide +kernel
theorem dX8_lengthen_61 : decode cX8_lengthen 61 = .ok (.aload_n 0, 1) := by decide +kernel
theorem dX8_lengthen_62 : decode cX8_lengthen 62 = .ok (.getfield 7, 3) := by decide +kernel
theorem dX8_lengthen_65 : decode cX8_lengthen 65 = .ok (.iconst 0, 1) := by decide +kernel
theorem dX8_lengthen_66 : decode cX8_lengthen 66 = .ok (.iload_n 1, 1) := by decide +kernel
theorem dX8_lengthen_67 : decode cX8_lengthen 67 = .ok (.iastore, 1) := by decide +kernel
theorem dX8_lengthen_68 : decode cX8_lengthen 68 = .ok (.aload_n 0, 1) := by decide +kernel
theorem dX8_lengthen_69 : decode cX8_lengthen 69 = .ok (.getfield 7, 3) := by decide +kernel
theorem dX8_lengthen_72 : decode cX8_lengthen 72 = .ok (.bipush 8, 2) := by decide +kernel
theorem dX8_lengthen_74 : decode cX8_lengthen 74 = .ok (.iconst 0, 1) := by decide +kernel
theorem dX8_lengthen_75 : decode cX8_lengthen 75 = .ok (.iastore, 1) := by decide +kernel
theorem dX8_lengthen_76 : decode cX8_lengthen 76 = .ok (.aload_n 0, 1) := by decide +kernel
theorem dX8_lengthen_77 : decode cX8_lengthen 77 = .ok (.getfield 7, 3) := by decide +kernel
theorem dX8_lengthen_80 : decode cX8_lengthen 80 = .ok (.bipush 9, 2) := by decide +kernel
theorem dX8_lengthen_82 : decode cX8_lengthen 82 = .ok (.iconst 0, 1) := by decide +kernel
theorem dX8_lengthen_83 : decode cX8_lengthen 83 = .ok (.iastore, 1) := by decide +kernel
theorem dX8_lengthen_84 : decode cX8_lengthen 84 = .ok (.aload_n 0, 1) := by decide +kernel
theorem dX8_lengthen_85 : decode cX8_lengthen 85 = .ok (.getfield 7, 3) := by decide +kernel
theorem dX8_lengthen_88 : decode cX8_lengthen 88 = .ok (.bipush 10, 2) := by decide +kernel
theorem dX8_lengthen_90 : decode cX8_lengthen 90 = .ok (.iconst 0, 1) := by decide +kernel
theorem dX8_lengthen_91 : decode cX8_lengthen 91 = .ok (.iastore, 1) := by decide +kernel
theorem dX8_lengthen_92 : decode cX8_lengthen 92 = .ok (.aload_n 0, 1) := by decide +kernel
theorem dX8_lengthen_93 : decode cX8_lengthen 93 = .ok (.getfield 7, 3) := by decide +kernel
theorem dX8_lengthen_96 : decode cX8_lengthen 96 = .ok (.bipush 11, 2) := by decide +kernel
theorem dX8_lengthen_98 : decode cX8_lengthen 98 = .ok (.iconst 0, 1) := by decide +kernel
theorem dX8_lengthen_99 : decode cX8_lengthen 99 = .ok (.iastore, 1) := by decide +kernel
theorem dX8_lengthen_100 : decode cX8_lengthen 100 = .ok (.aload_n 0, 1) := by decide +kernel
theorem dX8_lengthen_101 : decode cX8_lengthen 101 = .ok (.getfield 7, 3) := by decide +kernel
theorem dX8_lengthen_104 : decode cX8_lengthen 104 = .ok (.bipush 12, 2) := by decide +kernel
theorem dX8_lengthen_106 : decode cX8_lengthen 106 = .ok (.iconst 0, 1) := by decide +kernel
theorem dX8_lengthen_107 : decode cX8_lengthen 107 = .ok (.iastore, 1) := by decide +kernel
theorem dX8_lengthen_108 : decode cX8_lengthen 108 = .ok (.iload_n 2, 1) := by decide +kernel
theorem dX8_lengthen_109 : decode cX8_lengthen 109 = .ok (.ireturn, 1) := by decide +kernel
theorem dX8_lengthens_0 : decode cX8_lengthens 0 = .ok (.aload_n 0, 1) := by decide +kernel
theorem dX8_lengthens_1 : decode cX8_lengthens 1 = .ok (.iload_n 1, 1) := by decide +kernel
theorem dX8_lengthens_2 : decode cX8_lengthens 2 = .ok (.invokevirtual 56, 3) := by decide +kernel
theorem dX8_lengthens_5 : decode cX8_lengthens 5 = .ok (.ifCond .ne 8, 3) := by decide +kernel
theorem dX8_lengthens_8 : decode cX8_lengthens 8 = .ok (.aload_n 0, 1) := by decide +kernel
theorem dX8_lengthens_9 : decode cX8_lengthens 9 = .ok (.invokevirtual 60, 3) := by decide +kernel
theorem dX8_lengthens_12 : decode cX8_lengthens 12 = .ok (.ireturn, 1) := by decide +kernel
theorem dX8_lengthens_13 : decode cX8_lengthens 13 = .ok (.aload_n 0, 1) := by decide +kernel
theorem dX8_lengthens_14 : decode cX8_lengthens 14 = .ok (.invokevirtual 64, 3) := by decide +kernel
theorem dX8_lengthens_17 : decode cX8_lengthens 17 = .ok (.aload_n 0, 1) := by decide +kernel
theorem dX8_lengthens_18 : decode cX8_lengthens 18 = .ok (.iload_n 1, 1) := by decide +kernel
theorem dX8_lengthens_19 : decode cX8_lengthens 19 = .ok (.invokevirtual 67, 3) := by decide +kernel
theorem dX8_lengthens_22 : decode cX8_lengthens 22 = .ok (.ireturn, 1) := by decide +kernel
theorem dX8_mayLay_0 : decode cX8_mayLay 0 = .ok (.iload_n 1, 1) := by decide +kernel
theorem dX8_mayLay_1 : decode cX8_mayLay 1 = .ok (.ifCond .ne 14, 3) := by decide +kernel
theorem dX8_mayLay_4 : decode cX8_mayLay 4 = .ok (.iload 4, 2) := by decide +kernel
theorem dX8_mayLay_6 : decode cX8_mayLay 6 = .ok (.iconst 0, 1) := by decide +kernel
theorem dX8_mayLay_7 : decode cX8_mayLay 7 = .ok (.bipush 60, 2) := by decide +kernel
theorem dX8_mayLay_9 : decode cX8_mayLay 9 = .ok (.invokestatic 45, 3) := by decide +kernel
theorem dX8_mayLay_12 : decode cX8_mayLay 12 = .ok (.goto 12, 3) := by decide +kernel
theorem dX8_mayLay_15 : decode cX8_mayLay 15 = .ok (.iload 4, 2) := by decide +kernel
theorem dX8_mayLay_17 : decode cX8_mayLay 17 = .ok (.bipush (-20), 2) := by decide +kernel
theorem dX8_mayLay_19 : decode cX8_mayLay 19 = .ok (.bipush 20, 2) := by decide +kernel
theorem dX8_mayLay_21 : decode cX8_mayLay 21 = .ok (.invokestatic 45, 3) := by decide +kernel
theorem dX8_mayLay_24 : decode cX8_mayLay 24 = .ok (.istore 5, 2) := by decide +kernel
theorem dX8_mayLay_26 : decode cX8_mayLay 26 = .ok (.iload_n 1, 1) := by decide +kernel
theorem dX8_mayLay_27 : decode cX8_mayLay 27 = .ok (.iconst 0, 1) := by decide +kernel
theorem dX8_mayLay_28 : decode cX8_mayLay 28 = .ok (.iconst 1, 1) := by decide +kernel
theorem dX8_mayLay_29 : decode cX8_mayLay 29 = .ok (.invokestatic 45, 3) := by decide +kernel
theorem dX8_mayLay_32 : decode cX8_mayLay 32 = .ok (.ifCond .eq 33, 3) := by decide +kernel
theorem dX8_mayLay_35 : decode cX8_mayLay 35 = .ok (.aload_n 0, 1) := by decide +kernel
theorem dX8_mayLay_36 : decode cX8_mayLay 36 = .ok (.iload_n 2, 1) := by decide +kernel
theorem dX8_mayLay_37 : decode cX8_mayLay 37 = .ok (.invokevirtual 70, 3) := by decide +kernel
theorem dX8_mayLay_40 : decode cX8_mayLay 40 = .ok (.ifCond .eq 25, 3) := by decide +kernel
theorem dX8_mayLay_43 : decode cX8_mayLay 43 = .ok (.aload_n 0, 1) := by decide +kernel
theorem dX8_mayLay_44 : decode cX8_mayLay 44 = .ok (.iload_n 3, 1) := by decide +kernel
theorem dX8_mayLay_45 : decode cX8_mayLay 45 = .ok (.invokevirtual 70, 3) := by decide +kernel
theorem dX8_mayLay_48 : decode cX8_mayLay 48 = .ok (.ifCond .eq 17, 3) := by decide +kernel
theorem dX8_mayLay_51 : decode cX8_mayLay 51 = .ok (.iload_n 2, 1) := by decide +kernel
theorem dX8_mayLay_52 : decode cX8_mayLay 52 = .ok (.iload_n 3, 1) := by decide +kernel
theorem dX8_mayLay_53 : decode cX8_mayLay 53 = .ok (.if_icmp .gt 12, 3) := by decide +kernel
theorem dX8_mayLay_56 : decode cX8_mayLay 56 = .ok (.iload 5, 2) := by decide +kernel
theorem dX8_mayLay_58 : decode cX8_mayLay 58 = .ok (.ifCond .eq 7, 3) := by decide +kernel
theorem dX8_mayLay_61 : decode cX8_mayLay 61 = .ok (.iconst 1, 1) := by decide +kernel
theorem dX8_mayLay_62 : decode cX8_mayLay 62 = .ok (.goto 4, 3) := by decide +kernel
theorem dX8_mayLay_65 : decode cX8_mayLay 65 = .ok (.iconst 0, 1) := by decide +kernel
theorem dX8_mayLay_66 : decode cX8_mayLay 66 = .ok (.ireturn, 1) := by decide +kernel
theorem dX8_lay_0 : decode cX8_lay 0 = .ok (.iconst 0, 1) := by decide +kernel
theorem dX8_lay_1 : decode cX8_lay 1 = .ok (.istore 5, 2) := by decide +kernel
theorem dX8_lay_3 : decode cX8_lay 3 = .ok (.iload_n 2, 1) := by decide +kernel
theorem dX8_lay_4 : decode cX8_lay 4 = .ok (.istore 6, 2) := by decide +kernel
theorem dX8_lay_6 : decode cX8_lay 6 = .ok (.iload 6, 2) := by decide +kernel
theorem dX8_lay_8 : decode cX8_lay 8 = .ok (.iload_n 3, 1) := by decide +kernel
theorem dX8_lay_9 : decode cX8_lay 9 = .ok (.if_icmp .gt 54, 3) := by decide +kernel
theorem dX8_lay_12 : decode cX8_lay 12 = .ok (.iload 5, 2) := by decide +kernel
theorem dX8_lay_14 : decode cX8_lay 14 = .ok (.aload_n 0, 1) := by decide +kernel
theorem dX8_lay_15 : decode cX8_lay 15 = .ok (.getfield 7, 3) := by decide +kernel
theorem dX8_lay_18 : decode cX8_lay 18 = .ok (.bipush 16, 2) := by decide +kernel
theorem dX8_lay_20 : decode cX8_lay 20 = .ok (.iconst 3, 1) := by decide +kernel
theorem dX8_lay_21 : decode cX8_lay 21 = .ok (.iload 6, 2) := by decide +kernel
theorem dX8_lay_23 : decode cX8_lay 23 = .ok (.imul, 1) := by decide +kernel
theorem dX8_lay_24 : decode cX8_lay 24 = .ok (.iadd, 1) := by decide +kernel
theorem dX8_lay_25 : decode cX8_lay 25 = .ok (.iload_n 1, 1) := by decide +kernel
theorem dX8_lay_26 : decode cX8_lay 26 = .ok (.iadd, 1) := by decide +kernel
theorem dX8_lay_27 : decode cX8_lay 27 = .ok (.iaload, 1) := by decide +kernel
theorem dX8_lay_28 : decode cX8_lay 28 = .ok (.iload 4, 2) := by decide +kernel
theorem dX8_lay_30 : decode cX8_lay 30 = .ok (.if_icmp .ne 7, 3) := by decide +kernel
theorem dX8_lay_33 : decode cX8_lay 33 = .ok (.iconst 0, 1) := by decide +kernel
theorem dX8_lay_34 : decode cX8_lay 34 = .ok (.goto 4, 3) := by decide +kernel
theorem dX8_lay_37 : decode cX8_lay 37 = .ok (.iconst 1, 1) := by decide +kernel
theorem dX8_lay_38 : decode cX8_lay 38 = .ok (.iadd, 1) := by decide +kernel
theorem dX8_lay_39 : decode cX8_lay 39 = .ok (.istore 5, 2) := by decide +kernel
theorem dX8_lay_41 : decode cX8_lay 41 = .ok (.aload_n 0, 1) := by decide +kernel
theorem dX8_lay_42 : decode cX8_lay 42 = .ok (.getfield 7, 3) := by decide +kernel
theorem dX8_lay_45 : decode cX8_lay 45 = .ok (.bipush 16, 2) := by decide +kernel
theorem dX8_lay_47 : decode cX8_lay 47 = .ok (.iconst 3, 1) := by decide +kernel
theorem dX8_lay_48 : decode cX8_lay 48 = .ok (.iload 6, 2) := by decide +kernel
theorem dX8_lay_50 : decode cX8_lay 50 = .ok (.imul, 1) := by decide +kernel
theorem dX8_lay_51 : decode cX8_lay 51 = .ok (.iadd, 1) := by decide +kernel
theorem dX8_lay_52 : decode cX8_lay 52 = .ok (.iload_n 1, 1) := by decide +kernel
theorem dX8_lay_53 : decode cX8_lay 53 = .ok (.iadd, 1) := by decide +kernel
theorem dX8_lay_54 : decode cX8_lay 54 = .ok (.iload 4, 2) := by decide +kernel
theorem dX8_lay_56 : decode cX8_lay 56 = .ok (.iastore, 1) := by decide +kernel
theorem dX8_lay_57 : decode cX8_lay 57 = .ok (.iinc 6 1, 3) := by decide +kernel
theorem dX8_lay_60 : decode cX8_lay 60 = .ok (.goto (-54), 3) := by decide +kernel
theorem dX8_lay_63 : decode cX8_lay 63 = .ok (.iload 5, 2) := by decide +kernel
theorem dX8_lay_65 : decode cX8_lay 65 = .ok (.ireturn, 1) := by decide +kernel
theorem dX8_lays_0 : decode cX8_lays 0 = .ok (.aload_n 0, 1) := by decide +kernel
theorem dX8_lays_1 : decode cX8_lays 1 = .ok (.iload_n 1, 1) := by decide +kernel
theorem dX8_lays_2 : decode cX8_lays 2 = .ok (.iload_n 2, 1) := by decide +kernel
theorem dX8_lays_3 : decode cX8_lays 3 = .ok (.iload_n 3, 1) := by decide +kernel
theorem dX8_lays_4 : decode cX8_lays 4 = .ok (.iload 4, 2) := by decide +kernel
theorem dX8_lays_6 : decode cX8_lays 6 = .ok (.invokevirtual 73, 3) := by decide +kernel
theorem dX8_lays_9 : decode cX8_lays 9 = .ok (.ifCond .ne 8, 3) := by decide +kernel
theorem dX8_lays_12 : decode cX8_lays 12 = .ok (.aload_n 0, 1) := by decide +kernel
theorem dX8_lays_13 : decode cX8_lays 13 = .ok (.invokevirtual 60, 3) := by decide +kernel
theorem dX8_lays_16 : decode cX8_lays 16 = .ok (.ireturn, 1) := by decide +kernel
theorem dX8_lays_17 : decode cX8_lays 17 = .ok (.aload_n 0, 1) := by decide +kernel
theorem dX8_lays_18 : decode cX8_lays 18 = .ok (.invokevirtual 64, 3) := by decide +kernel
theorem dX8_lays_21 : decode cX8_lays 21 = .ok (.aload_n 0, 1) := by decide +kernel
theorem dX8_lays_22 : decode cX8_lays 22 = .ok (.iload_n 1, 1) := by decide +kernel
theorem dX8_lays_23 : decode cX8_lays 23 = .ok (.iload_n 2, 1) := by decide +kernel
theorem dX8_lays_24 : decode cX8_lays 24 = .ok (.iload_n 3, 1) := by decide +kernel
theorem dX8_lays_25 : decode cX8_lays 25 = .ok (.iload 4, 2) := by decide +kernel
theorem dX8_lays_27 : decode cX8_lays 27 = .ok (.invokevirtual 77, 3) := by decide +kernel
theorem dX8_lays_30 : decode cX8_lays 30 = .ok (.ireturn, 1) := by decide +kernel
theorem dX8_signal_0 : decode cX8_signal 0 = .ok (.aload_n 0, 1) := by decide +kernel
theorem dX8_signal_1 : decode cX8_signal 1 = .ok (.getfield 7, 3) := by decide +kernel
theorem dX8_signal_4 : decode cX8_signal 4 = .ok (.bipush 16, 2) := by decide +kernel
theorem dX8_signal_6 : decode cX8_signal 6 = .ok (.iconst 3, 1) := by decide +kernel
theorem dX8_signal_7 : decode cX8_signal 7 = .ok (.iload_n 1, 1) := by decide +kernel
theorem dX8_signal_8 : decode cX8_signal 8 = .ok (.imul, 1) := by decide +kernel
theorem dX8_signal_9 : decode cX8_signal 9 = .ok (.iadd, 1) := by decide +kernel
theorem dX8_signal_10 : decode cX8_signal 10 = .ok (.iconst 2, 1) := by decide +kernel
theorem dX8_signal_11 : decode cX8_signal 11 = .ok (.iadd, 1) := by decide +kernel
theorem dX8_signal_12 : decode cX8_signal 12 = .ok (.iaload, 1) := by decide +kernel
theorem dX8_signal_13 : decode cX8_signal 13 = .ok (.istore_n 3, 1) := by decide +kernel
theorem dX8_signal_14 : decode cX8_signal 14 = .ok (.aload_n 0, 1) := by decide +kernel
theorem dX8_signal_15 : decode cX8_signal 15 = .ok (.getfield 7, 3) := by decide +kernel
theorem dX8_signal_18 : decode cX8_signal 18 = .ok (.bipush 16, 2) := by decide +kernel
theorem dX8_signal_20 : decode cX8_signal 20 = .ok (.iconst 3, 1) := by decide +kernel
theorem dX8_signal_21 : decode cX8_signal 21 = .ok (.iload_n 1, 1) := by decide +kernel
theorem dX8_signal_22 : decode cX8_signal 22 = .ok (.imul, 1) := by decide +kernel
theorem dX8_signal_23 : decode cX8_signal 23 = .ok (.iadd, 1) := by decide +kernel
theorem dX8_signal_24 : decode cX8_signal 24 = .ok (.iconst 2, 1) := by decide +kernel
theorem dX8_signal_25 : decode cX8_signal 25 = .ok (.iadd, 1) := by decide +kernel
theorem dX8_signal_26 : decode cX8_signal 26 = .ok (.iload_n 2, 1) := by decide +kernel
theorem dX8_signal_27 : decode cX8_signal 27 = .ok (.iastore, 1) := by decide +kernel
theorem dX8_signal_28 : decode cX8_signal 28 = .ok (.iload_n 3, 1) := by decide +kernel
theorem dX8_signal_29 : decode cX8_signal 29 = .ok (.ireturn, 1) := by decide +kernel
theorem dX8_beacon_0 : decode cX8_beacon 0 = .ok (.aload_n 0, 1) := by decide +kernel
theorem dX8_beacon_1 : decode cX8_beacon 1 = .ok (.iload_n 1, 1) := by decide +kernel
theorem dX8_beacon_2 : decode cX8_beacon 2 = .ok (.invokevirtual 70, 3) := by decide +kernel
theorem dX8_beacon_5 : decode cX8_beacon 5 = .ok (.ifCond .eq 12, 3) := by decide +kernel
theorem dX8_beacon_8 : decode cX8_beacon 8 = .ok (.iload_n 2, 1) := by decide +kernel
theorem dX8_beacon_9 : decode cX8_beacon 9 = .ok (.iconst 0, 1) := by decide +kernel
theorem dX8_beacon_10 : decode cX8_beacon 10 = .ok (.iconst 1, 1) := by decide +kernel
theorem dX8_beacon_11 : decode cX8_beacon 11 = .ok (.invokestatic 45, 3) := by decide +kernel
theorem dX8_beacon_14 : decode cX8_beacon 14 = .ok (.ifCond .ne 8, 3) := by decide +kernel
theorem dX8_beacon_17 : decode cX8_beacon 17 = .ok (.aload_n 0, 1) := by decide +kernel
theorem dX8_beacon_18 : decode cX8_beacon 18 = .ok (.invokevirtual 60, 3) := by decide +kernel
theorem dX8_beacon_21 : decode cX8_beacon 21 = .ok (.ireturn, 1) := by decide +kernel
theorem dX8_beacon_22 : decode cX8_beacon 22 = .ok (.aload_n 0, 1) := by decide +kernel
theorem dX8_beacon_23 : decode cX8_beacon 23 = .ok (.invokevirtual 64, 3) := by decide +kernel
theorem dX8_beacon_26 : decode cX8_beacon 26 = .ok (.aload_n 0, 1) := by decide +kernel
theorem dX8_beacon_27 : decode cX8_beacon 27 = .ok (.iload_n 1, 1) := by decide +kernel
theorem dX8_beacon_28 : decode cX8_beacon 28 = .ok (.iload_n 2, 1) := by decide +kernel
theorem dX8_beacon_29 : decode cX8_beacon 29 = .ok (.invokevirtual 81, 3) := by decide +kernel
theorem dX8_beacon_32 : decode cX8_beacon 32 = .ok (.ireturn, 1) := by decide +kernel
theorem dX8_maySet_0 : decode cX8_maySet 0 = .ok (.iload_n 0, 1) := by decide +kernel
theorem dX8_maySet_1 : decode cX8_maySet 1 = .ok (.tableswitch 63 0 3 #[31, 39, 47, 55], 31) := by decide +kernel
theorem dX8_maySet_32 : decode cX8_maySet 32 = .ok (.iload_n 1, 1) := by decide +kernel
theorem dX8_maySet_33 : decode cX8_maySet 33 = .ok (.iconst 1, 1) := by decide +kernel
theorem dX8_maySet_34 : decode cX8_maySet 34 = .ok (.bipush 60, 2) := by decide +kernel
theorem dX8_maySet_36 : decode cX8_maySet 36 = .ok (.invokestatic 45, 3) := by decide +kernel
theorem dX8_maySet_39 : decode cX8_maySet 39 = .ok (.ireturn, 1) := by decide +kernel
theorem dX8_maySet_40 : decode cX8_maySet 40 = .ok (.iload_n 1, 1) := by decide +kernel
theorem dX8_maySet_41 : decode cX8_maySet 41 = .ok (.iconst 0, 1) := by decide +kernel
theorem dX8_maySet_42 : decode cX8_maySet 42 = .ok (.bipush 30, 2) := by decide +kernel
theorem dX8_maySet_44 : decode cX8_maySet 44 = .ok (.invokestatic 45, 3) := by decide +kernel
theorem dX8_maySet_47 : decode cX8_maySet 47 = .ok (.ireturn, 1) := by decide +kernel
theorem dX8_maySet_48 : decode cX8_maySet 48 = .ok (.iload_n 1, 1) := by decide +kernel
theorem dX8_maySet_49 : decode cX8_maySet 49 = .ok (.iconst 1, 1) := by decide +kernel
theorem dX8_maySet_50 : decode cX8_maySet 50 = .ok (.bipush 30, 2) := by decide +kernel
theorem dX8_maySet_52 : decode cX8_maySet 52 = .ok (.invokestatic 45, 3) := by decide +kernel
theorem dX8_maySet_55 : decode cX8_maySet 55 = .ok (.ireturn, 1) := by decide +kernel
theorem dX8_maySet_56 : decode cX8_maySet 56 = .ok (.iload_n 1, 1) := by decide +kernel
theorem dX8_maySet_57 : decode cX8_maySet 57 = .ok (.iconst 0, 1) := by decide +kernel
theorem dX8_maySet_58 : decode cX8_maySet 58 = .ok (.bipush 100, 2) := by decide +kernel
theorem dX8_maySet_60 : decode cX8_maySet 60 = .ok (.invokestatic 45, 3) := by decide +kernel
theorem dX8_maySet_63 : decode cX8_maySet 63 = .ok (.ireturn, 1) := by decide +kernel
theorem dX8_maySet_64 : decode cX8_maySet 64 = .ok (.iload_n 0, 1) := by decide +kernel
theorem dX8_maySet_65 : decode cX8_maySet 65 = .ok (.iconst 4, 1) := by decide +kernel
theorem dX8_maySet_66 : decode cX8_maySet 66 = .ok (.bipush 6, 2) := by decide +kernel
theorem dX8_maySet_68 : decode cX8_maySet 68 = .ok (.invokestatic 45, 3) := by decide +kernel
theorem dX8_maySet_71 : decode cX8_maySet 71 = .ok (.ifCond .eq 17, 3) := by decide +kernel
theorem dX8_maySet_74 : decode cX8_maySet 74 = .ok (.iload_n 1, 1) := by decide +kernel
theorem dX8_maySet_75 : decode cX8_maySet 75 = .ok (.iconst 0, 1) := by decide +kernel
theorem dX8_maySet_76 : decode cX8_maySet 76 = .ok (.bipush 9, 2) := by decide +kernel
theorem dX8_maySet_78 : decode cX8_maySet 78 = .ok (.invokestatic 45, 3) := by decide +kernel
theorem dX8_maySet_81 : decode cX8_maySet 81 = .ok (.ifCond .eq 7, 3) := by decide +kernel
theorem dX8_maySet_84 : decode cX8_maySet 84 = .ok (.iconst 1, 1) := by decide +kernel
theorem dX8_maySet_85 : decode cX8_maySet 85 = .ok (.goto 4, 3) := by decide +kernel
theorem dX8_maySet_88 : decode cX8_maySet 88 = .ok (.iconst 0, 1) := by decide +kernel
theorem dX8_maySet_89 : decode cX8_maySet 89 = .ok (.ireturn, 1) := by decide +kernel
theorem dX8_set_0 : decode cX8_set 0 = .ok (.aload_n 0, 1) := by decide +kernel
theorem dX8_set_1 : decode cX8_set 1 = .ok (.getfield 7, 3) := by decide +kernel
theorem dX8_set_4 : decode cX8_set 4 = .ok (.iconst 1, 1) := by decide +kernel
theorem dX8_set_5 : decode cX8_set 5 = .ok (.iload_n 1, 1) := by decide +kernel
theorem dX8_set_6 : decode cX8_set 6 = .ok (.iadd, 1) := by decide +kernel
theorem dX8_set_7 : decode cX8_set 7 = .ok (.iaload, 1) := by decide +kernel
theorem dX8_set_8 : decode cX8_set 8 = .ok (.istore_n 3, 1) := by decide +kernel
theorem dX8_set_9 : decode cX8_set 9 = .ok (.aload_n 0, 1) := by decide +kernel
theorem dX8_set_10 : decode cX8_set 10 = .ok (.getfield 7, 3) := by decide +kernel
theorem dX8_set_13 : decode cX8_set 13 = .ok (.iconst 1, 1) := by decide +kernel
theorem dX8_set_14 : decode cX8_set 14 = .ok (.iload_n 1, 1) := by decide +kernel
theorem dX8_set_15 : decode cX8_set 15 = .ok (.iadd, 1) := by decide +kernel
theorem dX8_set_16 : decode cX8_set 16 = .ok (.iload_n 2, 1) := by decide +kernel
theorem dX8_set_17 : decode cX8_set 17 = .ok (.iastore, 1) := by decide +kernel
theorem dX8_set_18 : decode cX8_set 18 = .ok (.iload_n 3, 1) := by decide +kernel
theorem dX8_set_19 : decode cX8_set 19 = .ok (.ireturn, 1) := by decide +kernel
theorem dX8_sets_0 : decode cX8_sets 0 = .ok (.iload_n 1, 1) := by decide +kernel
theorem dX8_sets_1 : decode cX8_sets 1 = .ok (.iload_n 2, 1) := by decide +kernel
theorem dX8_sets_2 : decode cX8_sets 2 = .ok (.invokestatic 85, 3) := by decide +kernel
theorem dX8_sets_5 : decode cX8_sets 5 = .ok (.ifCond .ne 8, 3) := by decide +kernel
theorem dX8_sets_8 : decode cX8_sets 8 = .ok (.aload_n 0, 1) := by decide +kernel
theorem dX8_sets_9 : decode cX8_sets 9 = .ok (.invokevirtual 60, 3) := by decide +kernel
theorem dX8_sets_12 : decode cX8_sets 12 = .ok (.ireturn, 1) := by decide +kernel
theorem dX8_sets_13 : decode cX8_sets 13 = .ok (.aload_n 0, 1) := by decide +kernel
theorem dX8_sets_14 : decode cX8_sets 14 = .ok (.invokevirtual 64, 3) := by decide +kernel
theorem dX8_sets_17 : decode cX8_sets 17 = .ok (.aload_n 0, 1) := by decide +kernel
theorem dX8_sets_18 : decode cX8_sets 18 = .ok (.iload_n 1, 1) := by decide +kernel
theorem dX8_sets_19 : decode cX8_sets 19 = .ok (.iload_n 2, 1) := by decide +kernel
theorem dX8_sets_20 : decode cX8_sets 20 = .ok (.invokevirtual 89, 3) := by decide +kernel
theorem dX8_sets_23 : decode cX8_sets 23 = .ok (.ireturn, 1) := by decide +kernel
theorem dX8_tellCell_0 : decode cX8_tellCell 0 = .ok (.iload_n 2, 1) := by decide +kernel
theorem dX8_tellCell_1 : decode cX8_tellCell 1 = .ok (.tableswitch 66 0 3 #[31, 37, 46, 60], 31) := by decide +kernel
theorem dX8_tellCell_32 : decode cX8_tellCell 32 = .ok (.aload_n 0, 1) := by decide +kernel
theorem dX8_tellCell_33 : decode cX8_tellCell 33 = .ok (.iload_n 1, 1) := by decide +kernel
theorem dX8_tellCell_34 : decode cX8_tellCell 34 = .ok (.invokevirtual 53, 3) := by decide +kernel
theorem dX8_tellCell_37 : decode cX8_tellCell 37 = .ok (.ireturn, 1) := by decide +kernel
theorem dX8_tellCell_38 : decode cX8_tellCell 38 = .ok (.aload_n 0, 1) := by decide +kernel
theorem dX8_tellCell_39 : decode cX8_tellCell 39 = .ok (.iload_n 1, 1) := by decide +kernel
theorem dX8_tellCell_40 : decode cX8_tellCell 40 = .ok (.invokevirtual 49, 3) := by decide +kernel
theorem dX8_tellCell_43 : decode cX8_tellCell 43 = .ok (.bipush 20, 2) := by decide +kernel
theorem dX8_tellCell_45 : decode cX8_tellCell 45 = .ok (.iadd, 1) := by decide +kernel
theorem dX8_tellCell_46 : decode cX8_tellCell 46 = .ok (.ireturn, 1) := by decide +kernel
theorem dX8_tellCell_47 : decode cX8_tellCell 47 = .ok (.aload_n 0, 1) := by decide +kernel
theorem dX8_tellCell_48 : decode cX8_tellCell 48 = .ok (.getfield 7, 3) := by decide +kernel
theorem dX8_tellCell_51 : decode cX8_tellCell 51 = .ok (.bipush 16, 2) := by decide +kernel
theorem dX8_tellCell_53 : decode cX8_tellCell 53 = .ok (.iconst 3, 1) := by decide +kernel
theorem dX8_tellCell_54 : decode cX8_tellCell 54 = .ok (.iload_n 1, 1) := by decide +kernel
theorem dX8_tellCell_55 : decode cX8_tellCell 55 = .ok (.imul, 1) := by decide +kernel
theorem dX8_tellCell_56 : decode cX8_tellCell 56 = .ok (.iadd, 1) := by decide +kernel
theorem dX8_tellCell_57 : decode cX8_tellCell 57 = .ok (.iconst 2, 1) := by decide +kernel
theorem dX8_tellCell_58 : decode cX8_tellCell 58 = .ok (.iadd, 1) := by decide +kernel
theorem dX8_tellCell_59 : decode cX8_tellCell 59 = .ok (.iaload, 1) := by decide +kernel
theorem dX8_tellCell_60 : decode cX8_tellCell 60 = .ok (.ireturn, 1) := by decide +kernel
theorem dX8_tellCell_61 : decode cX8_tellCell 61 = .ok (.aload_n 0, 1) := by decide +kernel
theorem dX8_tellCell_62 : decode cX8_tellCell 62 = .ok (.iload_n 1, 1) := by decide +kernel
theorem dX8_tellCell_63 : decode cX8_tellCell 63 = .ok (.invokevirtual 92, 3) := by decide +kernel
theorem dX8_tellCell_66 : decode cX8_tellCell 66 = .ok (.ireturn, 1) := by decide +kernel
theorem dX8_tellCell_67 : decode cX8_tellCell 67 = .ok (.aload_n 0, 1) := by decide +kernel
theorem dX8_tellCell_68 : decode cX8_tellCell 68 = .ok (.iload_n 1, 1) := by decide +kernel
theorem dX8_tellCell_69 : decode cX8_tellCell 69 = .ok (.invokevirtual 95, 3) := by decide +kernel
theorem dX8_tellCell_72 : decode cX8_tellCell 72 = .ok (.ireturn, 1) := by decide +kernel
theorem dX8_cell_0 : decode cX8_cell 0 = .ok (.aload_n 0, 1) := by decide +kernel
theorem dX8_cell_1 : decode cX8_cell 1 = .ok (.iload_n 1, 1) := by decide +kernel
theorem dX8_cell_2 : decode cX8_cell 2 = .ok (.invokevirtual 70, 3) := by decide +kernel
theorem dX8_cell_5 : decode cX8_cell 5 = .ok (.ifCond .eq 21, 3) := by decide +kernel
theorem dX8_cell_8 : decode cX8_cell 8 = .ok (.iload_n 2, 1) := by decide +kernel
theorem dX8_cell_9 : decode cX8_cell 9 = .ok (.iconst 0, 1) := by decide +kernel
theorem dX8_cell_10 : decode cX8_cell 10 = .ok (.iconst 4, 1) := by decide +kernel
theorem dX8_cell_11 : decode cX8_cell 11 = .ok (.invokestatic 45, 3) := by decide +kernel
theorem dX8_cell_14 : decode cX8_cell 14 = .ok (.ifCond .eq 12, 3) := by decide +kernel
theorem dX8_cell_17 : decode cX8_cell 17 = .ok (.aload_n 0, 1) := by decide +kernel
theorem dX8_cell_18 : decode cX8_cell 18 = .ok (.iload_n 1, 1) := by decide +kernel
theorem dX8_cell_19 : decode cX8_cell 19 = .ok (.iload_n 2, 1) := by decide +kernel
theorem dX8_cell_20 : decode cX8_cell 20 = .ok (.invokevirtual 98, 3) := by decide +kernel
theorem dX8_cell_23 : decode cX8_cell 23 = .ok (.goto 7, 3) := by decide +kernel
theorem dX8_cell_26 : decode cX8_cell 26 = .ok (.aload_n 0, 1) := by decide +kernel
theorem dX8_cell_27 : decode cX8_cell 27 = .ok (.invokevirtual 60, 3) := by decide +kernel
theorem dX8_cell_30 : decode cX8_cell 30 = .ok (.ireturn, 1) := by decide +kernel
theorem dX8_lawfuls_0 : decode cX8_lawfuls 0 = .ok (.aload_n 0, 1) := by decide +kernel
theorem dX8_lawfuls_1 : decode cX8_lawfuls 1 = .ok (.getfield 20, 3) := by decide +kernel
theorem dX8_lawfuls_4 : decode cX8_lawfuls 4 = .ok (.aload_n 0, 1) := by decide +kernel
theorem dX8_lawfuls_5 : decode cX8_lawfuls 5 = .ok (.getfield 7, 3) := by decide +kernel
theorem dX8_lawfuls_8 : decode cX8_lawfuls 8 = .ok (.iconst 0, 1) := by decide +kernel
theorem dX8_lawfuls_9 : decode cX8_lawfuls 9 = .ok (.iaload, 1) := by decide +kernel
theorem dX8_lawfuls_10 : decode cX8_lawfuls 10 = .ok (.iconst 0, 1) := by decide +kernel
theorem dX8_lawfuls_11 : decode cX8_lawfuls 11 = .ok (.iastore, 1) := by decide +kernel
theorem dX8_lawfuls_12 : decode cX8_lawfuls 12 = .ok (.aload_n 0, 1) := by decide +kernel
theorem dX8_lawfuls_13 : decode cX8_lawfuls 13 = .ok (.getfield 7, 3) := by decide +kernel
theorem dX8_lawfuls_16 : decode cX8_lawfuls 16 = .ok (.iconst 0, 1) := by decide +kernel
theorem dX8_lawfuls_17 : decode cX8_lawfuls 17 = .ok (.iaload, 1) := by decide +kernel
theorem dX8_lawfuls_18 : decode cX8_lawfuls 18 = .ok (.iconst 1, 1) := by decide +kernel
theorem dX8_lawfuls_19 : decode cX8_lawfuls 19 = .ok (.isub, 1) := by decide +kernel
theorem dX8_lawfuls_20 : decode cX8_lawfuls 20 = .ok (.istore_n 1, 1) := by decide +kernel
theorem dX8_lawfuls_21 : decode cX8_lawfuls 21 = .ok (.iload_n 1, 1) := by decide +kernel
theorem dX8_lawfuls_22 : decode cX8_lawfuls 22 = .ok (.ifCond .lt 52, 3) := by decide +kernel
theorem dX8_lawfuls_25 : decode cX8_lawfuls 25 = .ok (.aload_n 0, 1) := by decide +kernel
theorem dX8_lawfuls_26 : decode cX8_lawfuls 26 = .ok (.iload_n 1, 1) := by decide +kernel
theorem dX8_lawfuls_27 : decode cX8_lawfuls 27 = .ok (.invokevirtual 95, 3) := by decide +kernel
theorem dX8_lawfuls_30 : decode cX8_lawfuls 30 = .ok (.aload_n 0, 1) := by decide +kernel
theorem dX8_lawfuls_31 : decode cX8_lawfuls 31 = .ok (.iload_n 1, 1) := by decide +kernel
theorem dX8_lawfuls_32 : decode cX8_lawfuls 32 = .ok (.invokevirtual 95, 3) := by decide +kernel
theorem dX8_lawfuls_35 : decode cX8_lawfuls 35 = .ok (.imul, 1) := by decide +kernel
theorem dX8_lawfuls_36 : decode cX8_lawfuls 36 = .ok (.istore_n 2, 1) := by decide +kernel
theorem dX8_lawfuls_37 : decode cX8_lawfuls 37 = .ok (.aload_n 0, 1) := by decide +kernel
theorem dX8_lawfuls_38 : decode cX8_lawfuls 38 = .ok (.getfield 20, 3) := by decide +kernel
theorem dX8_lawfuls_41 : decode cX8_lawfuls 41 = .ok (.iload_n 1, 1) := by decide +kernel
theorem dX8_lawfuls_42 : decode cX8_lawfuls 42 = .ok (.iconst 1, 1) := by decide +kernel
theorem dX8_lawfuls_43 : decode cX8_lawfuls 43 = .ok (.iadd, 1) := by decide +kernel
theorem dX8_lawfuls_44 : decode cX8_lawfuls 44 = .ok (.iaload, 1) := by decide +kernel
theorem dX8_lawfuls_45 : decode cX8_lawfuls 45 = .ok (.aload_n 0, 1) := by decide +kernel
theorem dX8_lawfuls_46 : decode cX8_lawfuls 46 = .ok (.iload_n 1, 1) := by decide +kernel
theorem dX8_lawfuls_47 : decode cX8_lawfuls 47 = .ok (.invokevirtual 92, 3) := by decide +kernel
theorem dX8_lawfuls_50 : decode cX8_lawfuls 50 = .ok (.iadd, 1) := by decide +kernel
theorem dX8_lawfuls_51 : decode cX8_lawfuls 51 = .ok (.istore_n 3, 1) := by decide +kernel
theorem dX8_lawfuls_52 : decode cX8_lawfuls 52 = .ok (.aload_n 0, 1) := by decide +kernel
theorem dX8_lawfuls_53 : decode cX8_lawfuls 53 = .ok (.getfield 20, 3) := by decide +kernel
theorem dX8_lawfuls_56 : decode cX8_lawfuls 56 = .ok (.iload_n 1, 1) := by decide +kernel
theorem dX8_lawfuls_57 : decode cX8_lawfuls 57 = .ok (.iload_n 2, 1) := by decide +kernel
theorem dX8_lawfuls_58 : decode cX8_lawfuls 58 = .ok (.iload_n 3, 1) := by decide +kernel
theorem dX8_lawfuls_59 : decode cX8_lawfuls 59 = .ok (.if_icmp .ge 7, 3) := by decide +kernel
theorem dX8_lawfuls_62 : decode cX8_lawfuls 62 = .ok (.iload_n 2, 1) := by decide +kernel
theorem dX8_lawfuls_63 : decode cX8_lawfuls 63 = .ok (.goto 4, 3) := by decide +kernel
theorem dX8_lawfuls_66 : decode cX8_lawfuls 66 = .ok (.iload_n 3, 1) := by decide +kernel
theorem dX8_lawfuls_67 : decode cX8_lawfuls 67 = .ok (.iastore, 1) := by decide +kernel
theorem dX8_lawfuls_68 : decode cX8_lawfuls 68 = .ok (.iinc 1 (-1), 3) := by decide +kernel
theorem dX8_lawfuls_71 : decode cX8_lawfuls 71 = .ok (.goto (-50), 3) := by decide +kernel
theorem dX8_lawfuls_74 : decode cX8_lawfuls 74 = .ok (.return_, 1) := by decide +kernel
theorem dX8_root_0 : decode cX8_root 0 = .ok (.iconst 0, 1) := by decide +kernel
theorem dX8_root_1 : decode cX8_root 1 = .ok (.istore_n 1, 1) := by decide +kernel
theorem dX8_root_2 : decode cX8_root 2 = .ok (.iload_n 1, 1) := by decide +kernel
theorem dX8_root_3 : decode cX8_root 3 = .ok (.iconst 1, 1) := by decide +kernel
theorem dX8_root_4 : decode cX8_root 4 = .ok (.iadd, 1) := by decide +kernel
theorem dX8_root_5 : decode cX8_root 5 = .ok (.iload_n 1, 1) := by decide +kernel
theorem dX8_root_6 : decode cX8_root 6 = .ok (.iconst 1, 1) := by decide +kernel
theorem dX8_root_7 : decode cX8_root 7 = .ok (.iadd, 1) := by decide +kernel
theorem dX8_root_8 : decode cX8_root 8 = .ok (.imul, 1) := by decide +kernel
theorem dX8_root_9 : decode cX8_root 9 = .ok (.iload_n 0, 1) := by decide +kernel
theorem dX8_root_10 : decode cX8_root 10 = .ok (.if_icmp .gt 9, 3) := by decide +kernel
theorem dX8_root_13 : decode cX8_root 13 = .ok (.iinc 1 1, 3) := by decide +kernel
theorem dX8_root_16 : decode cX8_root 16 = .ok (.goto (-14), 3) := by decide +kernel
theorem dX8_root_19 : decode cX8_root 19 = .ok (.iload_n 1, 1) := by decide +kernel
theorem dX8_root_20 : decode cX8_root 20 = .ok (.ireturn, 1) := by decide +kernel
theorem dX8_lawful_0 : decode cX8_lawful 0 = .ok (.aload_n 0, 1) := by decide +kernel
theorem dX8_lawful_1 : decode cX8_lawful 1 = .ok (.iload_n 1, 1) := by decide +kernel
theorem dX8_lawful_2 : decode cX8_lawful 2 = .ok (.invokevirtual 70, 3) := by decide +kernel
theorem dX8_lawful_5 : decode cX8_lawful 5 = .ok (.ifCond .ne 8, 3) := by decide +kernel
theorem dX8_lawful_8 : decode cX8_lawful 8 = .ok (.aload_n 0, 1) := by decide +kernel
theorem dX8_lawful_9 : decode cX8_lawful 9 = .ok (.invokevirtual 60, 3) := by decide +kernel
theorem dX8_lawful_12 : decode cX8_lawful 12 = .ok (.ireturn, 1) := by decide +kernel
theorem dX8_lawful_13 : decode cX8_lawful 13 = .ok (.aload_n 0, 1) := by decide +kernel
theorem dX8_lawful_14 : decode cX8_lawful 14 = .ok (.invokevirtual 101, 3) := by decide +kernel
theorem dX8_lawful_17 : decode cX8_lawful 17 = .ok (.aload_n 0, 1) := by decide +kernel
theorem dX8_lawful_18 : decode cX8_lawful 18 = .ok (.getfield 20, 3) := by decide +kernel
theorem dX8_lawful_21 : decode cX8_lawful 21 = .ok (.iload_n 1, 1) := by decide +kernel
theorem dX8_lawful_22 : decode cX8_lawful 22 = .ok (.iaload, 1) := by decide +kernel
theorem dX8_lawful_23 : decode cX8_lawful 23 = .ok (.ireturn, 1) := by decide +kernel
theorem dX8_permitted_0 : decode cX8_permitted 0 = .ok (.aload_n 0, 1) := by decide +kernel
theorem dX8_permitted_1 : decode cX8_permitted 1 = .ok (.iload_n 1, 1) := by decide +kernel
theorem dX8_permitted_2 : decode cX8_permitted 2 = .ok (.invokevirtual 70, 3) := by decide +kernel
theorem dX8_permitted_5 : decode cX8_permitted 5 = .ok (.ifCond .ne 8, 3) := by decide +kernel
theorem dX8_permitted_8 : decode cX8_permitted 8 = .ok (.aload_n 0, 1) := by decide +kernel
theorem dX8_permitted_9 : decode cX8_permitted 9 = .ok (.invokevirtual 60, 3) := by decide +kernel
theorem dX8_permitted_12 : decode cX8_permitted 12 = .ok (.ireturn, 1) := by decide +kernel
theorem dX8_permitted_13 : decode cX8_permitted 13 = .ok (.aload_n 0, 1) := by decide +kernel
theorem dX8_permitted_14 : decode cX8_permitted 14 = .ok (.invokevirtual 101, 3) := by decide +kernel
theorem dX8_permitted_17 : decode cX8_permitted 17 = .ok (.aload_n 0, 1) := by decide +kernel
theorem dX8_permitted_18 : decode cX8_permitted 18 = .ok (.getfield 20, 3) := by decide +kernel
theorem dX8_permitted_21 : decode cX8_permitted 21 = .ok (.iload_n 1, 1) := by decide +kernel
theorem dX8_permitted_22 : decode cX8_permitted 22 = .ok (.iaload, 1) := by decide +kernel
theorem dX8_permitted_23 : decode cX8_permitted 23 = .ok (.invokestatic 104, 3) := by decide +kernel
theorem dX8_permitted_26 : decode cX8_permitted 26 = .ok (.ireturn, 1) := by decide +kernel
theorem dX8_bound_0 : decode cX8_bound 0 = .ok (.aload_n 0, 1) := by decide +kernel
theorem dX8_bound_1 : decode cX8_bound 1 = .ok (.iload_n 1, 1) := by decide +kernel
theorem dX8_bound_2 : decode cX8_bound 2 = .ok (.invokevirtual 70, 3) := by decide +kernel
theorem dX8_bound_5 : decode cX8_bound 5 = .ok (.ifCond .ne 8, 3) := by decide +kernel
theorem dX8_bound_8 : decode cX8_bound 8 = .ok (.aload_n 0, 1) := by decide +kernel
theorem dX8_bound_9 : decode cX8_bound 9 = .ok (.invokevirtual 60, 3) := by decide +kernel
theorem dX8_bound_12 : decode cX8_bound 12 = .ok (.ireturn, 1) := by decide +kernel
theorem dX8_bound_13 : decode cX8_bound 13 = .ok (.aload_n 0, 1) := by decide +kernel
theorem dX8_bound_14 : decode cX8_bound 14 = .ok (.invokevirtual 101, 3) := by decide +kernel
theorem dX8_bound_17 : decode cX8_bound 17 = .ok (.iconst 0, 1) := by decide +kernel
theorem dX8_bound_18 : decode cX8_bound 18 = .ok (.istore_n 2, 1) := by decide +kernel
theorem dX8_bound_19 : decode cX8_bound 19 = .ok (.iload_n 1, 1) := by decide +kernel
theorem dX8_bound_20 : decode cX8_bound 20 = .ok (.istore_n 3, 1) := by decide +kernel
theorem dX8_bound_21 : decode cX8_bound 21 = .ok (.iload_n 3, 1) := by decide +kernel
theorem dX8_bound_22 : decode cX8_bound 22 = .ok (.aload_n 0, 1) := by decide +kernel
theorem dX8_bound_23 : decode cX8_bound 23 = .ok (.getfield 7, 3) := by decide +kernel
theorem dX8_bound_26 : decode cX8_bound 26 = .ok (.iconst 0, 1) := by decide +kernel
theorem dX8_bound_27 : decode cX8_bound 27 = .ok (.iaload, 1) := by decide +kernel
theorem dX8_bound_28 : decode cX8_bound 28 = .ok (.if_icmp .ge 41, 3) := by decide +kernel
theorem dX8_bound_31 : decode cX8_bound 31 = .ok (.aload_n 0, 1) := by decide +kernel
theorem dX8_bound_32 : decode cX8_bound 32 = .ok (.getfield 20, 3) := by decide +kernel
theorem dX8_bound_35 : decode cX8_bound 35 = .ok (.iload_n 1, 1) := by decide +kernel
theorem dX8_bound_36 : decode cX8_bound 36 = .ok (.iaload, 1) := by decide +kernel
theorem dX8_bound_37 : decode cX8_bound 37 = .ok (.aload_n 0, 1) := by decide +kernel
theorem dX8_bound_38 : decode cX8_bound 38 = .ok (.iload_n 3, 1) := by decide +kernel
theorem dX8_bound_39 : decode cX8_bound 39 = .ok (.invokevirtual 95, 3) := by decide +kernel
theorem dX8_bound_42 : decode cX8_bound 42 = .ok (.aload_n 0, 1) := by decide +kernel
theorem dX8_bound_43 : decode cX8_bound 43 = .ok (.iload_n 3, 1) := by decide +kernel
theorem dX8_bound_44 : decode cX8_bound 44 = .ok (.invokevirtual 95, 3) := by decide +kernel
theorem dX8_bound_47 : decode cX8_bound 47 = .ok (.imul, 1) := by decide +kernel
theorem dX8_bound_48 : decode cX8_bound 48 = .ok (.iload_n 2, 1) := by decide +kernel
theorem dX8_bound_49 : decode cX8_bound 49 = .ok (.iadd, 1) := by decide +kernel
theorem dX8_bound_50 : decode cX8_bound 50 = .ok (.if_icmp .ne 5, 3) := by decide +kernel
theorem dX8_bound_53 : decode cX8_bound 53 = .ok (.iload_n 3, 1) := by decide +kernel
theorem dX8_bound_54 : decode cX8_bound 54 = .ok (.ireturn, 1) := by decide +kernel
theorem dX8_bound_55 : decode cX8_bound 55 = .ok (.iload_n 2, 1) := by decide +kernel
theorem dX8_bound_56 : decode cX8_bound 56 = .ok (.aload_n 0, 1) := by decide +kernel
theorem dX8_bound_57 : decode cX8_bound 57 = .ok (.iload_n 3, 1) := by decide +kernel
theorem dX8_bound_58 : decode cX8_bound 58 = .ok (.invokevirtual 92, 3) := by decide +kernel
theorem dX8_bound_61 : decode cX8_bound 61 = .ok (.iadd, 1) := by decide +kernel
theorem dX8_bound_62 : decode cX8_bound 62 = .ok (.istore_n 2, 1) := by decide +kernel
theorem dX8_bound_63 : decode cX8_bound 63 = .ok (.iinc 3 1, 3) := by decide +kernel
theorem dX8_bound_66 : decode cX8_bound 66 = .ok (.goto (-45), 3) := by decide +kernel
theorem dX8_bound_69 : decode cX8_bound 69 = .ok (.aload_n 0, 1) := by decide +kernel
theorem dX8_bound_70 : decode cX8_bound 70 = .ok (.getfield 7, 3) := by decide +kernel
theorem dX8_bound_73 : decode cX8_bound 73 = .ok (.iconst 0, 1) := by decide +kernel
theorem dX8_bound_74 : decode cX8_bound 74 = .ok (.iaload, 1) := by decide +kernel
theorem dX8_bound_75 : decode cX8_bound 75 = .ok (.ireturn, 1) := by decide +kernel
theorem dX8_standing_0 : decode cX8_standing 0 = .ok (.iload_n 2, 1) := by decide +kernel
theorem dX8_standing_1 : decode cX8_standing 1 = .ok (.iload_n 2, 1) := by decide +kernel
theorem dX8_standing_2 : decode cX8_standing 2 = .ok (.imul, 1) := by decide +kernel
theorem dX8_standing_3 : decode cX8_standing 3 = .ok (.istore_n 3, 1) := by decide +kernel
theorem dX8_standing_4 : decode cX8_standing 4 = .ok (.iload_n 1, 1) := by decide +kernel
theorem dX8_standing_5 : decode cX8_standing 5 = .ok (.istore 4, 2) := by decide +kernel
theorem dX8_standing_7 : decode cX8_standing 7 = .ok (.iload 4, 2) := by decide +kernel
theorem dX8_standing_9 : decode cX8_standing 9 = .ok (.aload_n 0, 1) := by decide +kernel
theorem dX8_standing_10 : decode cX8_standing 10 = .ok (.getfield 7, 3) := by decide +kernel
theorem dX8_standing_13 : decode cX8_standing 13 = .ok (.iconst 0, 1) := by decide +kernel
theorem dX8_standing_14 : decode cX8_standing 14 = .ok (.iaload, 1) := by decide +kernel
theorem dX8_standing_15 : decode cX8_standing 15 = .ok (.if_icmp .ge 27, 3) := by decide +kernel
theorem dX8_standing_18 : decode cX8_standing 18 = .ok (.iload_n 3, 1) := by decide +kernel
theorem dX8_standing_19 : decode cX8_standing 19 = .ok (.aload_n 0, 1) := by decide +kernel
theorem dX8_standing_20 : decode cX8_standing 20 = .ok (.iload 4, 2) := by decide +kernel
theorem dX8_standing_22 : decode cX8_standing 22 = .ok (.invokevirtual 92, 3) := by decide +kernel
theorem dX8_standing_25 : decode cX8_standing 25 = .ok (.isub, 1) := by decide +kernel
theorem dX8_standing_26 : decode cX8_standing 26 = .ok (.istore_n 3, 1) := by decide +kernel
theorem dX8_standing_27 : decode cX8_standing 27 = .ok (.iload_n 3, 1) := by decide +kernel
theorem dX8_standing_28 : decode cX8_standing 28 = .ok (.ifCond .gt 8, 3) := by decide +kernel
theorem dX8_standing_31 : decode cX8_standing 31 = .ok (.iload 4, 2) := by decide +kernel
theorem dX8_standing_33 : decode cX8_standing 33 = .ok (.iload_n 1, 1) := by decide +kernel
theorem dX8_standing_34 : decode cX8_standing 34 = .ok (.isub, 1) := by decide +kernel
theorem dX8_standing_35 : decode cX8_standing 35 = .ok (.ireturn, 1) := by decide +kernel
theorem dX8_standing_36 : decode cX8_standing 36 = .ok (.iinc 4 1, 3) := by decide +kernel
theorem dX8_standing_39 : decode cX8_standing 39 = .ok (.goto (-32), 3) := by decide +kernel
theorem dX8_standing_42 : decode cX8_standing 42 = .ok (.iconst (-1), 1) := by decide +kernel
theorem dX8_standing_43 : decode cX8_standing 43 = .ok (.ireturn, 1) := by decide +kernel
theorem dX8_stands_0 : decode cX8_stands 0 = .ok (.aload_n 0, 1) := by decide +kernel
theorem dX8_stands_1 : decode cX8_stands 1 = .ok (.iload_n 1, 1) := by decide +kernel
theorem dX8_stands_2 : decode cX8_stands 2 = .ok (.invokevirtual 70, 3) := by decide +kernel
theorem dX8_stands_5 : decode cX8_stands 5 = .ok (.ifCond .eq 22, 3) := by decide +kernel
theorem dX8_stands_8 : decode cX8_stands 8 = .ok (.iload_n 2, 1) := by decide +kernel
theorem dX8_stands_9 : decode cX8_stands 9 = .ok (.iconst 0, 1) := by decide +kernel
theorem dX8_stands_10 : decode cX8_stands 10 = .ok (.bipush 99, 2) := by decide +kernel
theorem dX8_stands_12 : decode cX8_stands 12 = .ok (.invokestatic 45, 3) := by decide +kernel
theorem dX8_stands_15 : decode cX8_stands 15 = .ok (.ifCond .eq 12, 3) := by decide +kernel
theorem dX8_stands_18 : decode cX8_stands 18 = .ok (.aload_n 0, 1) := by decide +kernel
theorem dX8_stands_19 : decode cX8_stands 19 = .ok (.iload_n 1, 1) := by decide +kernel
theorem dX8_stands_20 : decode cX8_stands 20 = .ok (.iload_n 2, 1) := by decide +kernel
theorem dX8_stands_21 : decode cX8_stands 21 = .ok (.invokevirtual 107, 3) := by decide +kernel
theorem dX8_stands_24 : decode cX8_stands 24 = .ok (.goto 7, 3) := by decide +kernel
theorem dX8_stands_27 : decode cX8_stands 27 = .ok (.aload_n 0, 1) := by decide +kernel
theorem dX8_stands_28 : decode cX8_stands 28 = .ok (.invokevirtual 60, 3) := by decide +kernel
theorem dX8_stands_31 : decode cX8_stands 31 = .ok (.ireturn, 1) := by decide +kernel
theorem dX8_speed_0 : decode cX8_speed 0 = .ok (.aload_n 0, 1) := by decide +kernel
theorem dX8_speed_1 : decode cX8_speed 1 = .ok (.iload_n 1, 1) := by decide +kernel
theorem dX8_speed_2 : decode cX8_speed 2 = .ok (.invokevirtual 70, 3) := by decide +kernel
theorem dX8_speed_5 : decode cX8_speed 5 = .ok (.ifCond .eq 14, 3) := by decide +kernel
theorem dX8_speed_8 : decode cX8_speed 8 = .ok (.iload_n 2, 1) := by decide +kernel
theorem dX8_speed_9 : decode cX8_speed 9 = .ok (.iconst 0, 1) := by decide +kernel
theorem dX8_speed_10 : decode cX8_speed 10 = .ok (.sipush 200, 3) := by decide +kernel
theorem dX8_speed_13 : decode cX8_speed 13 = .ok (.invokestatic 45, 3) := by decide +kernel
theorem dX8_speed_16 : decode cX8_speed 16 = .ok (.ifCond .ne 8, 3) := by decide +kernel
theorem dX8_speed_19 : decode cX8_speed 19 = .ok (.aload_n 0, 1) := by decide +kernel
theorem dX8_speed_20 : decode cX8_speed 20 = .ok (.invokevirtual 60, 3) := by decide +kernel
theorem dX8_speed_23 : decode cX8_speed 23 = .ok (.ireturn, 1) := by decide +kernel
theorem dX8_speed_24 : decode cX8_speed 24 = .ok (.bipush 99, 2) := by decide +kernel
theorem dX8_speed_26 : decode cX8_speed 26 = .ok (.istore_n 3, 1) := by decide +kernel
theorem dX8_speed_27 : decode cX8_speed 27 = .ok (.iload_n 3, 1) := by decide +kernel
theorem dX8_speed_28 : decode cX8_speed 28 = .ok (.ifCond .le 25, 3) := by decide +kernel
theorem dX8_speed_31 : decode cX8_speed 31 = .ok (.aload_n 0, 1) := by decide +kernel
theorem dX8_speed_32 : decode cX8_speed 32 = .ok (.iload_n 1, 1) := by decide +kernel
theorem dX8_speed_33 : decode cX8_speed 33 = .ok (.iload_n 3, 1) := by decide +kernel
theorem dX8_speed_34 : decode cX8_speed 34 = .ok (.invokevirtual 107, 3) := by decide +kernel
theorem dX8_speed_37 : decode cX8_speed 37 = .ok (.iconst 0, 1) := by decide +kernel
theorem dX8_speed_38 : decode cX8_speed 38 = .ok (.iload_n 2, 1) := by decide +kernel
theorem dX8_speed_39 : decode cX8_speed 39 = .ok (.invokestatic 45, 3) := by decide +kernel
theorem dX8_speed_42 : decode cX8_speed 42 = .ok (.ifCond .eq 5, 3) := by decide +kernel
theorem dX8_speed_45 : decode cX8_speed 45 = .ok (.iload_n 3, 1) := by decide +kernel
theorem dX8_speed_46 : decode cX8_speed 46 = .ok (.ireturn, 1) := by decide +kernel
theorem dX8_speed_47 : decode cX8_speed 47 = .ok (.iinc 3 (-1), 3) := by decide +kernel
theorem dX8_speed_50 : decode cX8_speed 50 = .ok (.goto (-23), 3) := by decide +kernel
theorem dX8_speed_53 : decode cX8_speed 53 = .ok (.iconst 0, 1) := by decide +kernel
theorem dX8_speed_54 : decode cX8_speed 54 = .ok (.ireturn, 1) := by decide +kernel
theorem dX8_many_0 : decode cX8_many 0 = .ok (.iload_n 1, 1) := by decide +kernel
theorem dX8_many_1 : decode cX8_many 1 = .ok (.iconst 0, 1) := by decide +kernel
theorem dX8_many_2 : decode cX8_many 2 = .ok (.bipush 99, 2) := by decide +kernel
theorem dX8_many_4 : decode cX8_many 4 = .ok (.invokestatic 45, 3) := by decide +kernel
theorem dX8_many_7 : decode cX8_many 7 = .ok (.ifCond .ne 8, 3) := by decide +kernel
theorem dX8_many_10 : decode cX8_many 10 = .ok (.aload_n 0, 1) := by decide +kernel
theorem dX8_many_11 : decode cX8_many 11 = .ok (.invokevirtual 60, 3) := by decide +kernel
theorem dX8_many_14 : decode cX8_many 14 = .ok (.ireturn, 1) := by decide +kernel
theorem dX8_many_15 : decode cX8_many 15 = .ok (.aload_n 0, 1) := by decide +kernel
theorem dX8_many_16 : decode cX8_many 16 = .ok (.invokevirtual 101, 3) := by decide +kernel
theorem dX8_many_19 : decode cX8_many 19 = .ok (.iconst 0, 1) := by decide +kernel
theorem dX8_many_20 : decode cX8_many 20 = .ok (.istore_n 2, 1) := by decide +kernel
theorem dX8_many_21 : decode cX8_many 21 = .ok (.iconst 0, 1) := by decide +kernel
theorem dX8_many_22 : decode cX8_many 22 = .ok (.istore_n 3, 1) := by decide +kernel
theorem dX8_many_23 : decode cX8_many 23 = .ok (.iload_n 3, 1) := by decide +kernel
theorem dX8_many_24 : decode cX8_many 24 = .ok (.aload_n 0, 1) := by decide +kernel
theorem dX8_many_25 : decode cX8_many 25 = .ok (.getfield 7, 3) := by decide +kernel
theorem dX8_many_28 : decode cX8_many 28 = .ok (.iconst 0, 1) := by decide +kernel
theorem dX8_many_29 : decode cX8_many 29 = .ok (.iaload, 1) := by decide +kernel
theorem dX8_many_30 : decode cX8_many 30 = .ok (.if_icmp .ge 30, 3) := by decide +kernel
theorem dX8_many_33 : decode cX8_many 33 = .ok (.iload_n 2, 1) := by decide +kernel
theorem dX8_many_34 : decode cX8_many 34 = .ok (.aload_n 0, 1) := by decide +kernel
theorem dX8_many_35 : decode cX8_many 35 = .ok (.getfield 20, 3) := by decide +kernel
theorem dX8_many_38 : decode cX8_many 38 = .ok (.iload_n 3, 1) := by decide +kernel
theorem dX8_many_39 : decode cX8_many 39 = .ok (.iaload, 1) := by decide +kernel
theorem dX8_many_40 : decode cX8_many 40 = .ok (.invokestatic 104, 3) := by decide +kernel
theorem dX8_many_43 : decode cX8_many 43 = .ok (.iload_n 1, 1) := by decide +kernel
theorem dX8_many_44 : decode cX8_many 44 = .ok (.if_icmp .ne 7, 3) := by decide +kernel
theorem dX8_many_47 : decode cX8_many 47 = .ok (.iconst 1, 1) := by decide +kernel
theorem dX8_many_48 : decode cX8_many 48 = .ok (.goto 4, 3) := by decide +kernel
theorem dX8_many_51 : decode cX8_many 51 = .ok (.iconst 0, 1) := by decide +kernel
theorem dX8_many_52 : decode cX8_many 52 = .ok (.iadd, 1) := by decide +kernel
theorem dX8_many_53 : decode cX8_many 53 = .ok (.istore_n 2, 1) := by decide +kernel
theorem dX8_many_54 : decode cX8_many 54 = .ok (.iinc 3 1, 3) := by decide +kernel
theorem dX8_many_57 : decode cX8_many 57 = .ok (.goto (-34), 3) := by decide +kernel
theorem dX8_many_60 : decode cX8_many 60 = .ok (.iload_n 2, 1) := by decide +kernel
theorem dX8_many_61 : decode cX8_many 61 = .ok (.ireturn, 1) := by decide +kernel
theorem dX8_cellAt_0 : decode cX8_cellAt 0 = .ok (.iload_n 1, 1) := by decide +kernel
theorem dX8_cellAt_1 : decode cX8_cellAt 1 = .ok (.ifCond .ge 7, 3) := by decide +kernel
theorem dX8_cellAt_4 : decode cX8_cellAt 4 = .ok (.iconst 0, 1) := by decide +kernel
theorem dX8_cellAt_5 : decode cX8_cellAt 5 = .ok (.goto 25, 3) := by decide +kernel
theorem dX8_cellAt_8 : decode cX8_cellAt 8 = .ok (.iload_n 1, 1) := by decide +kernel
theorem dX8_cellAt_9 : decode cX8_cellAt 9 = .ok (.aload_n 0, 1) := by decide +kernel
theorem dX8_cellAt_10 : decode cX8_cellAt 10 = .ok (.getfield 7, 3) := by decide +kernel
theorem dX8_cellAt_13 : decode cX8_cellAt 13 = .ok (.iconst 0, 1) := by decide +kernel
theorem dX8_cellAt_14 : decode cX8_cellAt 14 = .ok (.iaload, 1) := by decide +kernel
theorem dX8_cellAt_15 : decode cX8_cellAt 15 = .ok (.if_icmp .lt 14, 3) := by decide +kernel
theorem dX8_cellAt_18 : decode cX8_cellAt 18 = .ok (.aload_n 0, 1) := by decide +kernel
theorem dX8_cellAt_19 : decode cX8_cellAt 19 = .ok (.getfield 7, 3) := by decide +kernel
theorem dX8_cellAt_22 : decode cX8_cellAt 22 = .ok (.iconst 0, 1) := by decide +kernel
theorem dX8_cellAt_23 : decode cX8_cellAt 23 = .ok (.iaload, 1) := by decide +kernel
theorem dX8_cellAt_24 : decode cX8_cellAt 24 = .ok (.iconst 1, 1) := by decide +kernel
theorem dX8_cellAt_25 : decode cX8_cellAt 25 = .ok (.isub, 1) := by decide +kernel
theorem dX8_cellAt_26 : decode cX8_cellAt 26 = .ok (.goto 4, 3) := by decide +kernel
theorem dX8_cellAt_29 : decode cX8_cellAt 29 = .ok (.iload_n 1, 1) := by decide +kernel
theorem dX8_cellAt_30 : decode cX8_cellAt 30 = .ok (.ireturn, 1) := by decide +kernel
theorem dX8_first_0 : decode cX8_first 0 = .ok (.aload_n 0, 1) := by decide +kernel
theorem dX8_first_1 : decode cX8_first 1 = .ok (.aload_n 0, 1) := by decide +kernel
theorem dX8_first_2 : decode cX8_first 2 = .ok (.getfield 7, 3) := by decide +kernel
theorem dX8_first_5 : decode cX8_first 5 = .ok (.bipush 11, 2) := by decide +kernel
theorem dX8_first_7 : decode cX8_first 7 = .ok (.iaload, 1) := by decide +kernel
theorem dX8_first_8 : decode cX8_first 8 = .ok (.sipush 1000, 3) := by decide +kernel
theorem dX8_first_11 : decode cX8_first 11 = .ok (.idiv, 1) := by decide +kernel
theorem dX8_first_12 : decode cX8_first 12 = .ok (.invokevirtual 110, 3) := by decide +kernel
theorem dX8_first_15 : decode cX8_first 15 = .ok (.ireturn, 1) := by decide +kernel
theorem dX8_last_0 : decode cX8_last 0 = .ok (.aload_n 0, 1) := by decide +kernel
theorem dX8_last_1 : decode cX8_last 1 = .ok (.aload_n 0, 1) := by decide +kernel
theorem dX8_last_2 : decode cX8_last 2 = .ok (.getfield 7, 3) := by decide +kernel
theorem dX8_last_5 : decode cX8_last 5 = .ok (.bipush 12, 2) := by decide +kernel
theorem dX8_last_7 : decode cX8_last 7 = .ok (.iaload, 1) := by decide +kernel
theorem dX8_last_8 : decode cX8_last 8 = .ok (.sipush 999, 3) := by decide +kernel
theorem dX8_last_11 : decode cX8_last 11 = .ok (.iadd, 1) := by decide +kernel
theorem dX8_last_12 : decode cX8_last 12 = .ok (.sipush 1000, 3) := by decide +kernel
theorem dX8_last_15 : decode cX8_last 15 = .ok (.idiv, 1) := by decide +kernel
theorem dX8_last_16 : decode cX8_last 16 = .ok (.invokevirtual 110, 3) := by decide +kernel
theorem dX8_last_19 : decode cX8_last 19 = .ok (.ireturn, 1) := by decide +kernel
theorem dX8_leastOf_0 : decode cX8_leastOf 0 = .ok (.aload_n 0, 1) := by decide +kernel
theorem dX8_leastOf_1 : decode cX8_leastOf 1 = .ok (.invokevirtual 101, 3) := by decide +kernel
theorem dX8_leastOf_4 : decode cX8_leastOf 4 = .ok (.aload_n 0, 1) := by decide +kernel
theorem dX8_leastOf_5 : decode cX8_leastOf 5 = .ok (.getfield 20, 3) := by decide +kernel
theorem dX8_leastOf_8 : decode cX8_leastOf 8 = .ok (.iload_n 1, 1) := by decide +kernel
theorem dX8_leastOf_9 : decode cX8_leastOf 9 = .ok (.iaload, 1) := by decide +kernel
theorem dX8_leastOf_10 : decode cX8_leastOf 10 = .ok (.istore_n 3, 1) := by decide +kernel
theorem dX8_leastOf_11 : decode cX8_leastOf 11 = .ok (.iload_n 1, 1) := by decide +kernel
theorem dX8_leastOf_12 : decode cX8_leastOf 12 = .ok (.istore 4, 2) := by decide +kernel
theorem dX8_leastOf_14 : decode cX8_leastOf 14 = .ok (.iload 4, 2) := by decide +kernel
theorem dX8_leastOf_16 : decode cX8_leastOf 16 = .ok (.iload_n 2, 1) := by decide +kernel
theorem dX8_leastOf_17 : decode cX8_leastOf 17 = .ok (.if_icmp .gt 32, 3) := by decide +kernel
theorem dX8_leastOf_20 : decode cX8_leastOf 20 = .ok (.aload_n 0, 1) := by decide +kernel
theorem dX8_leastOf_21 : decode cX8_leastOf 21 = .ok (.getfield 20, 3) := by decide +kernel
theorem dX8_leastOf_24 : decode cX8_leastOf 24 = .ok (.iload 4, 2) := by decide +kernel
theorem dX8_leastOf_26 : decode cX8_leastOf 26 = .ok (.iaload, 1) := by decide +kernel
theorem dX8_leastOf_27 : decode cX8_leastOf 27 = .ok (.iload_n 3, 1) := by decide +kernel
theorem dX8_leastOf_28 : decode cX8_leastOf 28 = .ok (.if_icmp .ge 13, 3) := by decide +kernel
theorem dX8_leastOf_31 : decode cX8_leastOf 31 = .ok (.aload_n 0, 1) := by decide +kernel
theorem dX8_leastOf_32 : decode cX8_leastOf 32 = .ok (.getfield 20, 3) := by decide +kernel
theorem dX8_leastOf_35 : decode cX8_leastOf 35 = .ok (.iload 4, 2) := by decide +kernel
theorem dX8_leastOf_37 : decode cX8_leastOf 37 = .ok (.iaload, 1) := by decide +kernel
theorem dX8_leastOf_38 : decode cX8_leastOf 38 = .ok (.goto 4, 3) := by decide +kernel
theorem dX8_leastOf_41 : decode cX8_leastOf 41 = .ok (.iload_n 3, 1) := by decide +kernel
theorem dX8_leastOf_42 : decode cX8_leastOf 42 = .ok (.istore_n 3, 1) := by decide +kernel
theorem dX8_leastOf_43 : decode cX8_leastOf 43 = .ok (.iinc 4 1, 3) := by decide +kernel
theorem dX8_leastOf_46 : decode cX8_leastOf 46 = .ok (.goto (-32), 3) := by decide +kernel
theorem dX8_leastOf_49 : decode cX8_leastOf 49 = .ok (.iload_n 3, 1) := by decide +kernel
theorem dX8_leastOf_50 : decode cX8_leastOf 50 = .ok (.ireturn, 1) := by decide +kernel
theorem dX8_sees_0 : decode cX8_sees 0 = .ok (.aload_n 0, 1) := by decide +kernel
theorem dX8_sees_1 : decode cX8_sees 1 = .ok (.aload_n 0, 1) := by decide +kernel
theorem dX8_sees_2 : decode cX8_sees 2 = .ok (.invokevirtual 113, 3) := by decide +kernel
theorem dX8_sees_5 : decode cX8_sees 5 = .ok (.aload_n 0, 1) := by decide +kernel
theorem dX8_sees_6 : decode cX8_sees 6 = .ok (.invokevirtual 116, 3) := by decide +kernel
theorem dX8_sees_9 : decode cX8_sees 9 = .ok (.invokevirtual 119, 3) := by decide +kernel
theorem dX8_sees_12 : decode cX8_sees 12 = .ok (.invokestatic 104, 3) := by decide +kernel
theorem dX8_sees_15 : decode cX8_sees 15 = .ok (.ireturn, 1) := by decide +kernel
theorem dX8_supervises_0 : decode cX8_supervises 0 = .ok (.aload_n 0, 1) := by decide +kernel
theorem dX8_supervises_1 : decode cX8_supervises 1 = .ok (.getfield 7, 3) := by decide +kernel
theorem dX8_supervises_4 : decode cX8_supervises 4 = .ok (.bipush 10, 2) := by decide +kernel
theorem dX8_supervises_6 : decode cX8_supervises 6 = .ok (.iaload, 1) := by decide +kernel
theorem dX8_supervises_7 : decode cX8_supervises 7 = .ok (.iconst 3, 1) := by decide +kernel
theorem dX8_supervises_8 : decode cX8_supervises 8 = .ok (.if_icmp .ne 4, 3) := by decide +kernel
theorem dX8_supervises_11 : decode cX8_supervises 11 = .ok (.return_, 1) := by decide +kernel
theorem dX8_supervises_12 : decode cX8_supervises 12 = .ok (.aload_n 0, 1) := by decide +kernel
theorem dX8_supervises_13 : decode cX8_supervises 13 = .ok (.getfield 7, 3) := by decide +kernel
theorem dX8_supervises_16 : decode cX8_supervises 16 = .ok (.bipush 9, 2) := by decide +kernel
theorem dX8_supervises_18 : decode cX8_supervises 18 = .ok (.iaload, 1) := by decide +kernel
theorem dX8_supervises_19 : decode cX8_supervises 19 = .ok (.invokestatic 104, 3) := by decide +kernel
theorem dX8_supervises_22 : decode cX8_supervises 22 = .ok (.aload_n 0, 1) := by decide +kernel
theorem dX8_supervises_23 : decode cX8_supervises 23 = .ok (.invokevirtual 122, 3) := by decide +kernel
theorem dX8_supervises_26 : decode cX8_supervises 26 = .ok (.isub, 1) := by decide +kernel
theorem dX8_supervises_27 : decode cX8_supervises 27 = .ok (.istore_n 1, 1) := by decide +kernel
theorem dX8_supervises_28 : decode cX8_supervises 28 = .ok (.iload_n 1, 1) := by decide +kernel
theorem dX8_supervises_29 : decode cX8_supervises 29 = .ok (.aload_n 0, 1) := by decide +kernel
theorem dX8_supervises_30 : decode cX8_supervises 30 = .ok (.getfield 7, 3) := by decide +kernel
theorem dX8_supervises_33 : decode cX8_supervises 33 = .ok (.bipush 7, 2) := by decide +kernel
theorem dX8_supervises_35 : decode cX8_supervises 35 = .ok (.iaload, 1) := by decide +kernel
theorem dX8_supervises_36 : decode cX8_supervises 36 = .ok (.if_icmp .le 25, 3) := by decide +kernel
theorem dX8_supervises_39 : decode cX8_supervises 39 = .ok (.aload_n 0, 1) := by decide +kernel
theorem dX8_supervises_40 : decode cX8_supervises 40 = .ok (.getfield 7, 3) := by decide +kernel
theorem dX8_supervises_43 : decode cX8_supervises 43 = .ok (.bipush 10, 2) := by decide +kernel
theorem dX8_supervises_45 : decode cX8_supervises 45 = .ok (.iconst 3, 1) := by decide +kernel
theorem dX8_supervises_46 : decode cX8_supervises 46 = .ok (.iastore, 1) := by decide +kernel
theorem dX8_supervises_47 : decode cX8_supervises 47 = .ok (.aload_n 0, 1) := by decide +kernel
theorem dX8_supervises_48 : decode cX8_supervises 48 = .ok (.getfield 7, 3) := by decide +kernel
theorem dX8_supervises_51 : decode cX8_supervises 51 = .ok (.bipush 13, 2) := by decide +kernel
theorem dX8_supervises_53 : decode cX8_supervises 53 = .ok (.dup2, 1) := by decide +kernel
theorem dX8_supervises_54 : decode cX8_supervises 54 = .ok (.iaload, 1) := by decide +kernel
theorem dX8_supervises_55 : decode cX8_supervises 55 = .ok (.iconst 1, 1) := by decide +kernel
theorem dX8_supervises_56 : decode cX8_supervises 56 = .ok (.iadd, 1) := by decide +kernel
theorem dX8_supervises_57 : decode cX8_supervises 57 = .ok (.iastore, 1) := by decide +kernel
theorem dX8_supervises_58 : decode cX8_supervises 58 = .ok (.goto 69, 3) := by decide +kernel
theorem dX8_supervises_61 : decode cX8_supervises 61 = .ok (.iload_n 1, 1) := by decide +kernel
theorem dX8_supervises_62 : decode cX8_supervises 62 = .ok (.aload_n 0, 1) := by decide +kernel
theorem dX8_supervises_63 : decode cX8_supervises 63 = .ok (.getfield 7, 3) := by decide +kernel
theorem dX8_supervises_66 : decode cX8_supervises 66 = .ok (.bipush 6, 2) := by decide +kernel
theorem dX8_supervises_68 : decode cX8_supervises 68 = .ok (.iaload, 1) := by decide +kernel
theorem dX8_supervises_69 : decode cX8_supervises 69 = .ok (.if_icmp .le 14, 3) := by decide +kernel
theorem dX8_supervises_72 : decode cX8_supervises 72 = .ok (.aload_n 0, 1) := by decide +kernel
theorem dX8_supervises_73 : decode cX8_supervises 73 = .ok (.getfield 7, 3) := by decide +kernel
theorem dX8_supervises_76 : decode cX8_supervises 76 = .ok (.bipush 10, 2) := by decide +kernel
theorem dX8_supervises_78 : decode cX8_supervises 78 = .ok (.iconst 2, 1) := by decide +kernel
theorem dX8_supervises_79 : decode cX8_supervises 79 = .ok (.iastore, 1) := by decide +kernel
theorem dX8_supervises_80 : decode cX8_supervises 80 = .ok (.goto 47, 3) := by decide +kernel
theorem dX8_supervises_83 : decode cX8_supervises 83 = .ok (.iload_n 1, 1) := by decide +kernel
theorem dX8_supervises_84 : decode cX8_supervises 84 = .ok (.aload_n 0, 1) := by decide +kernel
theorem dX8_supervises_85 : decode cX8_supervises 85 = .ok (.getfield 7, 3) := by decide +kernel
theorem dX8_supervises_88 : decode cX8_supervises 88 = .ok (.iconst 5, 1) := by decide +kernel
theorem dX8_supervises_89 : decode cX8_supervises 89 = .ok (.iaload, 1) := by decide +kernel
theorem dX8_supervises_90 : decode cX8_supervises 90 = .ok (.if_icmp .le 29, 3) := by decide +kernel
theorem dX8_supervises_93 : decode cX8_supervises 93 = .ok (.aload_n 0, 1) := by decide +kernel
theorem dX8_supervises_94 : decode cX8_supervises 94 = .ok (.getfield 7, 3) := by decide +kernel
theorem dX8_supervises_97 : decode cX8_supervises 97 = .ok (.bipush 10, 2) := by decide +kernel
theorem dX8_supervises_99 : decode cX8_supervises 99 = .ok (.aload_n 0, 1) := by decide +kernel
theorem dX8_supervises_100 : decode cX8_supervises 100 = .ok (.getfield 7, 3) := by decide +kernel
theorem dX8_supervises_103 : decode cX8_supervises 103 = .ok (.bipush 10, 2) := by decide +kernel
theorem dX8_supervises_105 : decode cX8_supervises 105 = .ok (.iaload, 1) := by decide +kernel
theorem dX8_supervises_106 : decode cX8_supervises 106 = .ok (.iconst 2, 1) := by decide +kernel
theorem dX8_supervises_107 : decode cX8_supervises 107 = .ok (.if_icmp .ne 7, 3) := by decide +kernel
theorem dX8_supervises_110 : decode cX8_supervises 110 = .ok (.iconst 2, 1) := by decide +kernel
theorem dX8_supervises_111 : decode cX8_supervises 111 = .ok (.goto 4, 3) := by decide +kernel
theorem dX8_supervises_114 : decode cX8_supervises 114 = .ok (.iconst 1, 1) := by decide +kernel
theorem dX8_supervises_115 : decode cX8_supervises 115 = .ok (.iastore, 1) := by decide +kernel
theorem dX8_supervises_116 : decode cX8_supervises 116 = .ok (.goto 11, 3) := by decide +kernel
theorem dX8_supervises_119 : decode cX8_supervises 119 = .ok (.aload_n 0, 1) := by decide +kernel
theorem dX8_supervises_120 : decode cX8_supervises 120 = .ok (.getfield 7, 3) := by decide +kernel
theorem dX8_supervises_123 : decode cX8_supervises 123 = .ok (.bipush 10, 2) := by decide +kernel
theorem dX8_supervises_125 : decode cX8_supervises 125 = .ok (.iconst 0, 1) := by decide +kernel
theorem dX8_supervises_126 : decode cX8_supervises 126 = .ok (.iastore, 1) := by decide +kernel
theorem dX8_supervises_127 : decode cX8_supervises 127 = .ok (.return_, 1) := by decide +kernel
theorem dX8_gainOf_0 : decode cX8_gainOf 0 = .ok (.aload_n 0, 1) := by decide +kernel
theorem dX8_gainOf_1 : decode cX8_gainOf 1 = .ok (.getfield 7, 3) := by decide +kernel
theorem dX8_gainOf_4 : decode cX8_gainOf 4 = .ok (.bipush 8, 2) := by decide +kernel
theorem dX8_gainOf_6 : decode cX8_gainOf 6 = .ok (.iaload, 1) := by decide +kernel
theorem dX8_gainOf_7 : decode cX8_gainOf 7 = .ok (.istore_n 3, 1) := by decide +kernel
theorem dX8_gainOf_8 : decode cX8_gainOf 8 = .ok (.iload_n 1, 1) := by decide +kernel
theorem dX8_gainOf_9 : decode cX8_gainOf 9 = .ok (.iconst 3, 1) := by decide +kernel
theorem dX8_gainOf_10 : decode cX8_gainOf 10 = .ok (.if_icmp .ne 10, 3) := by decide +kernel
theorem dX8_gainOf_13 : decode cX8_gainOf 13 = .ok (.aload_n 0, 1) := by decide +kernel
theorem dX8_gainOf_14 : decode cX8_gainOf 14 = .ok (.iload_n 3, 1) := by decide +kernel
theorem dX8_gainOf_15 : decode cX8_gainOf 15 = .ok (.invokevirtual 92, 3) := by decide +kernel
theorem dX8_gainOf_18 : decode cX8_gainOf 18 = .ok (.ineg, 1) := by decide +kernel
theorem dX8_gainOf_19 : decode cX8_gainOf 19 = .ok (.ireturn, 1) := by decide +kernel
theorem dX8_gainOf_20 : decode cX8_gainOf 20 = .ok (.iload_n 1, 1) := by decide +kernel
theorem dX8_gainOf_21 : decode cX8_gainOf 21 = .ok (.iconst 2, 1) := by decide +kernel
theorem dX8_gainOf_22 : decode cX8_gainOf 22 = .ok (.if_icmp .ne 21, 3) := by decide +kernel
theorem dX8_gainOf_25 : decode cX8_gainOf 25 = .ok (.iconst 3, 1) := by decide +kernel
theorem dX8_gainOf_26 : decode cX8_gainOf 26 = .ok (.aload_n 0, 1) := by decide +kernel
theorem dX8_gainOf_27 : decode cX8_gainOf 27 = .ok (.getfield 7, 3) := by decide +kernel
theorem dX8_gainOf_30 : decode cX8_gainOf 30 = .ok (.iconst 1, 1) := by decide +kernel
theorem dX8_gainOf_31 : decode cX8_gainOf 31 = .ok (.iaload, 1) := by decide +kernel
theorem dX8_gainOf_32 : decode cX8_gainOf 32 = .ok (.imul, 1) := by decide +kernel
theorem dX8_gainOf_33 : decode cX8_gainOf 33 = .ok (.iconst 4, 1) := by decide +kernel
theorem dX8_gainOf_34 : decode cX8_gainOf 34 = .ok (.idiv, 1) := by decide +kernel
theorem dX8_gainOf_35 : decode cX8_gainOf 35 = .ok (.ineg, 1) := by decide +kernel
theorem dX8_gainOf_36 : decode cX8_gainOf 36 = .ok (.aload_n 0, 1) := by decide +kernel
theorem dX8_gainOf_37 : decode cX8_gainOf 37 = .ok (.iload_n 3, 1) := by decide +kernel
theorem dX8_gainOf_38 : decode cX8_gainOf 38 = .ok (.invokevirtual 49, 3) := by decide +kernel
theorem dX8_gainOf_41 : decode cX8_gainOf 41 = .ok (.isub, 1) := by decide +kernel
theorem dX8_gainOf_42 : decode cX8_gainOf 42 = .ok (.ireturn, 1) := by decide +kernel
theorem dX8_gainOf_43 : decode cX8_gainOf 43 = .ok (.iload_n 2, 1) := by decide +kernel
theorem dX8_gainOf_44 : decode cX8_gainOf 44 = .ok (.ifCond .ge 15, 3) := by decide +kernel
theorem dX8_gainOf_47 : decode cX8_gainOf 47 = .ok (.aload_n 0, 1) := by decide +kernel
theorem dX8_gainOf_48 : decode cX8_gainOf 48 = .ok (.getfield 7, 3) := by decide +kernel
theorem dX8_gainOf_51 : decode cX8_gainOf 51 = .ok (.iconst 1, 1) := by decide +kernel
theorem dX8_gainOf_52 : decode cX8_gainOf 52 = .ok (.iaload, 1) := by decide +kernel
theorem dX8_gainOf_53 : decode cX8_gainOf 53 = .ok (.iconst 2, 1) := by decide +kernel
theorem dX8_gainOf_54 : decode cX8_gainOf 54 = .ok (.idiv, 1) := by decide +kernel
theorem dX8_gainOf_55 : decode cX8_gainOf 55 = .ok (.ineg, 1) := by decide +kernel
theorem dX8_gainOf_56 : decode cX8_gainOf 56 = .ok (.goto 17, 3) := by decide +kernel
theorem dX8_gainOf_59 : decode cX8_gainOf 59 = .ok (.iload_n 2, 1) := by decide +kernel
theorem dX8_gainOf_60 : decode cX8_gainOf 60 = .ok (.ifCond .le 12, 3) := by decide +kernel
theorem dX8_gainOf_63 : decode cX8_gainOf 63 = .ok (.aload_n 0, 1) := by decide +kernel
theorem dX8_gainOf_64 : decode cX8_gainOf 64 = .ok (.getfield 7, 3) := by decide +kernel
theorem dX8_gainOf_67 : decode cX8_gainOf 67 = .ok (.iconst 2, 1) := by decide +kernel
theorem dX8_gainOf_68 : decode cX8_gainOf 68 = .ok (.iaload, 1) := by decide +kernel
theorem dX8_gainOf_69 : decode cX8_gainOf 69 = .ok (.goto 4, 3) := by decide +kernel
theorem dX8_gainOf_72 : decode cX8_gainOf 72 = .ok (.iconst 0, 1) := by decide +kernel
theorem dX8_gainOf_73 : decode cX8_gainOf 73 = .ok (.istore 4, 2) := by decide +kernel
theorem dX8_gainOf_75 : decode cX8_gainOf 75 = .ok (.iload 4, 2) := by decide +kernel
theorem dX8_gainOf_77 : decode cX8_gainOf 77 = .ok (.aload_n 0, 1) := by decide +kernel
theorem dX8_gainOf_78 : decode cX8_gainOf 78 = .ok (.iload_n 3, 1) := by decide +kernel
theorem dX8_gainOf_79 : decode cX8_gainOf 79 = .ok (.invokevirtual 49, 3) := by decide +kernel
theorem dX8_gainOf_82 : decode cX8_gainOf 82 = .ok (.isub, 1) := by decide +kernel
theorem dX8_gainOf_83 : decode cX8_gainOf 83 = .ok (.ireturn, 1) := by decide +kernel
theorem dX8_goesOn_0 : decode cX8_goesOn 0 = .ok (.aload_n 0, 1) := by decide +kernel
theorem dX8_goesOn_1 : decode cX8_goesOn 1 = .ok (.getfield 7, 3) := by decide +kernel
theorem dX8_goesOn_4 : decode cX8_goesOn 4 = .ok (.bipush 9, 2) := by decide +kernel
theorem dX8_goesOn_6 : decode cX8_goesOn 6 = .ok (.iaload, 1) := by decide +kernel
theorem dX8_goesOn_7 : decode cX8_goesOn 7 = .ok (.aload_n 0, 1) := by decide +kernel
theorem dX8_goesOn_8 : decode cX8_goesOn 8 = .ok (.aload_n 0, 1) := by decide +kernel
theorem dX8_goesOn_9 : decode cX8_goesOn 9 = .ok (.getfield 7, 3) := by decide +kernel
theorem dX8_goesOn_12 : decode cX8_goesOn 12 = .ok (.bipush 10, 2) := by decide +kernel
theorem dX8_goesOn_14 : decode cX8_goesOn 14 = .ok (.iaload, 1) := by decide +kernel
theorem dX8_goesOn_15 : decode cX8_goesOn 15 = .ok (.iload_n 1, 1) := by decide +kernel
theorem dX8_goesOn_16 : decode cX8_goesOn 16 = .ok (.invokevirtual 125, 3) := by decide +kernel
theorem dX8_goesOn_19 : decode cX8_goesOn 19 = .ok (.iadd, 1) := by decide +kernel
theorem dX8_goesOn_20 : decode cX8_goesOn 20 = .ok (.istore_n 2, 1) := by decide +kernel
theorem dX8_goesOn_21 : decode cX8_goesOn 21 = .ok (.iload_n 2, 1) := by decide +kernel
theorem dX8_goesOn_22 : decode cX8_goesOn 22 = .ok (.ifCond .le 25, 3) := by decide +kernel
theorem dX8_goesOn_25 : decode cX8_goesOn 25 = .ok (.aload_n 0, 1) := by decide +kernel
theorem dX8_goesOn_26 : decode cX8_goesOn 26 = .ok (.getfield 7, 3) := by decide +kernel
theorem dX8_goesOn_29 : decode cX8_goesOn 29 = .ok (.bipush 8, 2) := by decide +kernel
theorem dX8_goesOn_31 : decode cX8_goesOn 31 = .ok (.iaload, 1) := by decide +kernel
theorem dX8_goesOn_32 : decode cX8_goesOn 32 = .ok (.aload_n 0, 1) := by decide +kernel
theorem dX8_goesOn_33 : decode cX8_goesOn 33 = .ok (.getfield 7, 3) := by decide +kernel
theorem dX8_goesOn_36 : decode cX8_goesOn 36 = .ok (.iconst 0, 1) := by decide +kernel
theorem dX8_goesOn_37 : decode cX8_goesOn 37 = .ok (.iaload, 1) := by decide +kernel
theorem dX8_goesOn_38 : decode cX8_goesOn 38 = .ok (.iconst 1, 1) := by decide +kernel
theorem dX8_goesOn_39 : decode cX8_goesOn 39 = .ok (.isub, 1) := by decide +kernel
theorem dX8_goesOn_40 : decode cX8_goesOn 40 = .ok (.if_icmp .ge 7, 3) := by decide +kernel
theorem dX8_goesOn_43 : decode cX8_goesOn 43 = .ok (.iconst 1, 1) := by decide +kernel
theorem dX8_goesOn_44 : decode cX8_goesOn 44 = .ok (.goto 4, 3) := by decide +kernel
theorem dX8_goesOn_47 : decode cX8_goesOn 47 = .ok (.iconst 0, 1) := by decide +kernel
theorem dX8_goesOn_48 : decode cX8_goesOn 48 = .ok (.istore_n 3, 1) := by decide +kernel
theorem dX8_goesOn_49 : decode cX8_goesOn 49 = .ok (.aload_n 0, 1) := by decide +kernel
theorem dX8_goesOn_50 : decode cX8_goesOn 50 = .ok (.getfield 7, 3) := by decide +kernel
theorem dX8_goesOn_53 : decode cX8_goesOn 53 = .ok (.bipush 14, 2) := by decide +kernel
theorem dX8_goesOn_55 : decode cX8_goesOn 55 = .ok (.dup2, 1) := by decide +kernel
theorem dX8_goesOn_56 : decode cX8_goesOn 56 = .ok (.iaload, 1) := by decide +kernel
theorem dX8_goesOn_57 : decode cX8_goesOn 57 = .ok (.iload_n 2, 1) := by decide +kernel
theorem dX8_goesOn_58 : decode cX8_goesOn 58 = .ok (.ifCond .le 11, 3) := by decide +kernel
theorem dX8_goesOn_61 : decode cX8_goesOn 61 = .ok (.iload_n 3, 1) := by decide +kernel
theorem dX8_goesOn_62 : decode cX8_goesOn 62 = .ok (.ifCond .ne 7, 3) := by decide +kernel
theorem dX8_goesOn_65 : decode cX8_goesOn 65 = .ok (.iconst 1, 1) := by decide +kernel
theorem dX8_goesOn_66 : decode cX8_goesOn 66 = .ok (.goto 4, 3) := by decide +kernel
theorem dX8_goesOn_69 : decode cX8_goesOn 69 = .ok (.iconst 0, 1) := by decide +kernel
theorem dX8_goesOn_70 : decode cX8_goesOn 70 = .ok (.iadd, 1) := by decide +kernel
theorem dX8_goesOn_71 : decode cX8_goesOn 71 = .ok (.iastore, 1) := by decide +kernel
theorem dX8_goesOn_72 : decode cX8_goesOn 72 = .ok (.aload_n 0, 1) := by decide +kernel
theorem dX8_goesOn_73 : decode cX8_goesOn 73 = .ok (.getfield 7, 3) := by decide +kernel
theorem dX8_goesOn_76 : decode cX8_goesOn 76 = .ok (.bipush 9, 2) := by decide +kernel
theorem dX8_goesOn_78 : decode cX8_goesOn 78 = .ok (.iload_n 3, 1) := by decide +kernel
theorem dX8_goesOn_79 : decode cX8_goesOn 79 = .ok (.ifCond .eq 7, 3) := by decide +kernel
theorem dX8_goesOn_82 : decode cX8_goesOn 82 = .ok (.iload_n 2, 1) := by decide +kernel
theorem dX8_goesOn_83 : decode cX8_goesOn 83 = .ok (.goto 4, 3) := by decide +kernel
theorem dX8_goesOn_86 : decode cX8_goesOn 86 = .ok (.iconst 0, 1) := by decide +kernel
theorem dX8_goesOn_87 : decode cX8_goesOn 87 = .ok (.iastore, 1) := by decide +kernel
theorem dX8_goesOn_88 : decode cX8_goesOn 88 = .ok (.iload_n 3, 1) := by decide +kernel
theorem dX8_goesOn_89 : decode cX8_goesOn 89 = .ok (.ifCond .eq 124, 3) := by decide +kernel
theorem dX8_goesOn_92 : decode cX8_goesOn 92 = .ok (.aload_n 0, 1) := by decide +kernel
theorem dX8_goesOn_93 : decode cX8_goesOn 93 = .ok (.getfield 7, 3) := by decide +kernel
theorem dX8_goesOn_96 : decode cX8_goesOn 96 = .ok (.bipush 8, 2) := by decide +kernel
theorem dX8_goesOn_98 : decode cX8_goesOn 98 = .ok (.dup2, 1) := by decide +kernel
theorem dX8_goesOn_99 : decode cX8_goesOn 99 = .ok (.iaload, 1) := by decide +kernel
theorem dX8_goesOn_100 : decode cX8_goesOn 100 = .ok (.iconst 1, 1) := by decide +kernel
theorem dX8_goesOn_101 : decode cX8_goesOn 101 = .ok (.iadd, 1) := by decide +kernel
theorem dX8_goesOn_102 : decode cX8_goesOn 102 = .ok (.iastore, 1) := by decide +kernel
theorem dX8_goesOn_103 : decode cX8_goesOn 103 = .ok (.aload_n 0, 1) := by decide +kernel
theorem dX8_goesOn_104 : decode cX8_goesOn 104 = .ok (.getfield 7, 3) := by decide +kernel
theorem dX8_goesOn_107 : decode cX8_goesOn 107 = .ok (.bipush 15, 2) := by decide +kernel
theorem dX8_goesOn_109 : decode cX8_goesOn 109 = .ok (.dup2, 1) := by decide +kernel
theorem dX8_goesOn_110 : decode cX8_goesOn 110 = .ok (.iaload, 1) := by decide +kernel
theorem dX8_goesOn_111 : decode cX8_goesOn 111 = .ok (.iconst 1, 1) := by decide +kernel
theorem dX8_goesOn_112 : decode cX8_goesOn 112 = .ok (.iadd, 1) := by decide +kernel
theorem dX8_goesOn_113 : decode cX8_goesOn 113 = .ok (.iastore, 1) := by decide +kernel
theorem dX8_goesOn_114 : decode cX8_goesOn 114 = .ok (.aload_n 0, 1) := by decide +kernel
theorem dX8_goesOn_115 : decode cX8_goesOn 115 = .ok (.getfield 7, 3) := by decide +kernel
theorem dX8_goesOn_118 : decode cX8_goesOn 118 = .ok (.bipush 11, 2) := by decide +kernel
theorem dX8_goesOn_120 : decode cX8_goesOn 120 = .ok (.dup2, 1) := by decide +kernel
theorem dX8_goesOn_121 : decode cX8_goesOn 121 = .ok (.iaload, 1) := by decide +kernel
theorem dX8_goesOn_122 : decode cX8_goesOn 122 = .ok (.sipush 1000, 3) := by decide +kernel
theorem dX8_goesOn_125 : decode cX8_goesOn 125 = .ok (.aload_n 0, 1) := by decide +kernel
theorem dX8_goesOn_126 : decode cX8_goesOn 126 = .ok (.getfield 7, 3) := by decide +kernel
theorem dX8_goesOn_129 : decode cX8_goesOn 129 = .ok (.iconst 4, 1) := by decide +kernel
theorem dX8_goesOn_130 : decode cX8_goesOn 130 = .ok (.iaload, 1) := by decide +kernel
theorem dX8_goesOn_131 : decode cX8_goesOn 131 = .ok (.isub, 1) := by decide +kernel
theorem dX8_goesOn_132 : decode cX8_goesOn 132 = .ok (.iadd, 1) := by decide +kernel
theorem dX8_goesOn_133 : decode cX8_goesOn 133 = .ok (.iastore, 1) := by decide +kernel
theorem dX8_goesOn_134 : decode cX8_goesOn 134 = .ok (.aload_n 0, 1) := by decide +kernel
theorem dX8_goesOn_135 : decode cX8_goesOn 135 = .ok (.getfield 7, 3) := by decide +kernel
theorem dX8_goesOn_138 : decode cX8_goesOn 138 = .ok (.bipush 12, 2) := by decide +kernel
theorem dX8_goesOn_140 : decode cX8_goesOn 140 = .ok (.dup2, 1) := by decide +kernel
theorem dX8_goesOn_141 : decode cX8_goesOn 141 = .ok (.iaload, 1) := by decide +kernel
theorem dX8_goesOn_142 : decode cX8_goesOn 142 = .ok (.sipush 1000, 3) := by decide +kernel
theorem dX8_goesOn_145 : decode cX8_goesOn 145 = .ok (.aload_n 0, 1) := by decide +kernel
theorem dX8_goesOn_146 : decode cX8_goesOn 146 = .ok (.getfield 7, 3) := by decide +kernel
theorem dX8_goesOn_149 : decode cX8_goesOn 149 = .ok (.iconst 4, 1) := by decide +kernel
theorem dX8_goesOn_150 : decode cX8_goesOn 150 = .ok (.iaload, 1) := by decide +kernel
theorem dX8_goesOn_151 : decode cX8_goesOn 151 = .ok (.iadd, 1) := by decide +kernel
theorem dX8_goesOn_152 : decode cX8_goesOn 152 = .ok (.iadd, 1) := by decide +kernel
theorem dX8_goesOn_153 : decode cX8_goesOn 153 = .ok (.iastore, 1) := by decide +kernel
theorem dX8_goesOn_154 : decode cX8_goesOn 154 = .ok (.aload_n 0, 1) := by decide +kernel
theorem dX8_goesOn_155 : decode cX8_goesOn 155 = .ok (.getfield 7, 3) := by decide +kernel
theorem dX8_goesOn_158 : decode cX8_goesOn 158 = .ok (.bipush 16, 2) := by decide +kernel
theorem dX8_goesOn_160 : decode cX8_goesOn 160 = .ok (.iconst 3, 1) := by decide +kernel
theorem dX8_goesOn_161 : decode cX8_goesOn 161 = .ok (.aload_n 0, 1) := by decide +kernel
theorem dX8_goesOn_162 : decode cX8_goesOn 162 = .ok (.getfield 7, 3) := by decide +kernel
theorem dX8_goesOn_165 : decode cX8_goesOn 165 = .ok (.bipush 8, 2) := by decide +kernel
theorem dX8_goesOn_167 : decode cX8_goesOn 167 = .ok (.iaload, 1) := by decide +kernel
theorem dX8_goesOn_168 : decode cX8_goesOn 168 = .ok (.imul, 1) := by decide +kernel
theorem dX8_goesOn_169 : decode cX8_goesOn 169 = .ok (.iadd, 1) := by decide +kernel
theorem dX8_goesOn_170 : decode cX8_goesOn 170 = .ok (.iconst 2, 1) := by decide +kernel
theorem dX8_goesOn_171 : decode cX8_goesOn 171 = .ok (.iadd, 1) := by decide +kernel
theorem dX8_goesOn_172 : decode cX8_goesOn 172 = .ok (.iaload, 1) := by decide +kernel
theorem dX8_goesOn_173 : decode cX8_goesOn 173 = .ok (.iconst 1, 1) := by decide +kernel
theorem dX8_goesOn_174 : decode cX8_goesOn 174 = .ok (.if_icmp .ne 39, 3) := by decide +kernel
theorem dX8_goesOn_177 : decode cX8_goesOn 177 = .ok (.aload_n 0, 1) := by decide +kernel
theorem dX8_goesOn_178 : decode cX8_goesOn 178 = .ok (.getfield 7, 3) := by decide +kernel
theorem dX8_goesOn_181 : decode cX8_goesOn 181 = .ok (.bipush 11, 2) := by decide +kernel
theorem dX8_goesOn_183 : decode cX8_goesOn 183 = .ok (.sipush 1000, 3) := by decide +kernel
theorem dX8_goesOn_186 : decode cX8_goesOn 186 = .ok (.aload_n 0, 1) := by decide +kernel
theorem dX8_goesOn_187 : decode cX8_goesOn 187 = .ok (.getfield 7, 3) := by decide +kernel
theorem dX8_goesOn_190 : decode cX8_goesOn 190 = .ok (.bipush 8, 2) := by decide +kernel
theorem dX8_goesOn_192 : decode cX8_goesOn 192 = .ok (.iaload, 1) := by decide +kernel
theorem dX8_goesOn_193 : decode cX8_goesOn 193 = .ok (.imul, 1) := by decide +kernel
theorem dX8_goesOn_194 : decode cX8_goesOn 194 = .ok (.iastore, 1) := by decide +kernel
theorem dX8_goesOn_195 : decode cX8_goesOn 195 = .ok (.aload_n 0, 1) := by decide +kernel
theorem dX8_goesOn_196 : decode cX8_goesOn 196 = .ok (.getfield 7, 3) := by decide +kernel
theorem dX8_goesOn_199 : decode cX8_goesOn 199 = .ok (.bipush 12, 2) := by decide +kernel
theorem dX8_goesOn_201 : decode cX8_goesOn 201 = .ok (.sipush 1000, 3) := by decide +kernel
theorem dX8_goesOn_204 : decode cX8_goesOn 204 = .ok (.aload_n 0, 1) := by decide +kernel
theorem dX8_goesOn_205 : decode cX8_goesOn 205 = .ok (.getfield 7, 3) := by decide +kernel
theorem dX8_goesOn_208 : decode cX8_goesOn 208 = .ok (.bipush 8, 2) := by decide +kernel
theorem dX8_goesOn_210 : decode cX8_goesOn 210 = .ok (.iaload, 1) := by decide +kernel
theorem dX8_goesOn_211 : decode cX8_goesOn 211 = .ok (.imul, 1) := by decide +kernel
theorem dX8_goesOn_212 : decode cX8_goesOn 212 = .ok (.iastore, 1) := by decide +kernel
theorem dX8_goesOn_213 : decode cX8_goesOn 213 = .ok (.aload_n 0, 1) := by decide +kernel
theorem dX8_goesOn_214 : decode cX8_goesOn 214 = .ok (.invokevirtual 128, 3) := by decide +kernel
theorem dX8_goesOn_217 : decode cX8_goesOn 217 = .ok (.iload_n 3, 1) := by decide +kernel
theorem dX8_goesOn_218 : decode cX8_goesOn 218 = .ok (.ireturn, 1) := by decide +kernel
theorem dX8_handle_0 : decode cX8_handle 0 = .ok (.aload_n 0, 1) := by decide +kernel
theorem dX8_handle_1 : decode cX8_handle 1 = .ok (.aload_n 0, 1) := by decide +kernel
theorem dX8_handle_2 : decode cX8_handle 2 = .ok (.invokevirtual 116, 3) := by decide +kernel
theorem dX8_handle_5 : decode cX8_handle 5 = .ok (.iconst 1, 1) := by decide +kernel
theorem dX8_handle_6 : decode cX8_handle 6 = .ok (.iadd, 1) := by decide +kernel
theorem dX8_handle_7 : decode cX8_handle 7 = .ok (.invokevirtual 110, 3) := by decide +kernel
theorem dX8_handle_10 : decode cX8_handle 10 = .ok (.istore_n 1, 1) := by decide +kernel
theorem dX8_handle_11 : decode cX8_handle 11 = .ok (.aload_n 0, 1) := by decide +kernel
theorem dX8_handle_12 : decode cX8_handle 12 = .ok (.aload_n 0, 1) := by decide +kernel
theorem dX8_handle_13 : decode cX8_handle 13 = .ok (.invokevirtual 113, 3) := by decide +kernel
theorem dX8_handle_16 : decode cX8_handle 16 = .ok (.iload_n 1, 1) := by decide +kernel
theorem dX8_handle_17 : decode cX8_handle 17 = .ok (.invokevirtual 119, 3) := by decide +kernel
theorem dX8_handle_20 : decode cX8_handle 20 = .ok (.istore_n 2, 1) := by decide +kernel
theorem dX8_handle_21 : decode cX8_handle 21 = .ok (.iconst 1, 1) := by decide +kernel
theorem dX8_handle_22 : decode cX8_handle 22 = .ok (.istore_n 3, 1) := by decide +kernel
theorem dX8_handle_23 : decode cX8_handle 23 = .ok (.iload_n 3, 1) := by decide +kernel
theorem dX8_handle_24 : decode cX8_handle 24 = .ok (.iconst (-1), 1) := by decide +kernel
theorem dX8_handle_25 : decode cX8_handle 25 = .ok (.if_icmp .le 29, 3) := by decide +kernel
theorem dX8_handle_28 : decode cX8_handle 28 = .ok (.aload_n 0, 1) := by decide +kernel
theorem dX8_handle_29 : decode cX8_handle 29 = .ok (.getfield 7, 3) := by decide +kernel
theorem dX8_handle_32 : decode cX8_handle 32 = .ok (.bipush 9, 2) := by decide +kernel
theorem dX8_handle_34 : decode cX8_handle 34 = .ok (.iaload, 1) := by decide +kernel
theorem dX8_handle_35 : decode cX8_handle 35 = .ok (.aload_n 0, 1) := by decide +kernel
theorem dX8_handle_36 : decode cX8_handle 36 = .ok (.iconst 0, 1) := by decide +kernel
theorem dX8_handle_37 : decode cX8_handle 37 = .ok (.iload_n 3, 1) := by decide +kernel
theorem dX8_handle_38 : decode cX8_handle 38 = .ok (.invokevirtual 125, 3) := by decide +kernel
theorem dX8_handle_41 : decode cX8_handle 41 = .ok (.iadd, 1) := by decide +kernel
theorem dX8_handle_42 : decode cX8_handle 42 = .ok (.iload_n 2, 1) := by decide +kernel
theorem dX8_handle_43 : decode cX8_handle 43 = .ok (.if_icmp .gt 5, 3) := by decide +kernel
theorem dX8_handle_46 : decode cX8_handle 46 = .ok (.iload_n 3, 1) := by decide +kernel
theorem dX8_handle_47 : decode cX8_handle 47 = .ok (.ireturn, 1) := by decide +kernel
theorem dX8_handle_48 : decode cX8_handle 48 = .ok (.iinc 3 (-1), 3) := by decide +kernel
theorem dX8_handle_51 : decode cX8_handle 51 = .ok (.goto (-28), 3) := by decide +kernel
theorem dX8_handle_54 : decode cX8_handle 54 = .ok (.iconst (-1), 1) := by decide +kernel
theorem dX8_handle_55 : decode cX8_handle 55 = .ok (.ireturn, 1) := by decide +kernel
theorem dX8_places_0 : decode cX8_places 0 = .ok (.aload_n 0, 1) := by decide +kernel
theorem dX8_places_1 : decode cX8_places 1 = .ok (.iload_n 1, 1) := by decide +kernel
theorem dX8_places_2 : decode cX8_places 2 = .ok (.invokevirtual 70, 3) := by decide +kernel
theorem dX8_places_5 : decode cX8_places 5 = .ok (.ifCond .eq 13, 3) := by decide +kernel
theorem dX8_places_8 : decode cX8_places 8 = .ok (.iload_n 2, 1) := by decide +kernel
theorem dX8_places_9 : decode cX8_places 9 = .ok (.iconst 0, 1) := by decide +kernel
theorem dX8_places_10 : decode cX8_places 10 = .ok (.bipush 99, 2) := by decide +kernel
theorem dX8_places_12 : decode cX8_places 12 = .ok (.invokestatic 45, 3) := by decide +kernel
theorem dX8_places_15 : decode cX8_places 15 = .ok (.ifCond .ne 8, 3) := by decide +kernel
theorem dX8_places_18 : decode cX8_places 18 = .ok (.aload_n 0, 1) := by decide +kernel
theorem dX8_places_19 : decode cX8_places 19 = .ok (.invokevirtual 60, 3) := by decide +kernel
theorem dX8_places_22 : decode cX8_places 22 = .ok (.ireturn, 1) := by decide +kernel
theorem dX8_places_23 : decode cX8_places 23 = .ok (.aload_n 0, 1) := by decide +kernel
theorem dX8_places_24 : decode cX8_places 24 = .ok (.invokevirtual 64, 3) := by decide +kernel
theorem dX8_places_27 : decode cX8_places 27 = .ok (.aload_n 0, 1) := by decide +kernel
theorem dX8_places_28 : decode cX8_places 28 = .ok (.getfield 7, 3) := by decide +kernel
theorem dX8_places_31 : decode cX8_places 31 = .ok (.bipush 8, 2) := by decide +kernel
theorem dX8_places_33 : decode cX8_places 33 = .ok (.iload_n 1, 1) := by decide +kernel
theorem dX8_places_34 : decode cX8_places 34 = .ok (.iastore, 1) := by decide +kernel
theorem dX8_places_35 : decode cX8_places 35 = .ok (.aload_n 0, 1) := by decide +kernel
theorem dX8_places_36 : decode cX8_places 36 = .ok (.getfield 7, 3) := by decide +kernel
theorem dX8_places_39 : decode cX8_places 39 = .ok (.bipush 9, 2) := by decide +kernel
theorem dX8_places_41 : decode cX8_places 41 = .ok (.iload_n 2, 1) := by decide +kernel
theorem dX8_places_42 : decode cX8_places 42 = .ok (.iload_n 2, 1) := by decide +kernel
theorem dX8_places_43 : decode cX8_places 43 = .ok (.imul, 1) := by decide +kernel
theorem dX8_places_44 : decode cX8_places 44 = .ok (.iastore, 1) := by decide +kernel
theorem dX8_places_45 : decode cX8_places 45 = .ok (.aload_n 0, 1) := by decide +kernel
theorem dX8_places_46 : decode cX8_places 46 = .ok (.getfield 7, 3) := by decide +kernel
theorem dX8_places_49 : decode cX8_places 49 = .ok (.bipush 10, 2) := by decide +kernel
theorem dX8_places_51 : decode cX8_places 51 = .ok (.iconst 0, 1) := by decide +kernel
theorem dX8_places_52 : decode cX8_places 52 = .ok (.iastore, 1) := by decide +kernel
theorem dX8_places_53 : decode cX8_places 53 = .ok (.aload_n 0, 1) := by decide +kernel
theorem dX8_places_54 : decode cX8_places 54 = .ok (.getfield 7, 3) := by decide +kernel
theorem dX8_places_57 : decode cX8_places 57 = .ok (.bipush 11, 2) := by decide +kernel
theorem dX8_places_59 : decode cX8_places 59 = .ok (.sipush 1000, 3) := by decide +kernel
theorem dX8_places_62 : decode cX8_places 62 = .ok (.iload_n 1, 1) := by decide +kernel
theorem dX8_places_63 : decode cX8_places 63 = .ok (.imul, 1) := by decide +kernel
theorem dX8_places_64 : decode cX8_places 64 = .ok (.iastore, 1) := by decide +kernel
theorem dX8_places_65 : decode cX8_places 65 = .ok (.aload_n 0, 1) := by decide +kernel
theorem dX8_places_66 : decode cX8_places 66 = .ok (.getfield 7, 3) := by decide +kernel
theorem dX8_places_69 : decode cX8_places 69 = .ok (.bipush 12, 2) := by decide +kernel
theorem dX8_places_71 : decode cX8_places 71 = .ok (.sipush 1000, 3) := by decide +kernel
theorem dX8_places_74 : decode cX8_places 74 = .ok (.iload_n 1, 1) := by decide +kernel
theorem dX8_places_75 : decode cX8_places 75 = .ok (.imul, 1) := by decide +kernel
theorem dX8_places_76 : decode cX8_places 76 = .ok (.iastore, 1) := by decide +kernel
theorem dX8_places_77 : decode cX8_places 77 = .ok (.aload_n 0, 1) := by decide +kernel
theorem dX8_places_78 : decode cX8_places 78 = .ok (.invokevirtual 128, 3) := by decide +kernel
theorem dX8_places_81 : decode cX8_places 81 = .ok (.aload_n 0, 1) := by decide +kernel
theorem dX8_places_82 : decode cX8_places 82 = .ok (.getfield 7, 3) := by decide +kernel
theorem dX8_places_85 : decode cX8_places 85 = .ok (.bipush 10, 2) := by decide +kernel
theorem dX8_places_87 : decode cX8_places 87 = .ok (.iaload, 1) := by decide +kernel
theorem dX8_places_88 : decode cX8_places 88 = .ok (.ireturn, 1) := by decide +kernel
theorem dX8_steps_0 : decode cX8_steps 0 = .ok (.iload_n 1, 1) := by decide +kernel
theorem dX8_steps_1 : decode cX8_steps 1 = .ok (.iconst (-1), 1) := by decide +kernel
theorem dX8_steps_2 : decode cX8_steps 2 = .ok (.iconst 1, 1) := by decide +kernel
theorem dX8_steps_3 : decode cX8_steps 3 = .ok (.invokestatic 45, 3) := by decide +kernel
theorem dX8_steps_6 : decode cX8_steps 6 = .ok (.ifCond .ne 8, 3) := by decide +kernel
theorem dX8_steps_9 : decode cX8_steps 9 = .ok (.aload_n 0, 1) := by decide +kernel
theorem dX8_steps_10 : decode cX8_steps 10 = .ok (.invokevirtual 60, 3) := by decide +kernel
theorem dX8_steps_13 : decode cX8_steps 13 = .ok (.ireturn, 1) := by decide +kernel
theorem dX8_steps_14 : decode cX8_steps 14 = .ok (.aload_n 0, 1) := by decide +kernel
theorem dX8_steps_15 : decode cX8_steps 15 = .ok (.invokevirtual 64, 3) := by decide +kernel
theorem dX8_steps_18 : decode cX8_steps 18 = .ok (.aload_n 0, 1) := by decide +kernel
theorem dX8_steps_19 : decode cX8_steps 19 = .ok (.iload_n 1, 1) := by decide +kernel
theorem dX8_steps_20 : decode cX8_steps 20 = .ok (.invokevirtual 131, 3) := by decide +kernel
theorem dX8_steps_23 : decode cX8_steps 23 = .ok (.ifCond .eq 7, 3) := by decide +kernel
theorem dX8_steps_26 : decode cX8_steps 26 = .ok (.iconst 1, 1) := by decide +kernel
theorem dX8_steps_27 : decode cX8_steps 27 = .ok (.goto 4, 3) := by decide +kernel
theorem dX8_steps_30 : decode cX8_steps 30 = .ok (.iconst 0, 1) := by decide +kernel
theorem dX8_steps_31 : decode cX8_steps 31 = .ok (.ireturn, 1) := by decide +kernel
theorem dX8_drives_0 : decode cX8_drives 0 = .ok (.iload_n 1, 1) := by decide +kernel
theorem dX8_drives_1 : decode cX8_drives 1 = .ok (.iconst 1, 1) := by decide +kernel
theorem dX8_drives_2 : decode cX8_drives 2 = .ok (.bipush 50, 2) := by decide +kernel
theorem dX8_drives_4 : decode cX8_drives 4 = .ok (.invokestatic 45, 3) := by decide +kernel
theorem dX8_drives_7 : decode cX8_drives 7 = .ok (.ifCond .ne 8, 3) := by decide +kernel
theorem dX8_drives_10 : decode cX8_drives 10 = .ok (.aload_n 0, 1) := by decide +kernel
theorem dX8_drives_11 : decode cX8_drives 11 = .ok (.invokevirtual 60, 3) := by decide +kernel
theorem dX8_drives_14 : decode cX8_drives 14 = .ok (.ireturn, 1) := by decide +kernel
theorem dX8_drives_15 : decode cX8_drives 15 = .ok (.aload_n 0, 1) := by decide +kernel
theorem dX8_drives_16 : decode cX8_drives 16 = .ok (.invokevirtual 64, 3) := by decide +kernel
theorem dX8_drives_19 : decode cX8_drives 19 = .ok (.iconst 0, 1) := by decide +kernel
theorem dX8_drives_20 : decode cX8_drives 20 = .ok (.istore_n 2, 1) := by decide +kernel
theorem dX8_drives_21 : decode cX8_drives 21 = .ok (.iconst 1, 1) := by decide +kernel
theorem dX8_drives_22 : decode cX8_drives 22 = .ok (.istore_n 3, 1) := by decide +kernel
theorem dX8_drives_23 : decode cX8_drives 23 = .ok (.iconst 0, 1) := by decide +kernel
theorem dX8_drives_24 : decode cX8_drives 24 = .ok (.istore 4, 2) := by decide +kernel
theorem dX8_drives_26 : decode cX8_drives 26 = .ok (.iload 4, 2) := by decide +kernel
theorem dX8_drives_28 : decode cX8_drives 28 = .ok (.iload_n 1, 1) := by decide +kernel
theorem dX8_drives_29 : decode cX8_drives 29 = .ok (.if_icmp .ge 38, 3) := by decide +kernel
theorem dX8_drives_32 : decode cX8_drives 32 = .ok (.iload_n 3, 1) := by decide +kernel
theorem dX8_drives_33 : decode cX8_drives 33 = .ok (.ifCond .eq 34, 3) := by decide +kernel
theorem dX8_drives_36 : decode cX8_drives 36 = .ok (.aload_n 0, 1) := by decide +kernel
theorem dX8_drives_37 : decode cX8_drives 37 = .ok (.invokevirtual 134, 3) := by decide +kernel
theorem dX8_drives_40 : decode cX8_drives 40 = .ok (.istore 5, 2) := by decide +kernel
theorem dX8_drives_42 : decode cX8_drives 42 = .ok (.aload_n 0, 1) := by decide +kernel
theorem dX8_drives_43 : decode cX8_drives 43 = .ok (.iload 5, 2) := by decide +kernel
theorem dX8_drives_45 : decode cX8_drives 45 = .ok (.invokevirtual 131, 3) := by decide +kernel
theorem dX8_drives_48 : decode cX8_drives 48 = .ok (.istore_n 3, 1) := by decide +kernel
theorem dX8_drives_49 : decode cX8_drives 49 = .ok (.iload_n 2, 1) := by decide +kernel
theorem dX8_drives_50 : decode cX8_drives 50 = .ok (.iload_n 3, 1) := by decide +kernel
theorem dX8_drives_51 : decode cX8_drives 51 = .ok (.ifCond .eq 7, 3) := by decide +kernel
theorem dX8_drives_54 : decode cX8_drives 54 = .ok (.iconst 1, 1) := by decide +kernel
theorem dX8_drives_55 : decode cX8_drives 55 = .ok (.goto 4, 3) := by decide +kernel
theorem dX8_drives_58 : decode cX8_drives 58 = .ok (.iconst 0, 1) := by decide +kernel
theorem dX8_drives_59 : decode cX8_drives 59 = .ok (.iadd, 1) := by decide +kernel
theorem dX8_drives_60 : decode cX8_drives 60 = .ok (.istore_n 2, 1) := by decide +kernel
theorem dX8_drives_61 : decode cX8_drives 61 = .ok (.iinc 4 1, 3) := by decide +kernel
theorem dX8_drives_64 : decode cX8_drives 64 = .ok (.goto (-38), 3) := by decide +kernel
theorem dX8_drives_67 : decode cX8_drives 67 = .ok (.iload_n 2, 1) := by decide +kernel
theorem dX8_drives_68 : decode cX8_drives 68 = .ok (.ireturn, 1) := by decide +kernel
theorem dX8_frees_0 : decode cX8_frees 0 = .ok (.aload_n 0, 1) := by decide +kernel
theorem dX8_frees_1 : decode cX8_frees 1 = .ok (.getfield 7, 3) := by decide +kernel
theorem dX8_frees_4 : decode cX8_frees 4 = .ok (.bipush 10, 2) := by decide +kernel
theorem dX8_frees_6 : decode cX8_frees 6 = .ok (.iaload, 1) := by decide +kernel
theorem dX8_frees_7 : decode cX8_frees 7 = .ok (.iconst 3, 1) := by decide +kernel
theorem dX8_frees_8 : decode cX8_frees 8 = .ok (.if_icmp .ne 13, 3) := by decide +kernel
theorem dX8_frees_11 : decode cX8_frees 11 = .ok (.aload_n 0, 1) := by decide +kernel
theorem dX8_frees_12 : decode cX8_frees 12 = .ok (.getfield 7, 3) := by decide +kernel
theorem dX8_frees_15 : decode cX8_frees 15 = .ok (.bipush 9, 2) := by decide +kernel
theorem dX8_frees_17 : decode cX8_frees 17 = .ok (.iaload, 1) := by decide +kernel
theorem dX8_frees_18 : decode cX8_frees 18 = .ok (.ifCond .eq 8, 3) := by decide +kernel
theorem dX8_frees_21 : decode cX8_frees 21 = .ok (.aload_n 0, 1) := by decide +kernel
theorem dX8_frees_22 : decode cX8_frees 22 = .ok (.invokevirtual 137, 3) := by decide +kernel
theorem dX8_frees_25 : decode cX8_frees 25 = .ok (.ireturn, 1) := by decide +kernel
theorem dX8_frees_26 : decode cX8_frees 26 = .ok (.aload_n 0, 1) := by decide +kernel
theorem dX8_frees_27 : decode cX8_frees 27 = .ok (.invokevirtual 64, 3) := by decide +kernel
theorem dX8_frees_30 : decode cX8_frees 30 = .ok (.aload_n 0, 1) := by decide +kernel
theorem dX8_frees_31 : decode cX8_frees 31 = .ok (.getfield 7, 3) := by decide +kernel
theorem dX8_frees_34 : decode cX8_frees 34 = .ok (.bipush 10, 2) := by decide +kernel
theorem dX8_frees_36 : decode cX8_frees 36 = .ok (.iconst 0, 1) := by decide +kernel
theorem dX8_frees_37 : decode cX8_frees 37 = .ok (.iastore, 1) := by decide +kernel
theorem dX8_frees_38 : decode cX8_frees 38 = .ok (.aload_n 0, 1) := by decide +kernel
theorem dX8_frees_39 : decode cX8_frees 39 = .ok (.invokevirtual 128, 3) := by decide +kernel
theorem dX8_frees_42 : decode cX8_frees 42 = .ok (.aload_n 0, 1) := by decide +kernel
theorem dX8_frees_43 : decode cX8_frees 43 = .ok (.getfield 7, 3) := by decide +kernel
theorem dX8_frees_46 : decode cX8_frees 46 = .ok (.bipush 10, 2) := by decide +kernel
theorem dX8_frees_48 : decode cX8_frees 48 = .ok (.iaload, 1) := by decide +kernel
theorem dX8_frees_49 : decode cX8_frees 49 = .ok (.ireturn, 1) := by decide +kernel
theorem dX8_tellTrain_0 : decode cX8_tellTrain 0 = .ok (.iload_n 1, 1) := by decide +kernel
theorem dX8_tellTrain_1 : decode cX8_tellTrain 1 = .ok (.tableswitch 152 0 11 #[63, 71, 79, 90, 98, 106, 114, 119, 124, 129, 137, 145], 63) := by decide +kernel
theorem dX8_tellTrain_64 : decode cX8_tellTrain 64 = .ok (.aload_n 0, 1) := by decide +kernel
theorem dX8_tellTrain_65 : decode cX8_tellTrain 65 = .ok (.getfield 7, 3) := by decide +kernel
theorem dX8_tellTrain_68 : decode cX8_tellTrain 68 = .ok (.bipush 8, 2) := by decide +kernel
theorem dX8_tellTrain_70 : decode cX8_tellTrain 70 = .ok (.iaload, 1) := by decide +kernel
theorem dX8_tellTrain_71 : decode cX8_tellTrain 71 = .ok (.ireturn, 1) := by decide +kernel
theorem dX8_tellTrain_72 : decode cX8_tellTrain 72 = .ok (.aload_n 0, 1) := by decide +kernel
theorem dX8_tellTrain_73 : decode cX8_tellTrain 73 = .ok (.getfield 7, 3) := by decide +kernel
theorem dX8_tellTrain_76 : decode cX8_tellTrain 76 = .ok (.bipush 9, 2) := by decide +kernel
theorem dX8_tellTrain_78 : decode cX8_tellTrain 78 = .ok (.iaload, 1) := by decide +kernel
theorem dX8_tellTrain_79 : decode cX8_tellTrain 79 = .ok (.ireturn, 1) := by decide +kernel
theorem dX8_tellTrain_80 : decode cX8_tellTrain 80 = .ok (.aload_n 0, 1) := by decide +kernel
theorem dX8_tellTrain_81 : decode cX8_tellTrain 81 = .ok (.getfield 7, 3) := by decide +kernel
theorem dX8_tellTrain_84 : decode cX8_tellTrain 84 = .ok (.bipush 9, 2) := by decide +kernel
theorem dX8_tellTrain_86 : decode cX8_tellTrain 86 = .ok (.iaload, 1) := by decide +kernel
theorem dX8_tellTrain_87 : decode cX8_tellTrain 87 = .ok (.invokestatic 104, 3) := by decide +kernel
theorem dX8_tellTrain_90 : decode cX8_tellTrain 90 = .ok (.ireturn, 1) := by decide +kernel
theorem dX8_tellTrain_91 : decode cX8_tellTrain 91 = .ok (.aload_n 0, 1) := by decide +kernel
theorem dX8_tellTrain_92 : decode cX8_tellTrain 92 = .ok (.getfield 7, 3) := by decide +kernel
theorem dX8_tellTrain_95 : decode cX8_tellTrain 95 = .ok (.bipush 10, 2) := by decide +kernel
theorem dX8_tellTrain_97 : decode cX8_tellTrain 97 = .ok (.iaload, 1) := by decide +kernel
theorem dX8_tellTrain_98 : decode cX8_tellTrain 98 = .ok (.ireturn, 1) := by decide +kernel
theorem dX8_tellTrain_99 : decode cX8_tellTrain 99 = .ok (.aload_n 0, 1) := by decide +kernel
theorem dX8_tellTrain_100 : decode cX8_tellTrain 100 = .ok (.getfield 7, 3) := by decide +kernel
theorem dX8_tellTrain_103 : decode cX8_tellTrain 103 = .ok (.bipush 11, 2) := by decide +kernel
theorem dX8_tellTrain_105 : decode cX8_tellTrain 105 = .ok (.iaload, 1) := by decide +kernel
theorem dX8_tellTrain_106 : decode cX8_tellTrain 106 = .ok (.ireturn, 1) := by decide +kernel
theorem dX8_tellTrain_107 : decode cX8_tellTrain 107 = .ok (.aload_n 0, 1) := by decide +kernel
theorem dX8_tellTrain_108 : decode cX8_tellTrain 108 = .ok (.getfield 7, 3) := by decide +kernel
theorem dX8_tellTrain_111 : decode cX8_tellTrain 111 = .ok (.bipush 12, 2) := by decide +kernel
theorem dX8_tellTrain_113 : decode cX8_tellTrain 113 = .ok (.iaload, 1) := by decide +kernel
theorem dX8_tellTrain_114 : decode cX8_tellTrain 114 = .ok (.ireturn, 1) := by decide +kernel
theorem dX8_tellTrain_115 : decode cX8_tellTrain 115 = .ok (.aload_n 0, 1) := by decide +kernel
theorem dX8_tellTrain_116 : decode cX8_tellTrain 116 = .ok (.invokevirtual 113, 3) := by decide +kernel
theorem dX8_tellTrain_119 : decode cX8_tellTrain 119 = .ok (.ireturn, 1) := by decide +kernel
theorem dX8_tellTrain_120 : decode cX8_tellTrain 120 = .ok (.aload_n 0, 1) := by decide +kernel
theorem dX8_tellTrain_121 : decode cX8_tellTrain 121 = .ok (.invokevirtual 116, 3) := by decide +kernel
theorem dX8_tellTrain_124 : decode cX8_tellTrain 124 = .ok (.ireturn, 1) := by decide +kernel
theorem dX8_tellTrain_125 : decode cX8_tellTrain 125 = .ok (.aload_n 0, 1) := by decide +kernel
theorem dX8_tellTrain_126 : decode cX8_tellTrain 126 = .ok (.invokevirtual 122, 3) := by decide +kernel
theorem dX8_tellTrain_129 : decode cX8_tellTrain 129 = .ok (.ireturn, 1) := by decide +kernel
theorem dX8_tellTrain_130 : decode cX8_tellTrain 130 = .ok (.aload_n 0, 1) := by decide +kernel
theorem dX8_tellTrain_131 : decode cX8_tellTrain 131 = .ok (.getfield 7, 3) := by decide +kernel
theorem dX8_tellTrain_134 : decode cX8_tellTrain 134 = .ok (.bipush 13, 2) := by decide +kernel
theorem dX8_tellTrain_136 : decode cX8_tellTrain 136 = .ok (.iaload, 1) := by decide +kernel
theorem dX8_tellTrain_137 : decode cX8_tellTrain 137 = .ok (.ireturn, 1) := by decide +kernel
theorem dX8_tellTrain_138 : decode cX8_tellTrain 138 = .ok (.aload_n 0, 1) := by decide +kernel
theorem dX8_tellTrain_139 : decode cX8_tellTrain 139 = .ok (.getfield 7, 3) := by decide +kernel
theorem dX8_tellTrain_142 : decode cX8_tellTrain 142 = .ok (.bipush 14, 2) := by decide +kernel
theorem dX8_tellTrain_144 : decode cX8_tellTrain 144 = .ok (.iaload, 1) := by decide +kernel
theorem dX8_tellTrain_145 : decode cX8_tellTrain 145 = .ok (.ireturn, 1) := by decide +kernel
theorem dX8_tellTrain_146 : decode cX8_tellTrain 146 = .ok (.aload_n 0, 1) := by decide +kernel
theorem dX8_tellTrain_147 : decode cX8_tellTrain 147 = .ok (.invokevirtual 134, 3) := by decide +kernel
theorem dX8_tellTrain_150 : decode cX8_tellTrain 150 = .ok (.iconst 1, 1) := by decide +kernel
theorem dX8_tellTrain_151 : decode cX8_tellTrain 151 = .ok (.iadd, 1) := by decide +kernel
theorem dX8_tellTrain_152 : decode cX8_tellTrain 152 = .ok (.ireturn, 1) := by decide +kernel
theorem dX8_tellTrain_153 : decode cX8_tellTrain 153 = .ok (.aload_n 0, 1) := by decide +kernel
theorem dX8_tellTrain_154 : decode cX8_tellTrain 154 = .ok (.getfield 7, 3) := by decide +kernel
theorem dX8_tellTrain_157 : decode cX8_tellTrain 157 = .ok (.bipush 15, 2) := by decide +kernel
theorem dX8_tellTrain_159 : decode cX8_tellTrain 159 = .ok (.iaload, 1) := by decide +kernel
theorem dX8_tellTrain_160 : decode cX8_tellTrain 160 = .ok (.ireturn, 1) := by decide +kernel
theorem dX8_train_0 : decode cX8_train 0 = .ok (.iload_n 1, 1) := by decide +kernel
theorem dX8_train_1 : decode cX8_train 1 = .ok (.iconst 0, 1) := by decide +kernel
theorem dX8_train_2 : decode cX8_train 2 = .ok (.bipush 12, 2) := by decide +kernel
theorem dX8_train_4 : decode cX8_train 4 = .ok (.invokestatic 45, 3) := by decide +kernel
theorem dX8_train_7 : decode cX8_train 7 = .ok (.ifCond .eq 11, 3) := by decide +kernel
theorem dX8_train_10 : decode cX8_train 10 = .ok (.aload_n 0, 1) := by decide +kernel
theorem dX8_train_11 : decode cX8_train 11 = .ok (.iload_n 1, 1) := by decide +kernel
theorem dX8_train_12 : decode cX8_train 12 = .ok (.invokevirtual 140, 3) := by decide +kernel
theorem dX8_train_15 : decode cX8_train 15 = .ok (.goto 7, 3) := by decide +kernel
theorem dX8_train_18 : decode cX8_train 18 = .ok (.aload_n 0, 1) := by decide +kernel
theorem dX8_train_19 : decode cX8_train 19 = .ok (.invokevirtual 60, 3) := by decide +kernel
theorem dX8_train_22 : decode cX8_train 22 = .ok (.ireturn, 1) := by decide +kernel
theorem dX8_type_0 : decode cX8_type 0 = .ok (.iload_n 1, 1) := by decide +kernel
theorem dX8_type_1 : decode cX8_type 1 = .ok (.iconst 0, 1) := by decide +kernel
theorem dX8_type_2 : decode cX8_type 2 = .ok (.bipush 127, 2) := by decide +kernel
theorem dX8_type_4 : decode cX8_type 4 = .ok (.invokestatic 45, 3) := by decide +kernel
theorem dX8_type_7 : decode cX8_type 7 = .ok (.ifCond .ne 8, 3) := by decide +kernel
theorem dX8_type_10 : decode cX8_type 10 = .ok (.aload_n 0, 1) := by decide +kernel
theorem dX8_type_11 : decode cX8_type 11 = .ok (.invokevirtual 60, 3) := by decide +kernel
theorem dX8_type_14 : decode cX8_type 14 = .ok (.ireturn, 1) := by decide +kernel
theorem dX8_type_15 : decode cX8_type 15 = .ok (.aload_n 0, 1) := by decide +kernel
theorem dX8_type_16 : decode cX8_type 16 = .ok (.getfield 143, 3) := by decide +kernel
theorem dX8_type_19 : decode cX8_type 19 = .ok (.bipush 120, 2) := by decide +kernel
theorem dX8_type_21 : decode cX8_type 21 = .ok (.if_icmp .ne 16, 3) := by decide +kernel
theorem dX8_type_24 : decode cX8_type 24 = .ok (.aload_n 0, 1) := by decide +kernel
theorem dX8_type_25 : decode cX8_type 25 = .ok (.dup, 1) := by decide +kernel
theorem dX8_type_26 : decode cX8_type 26 = .ok (.getfield 146, 3) := by decide +kernel
theorem dX8_type_29 : decode cX8_type 29 = .ok (.iconst 1, 1) := by decide +kernel
theorem dX8_type_30 : decode cX8_type 30 = .ok (.iadd, 1) := by decide +kernel
theorem dX8_type_31 : decode cX8_type 31 = .ok (.putfield 146, 3) := by decide +kernel
theorem dX8_type_34 : decode cX8_type 34 = .ok (.bipush (-4), 2) := by decide +kernel
theorem dX8_type_36 : decode cX8_type 36 = .ok (.ireturn, 1) := by decide +kernel
theorem dX8_type_37 : decode cX8_type 37 = .ok (.aload_n 0, 1) := by decide +kernel
theorem dX8_type_38 : decode cX8_type 38 = .ok (.getfield 23, 3) := by decide +kernel
theorem dX8_type_41 : decode cX8_type 41 = .ok (.aload_n 0, 1) := by decide +kernel
theorem dX8_type_42 : decode cX8_type 42 = .ok (.getfield 143, 3) := by decide +kernel
theorem dX8_type_45 : decode cX8_type 45 = .ok (.iload_n 1, 1) := by decide +kernel
theorem dX8_type_46 : decode cX8_type 46 = .ok (.iastore, 1) := by decide +kernel
theorem dX8_type_47 : decode cX8_type 47 = .ok (.aload_n 0, 1) := by decide +kernel
theorem dX8_type_48 : decode cX8_type 48 = .ok (.dup, 1) := by decide +kernel
theorem dX8_type_49 : decode cX8_type 49 = .ok (.getfield 143, 3) := by decide +kernel
theorem dX8_type_52 : decode cX8_type 52 = .ok (.iconst 1, 1) := by decide +kernel
theorem dX8_type_53 : decode cX8_type 53 = .ok (.iadd, 1) := by decide +kernel
theorem dX8_type_54 : decode cX8_type 54 = .ok (.putfield 143, 3) := by decide +kernel
theorem dX8_type_57 : decode cX8_type 57 = .ok (.aload_n 0, 1) := by decide +kernel
theorem dX8_type_58 : decode cX8_type 58 = .ok (.getfield 143, 3) := by decide +kernel
theorem dX8_type_61 : decode cX8_type 61 = .ok (.ireturn, 1) := by decide +kernel
theorem dX8_clear_0 : decode cX8_clear 0 = .ok (.aload_n 0, 1) := by decide +kernel
theorem dX8_clear_1 : decode cX8_clear 1 = .ok (.getfield 143, 3) := by decide +kernel
theorem dX8_clear_4 : decode cX8_clear 4 = .ok (.istore_n 1, 1) := by decide +kernel
theorem dX8_clear_5 : decode cX8_clear 5 = .ok (.aload_n 0, 1) := by decide +kernel
theorem dX8_clear_6 : decode cX8_clear 6 = .ok (.iconst 0, 1) := by decide +kernel
theorem dX8_clear_7 : decode cX8_clear 7 = .ok (.putfield 143, 3) := by decide +kernel
theorem dX8_clear_10 : decode cX8_clear 10 = .ok (.iload_n 1, 1) := by decide +kernel
theorem dX8_clear_11 : decode cX8_clear 11 = .ok (.ireturn, 1) := by decide +kernel
theorem dX8_here_0 : decode cX8_here 0 = .ok (.aload_n 0, 1) := by decide +kernel
theorem dX8_here_1 : decode cX8_here 1 = .ok (.getfield 149, 3) := by decide +kernel
theorem dX8_here_4 : decode cX8_here 4 = .ok (.aload_n 0, 1) := by decide +kernel
theorem dX8_here_5 : decode cX8_here 5 = .ok (.getfield 143, 3) := by decide +kernel
theorem dX8_here_8 : decode cX8_here 8 = .ok (.if_icmp .ge 15, 3) := by decide +kernel
theorem dX8_here_11 : decode cX8_here 11 = .ok (.aload_n 0, 1) := by decide +kernel
theorem dX8_here_12 : decode cX8_here 12 = .ok (.getfield 23, 3) := by decide +kernel
theorem dX8_here_15 : decode cX8_here 15 = .ok (.aload_n 0, 1) := by decide +kernel
theorem dX8_here_16 : decode cX8_here 16 = .ok (.getfield 149, 3) := by decide +kernel
theorem dX8_here_19 : decode cX8_here 19 = .ok (.iaload, 1) := by decide +kernel
theorem dX8_here_20 : decode cX8_here 20 = .ok (.goto 4, 3) := by decide +kernel
theorem dX8_here_23 : decode cX8_here 23 = .ok (.iconst (-1), 1) := by decide +kernel
theorem dX8_here_24 : decode cX8_here 24 = .ok (.ireturn, 1) := by decide +kernel
theorem dX8_skips_0 : decode cX8_skips 0 = .ok (.aload_n 0, 1) := by decide +kernel
theorem dX8_skips_1 : decode cX8_skips 1 = .ok (.invokevirtual 152, 3) := by decide +kernel
theorem dX8_skips_4 : decode cX8_skips 4 = .ok (.bipush 32, 2) := by decide +kernel
theorem dX8_skips_6 : decode cX8_skips 6 = .ok (.if_icmp .ne 16, 3) := by decide +kernel
theorem dX8_skips_9 : decode cX8_skips 9 = .ok (.aload_n 0, 1) := by decide +kernel
theorem dX8_skips_10 : decode cX8_skips 10 = .ok (.dup, 1) := by decide +kernel
theorem dX8_skips_11 : decode cX8_skips 11 = .ok (.getfield 149, 3) := by decide +kernel
theorem dX8_skips_14 : decode cX8_skips 14 = .ok (.iconst 1, 1) := by decide +kernel
theorem dX8_skips_15 : decode cX8_skips 15 = .ok (.iadd, 1) := by decide +kernel
theorem dX8_skips_16 : decode cX8_skips 16 = .ok (.putfield 149, 3) := by decide +kernel
theorem dX8_skips_19 : decode cX8_skips 19 = .ok (.goto (-19), 3) := by decide +kernel
theorem dX8_skips_22 : decode cX8_skips 22 = .ok (.return_, 1) := by decide +kernel
theorem dX8_isFigure_0 : decode cX8_isFigure 0 = .ok (.aload_n 0, 1) := by decide +kernel
theorem dX8_isFigure_1 : decode cX8_isFigure 1 = .ok (.invokevirtual 152, 3) := by decide +kernel
theorem dX8_isFigure_4 : decode cX8_isFigure 4 = .ok (.bipush 48, 2) := by decide +kernel
theorem dX8_isFigure_6 : decode cX8_isFigure 6 = .ok (.bipush 57, 2) := by decide +kernel
theorem dX8_isFigure_8 : decode cX8_isFigure 8 = .ok (.invokestatic 45, 3) := by decide +kernel
theorem dX8_isFigure_11 : decode cX8_isFigure 11 = .ok (.ireturn, 1) := by decide +kernel
theorem dX8_spells_0 : decode cX8_spells 0 = .ok (.aload_n 0, 1) := by decide +kernel
theorem dX8_spells_1 : decode cX8_spells 1 = .ok (.getfield 149, 3) := by decide +kernel
theorem dX8_spells_4 : decode cX8_spells 4 = .ok (.iload_n 1, 1) := by decide +kernel
theorem dX8_spells_5 : decode cX8_spells 5 = .ok (.isub, 1) := by decide +kernel
theorem dX8_spells_6 : decode cX8_spells 6 = .ok (.iconst 2, 1) := by decide +kernel
theorem dX8_spells_7 : decode cX8_spells 7 = .ok (.if_icmp .le 73, 3) := by decide +kernel
theorem dX8_spells_10 : decode cX8_spells 10 = .ok (.aload_n 0, 1) := by decide +kernel
theorem dX8_spells_11 : decode cX8_spells 11 = .ok (.getfield 23, 3) := by decide +kernel
theorem dX8_spells_14 : decode cX8_spells 14 = .ok (.iload_n 1, 1) := by decide +kernel
theorem dX8_spells_15 : decode cX8_spells 15 = .ok (.iaload, 1) := by decide +kernel
theorem dX8_spells_16 : decode cX8_spells 16 = .ok (.iload_n 2, 1) := by decide +kernel
theorem dX8_spells_17 : decode cX8_spells 17 = .ok (.if_icmp .ne 63, 3) := by decide +kernel
theorem dX8_spells_20 : decode cX8_spells 20 = .ok (.aload_n 0, 1) := by decide +kernel
theorem dX8_spells_21 : decode cX8_spells 21 = .ok (.getfield 23, 3) := by decide +kernel
theorem dX8_spells_24 : decode cX8_spells 24 = .ok (.iload_n 1, 1) := by decide +kernel
theorem dX8_spells_25 : decode cX8_spells 25 = .ok (.iconst 1, 1) := by decide +kernel
theorem dX8_spells_26 : decode cX8_spells 26 = .ok (.iadd, 1) := by decide +kernel
theorem dX8_spells_27 : decode cX8_spells 27 = .ok (.iaload, 1) := by decide +kernel
theorem dX8_spells_28 : decode cX8_spells 28 = .ok (.iload_n 3, 1) := by decide +kernel
theorem dX8_spells_29 : decode cX8_spells 29 = .ok (.if_icmp .ne 51, 3) := by decide +kernel
theorem dX8_spells_32 : decode cX8_spells 32 = .ok (.aload_n 0, 1) := by decide +kernel
theorem dX8_spells_33 : decode cX8_spells 33 = .ok (.getfield 23, 3) := by decide +kernel
theorem dX8_spells_36 : decode cX8_spells 36 = .ok (.iload_n 1, 1) := by decide +kernel
theorem dX8_spells_37 : decode cX8_spells 37 = .ok (.iconst 2, 1) := by decide +kernel
theorem dX8_spells_38 : decode cX8_spells 38 = .ok (.iadd, 1) := by decide +kernel
theorem dX8_spells_39 : decode cX8_spells 39 = .ok (.iaload, 1) := by decide +kernel
theorem dX8_spells_40 : decode cX8_spells 40 = .ok (.iload 4, 2) := by decide +kernel
theorem dX8_spells_42 : decode cX8_spells 42 = .ok (.if_icmp .ne 38, 3) := by decide +kernel
theorem dX8_spells_45 : decode cX8_spells 45 = .ok (.aload_n 0, 1) := by decide +kernel
theorem dX8_spells_46 : decode cX8_spells 46 = .ok (.getfield 149, 3) := by decide +kernel
theorem dX8_spells_49 : decode cX8_spells 49 = .ok (.iload_n 1, 1) := by decide +kernel
theorem dX8_spells_50 : decode cX8_spells 50 = .ok (.isub, 1) := by decide +kernel
theorem dX8_spells_51 : decode cX8_spells 51 = .ok (.iconst 3, 1) := by decide +kernel
theorem dX8_spells_52 : decode cX8_spells 52 = .ok (.if_icmp .ne 11, 3) := by decide +kernel
theorem dX8_spells_55 : decode cX8_spells 55 = .ok (.iload 5, 2) := by decide +kernel
theorem dX8_spells_57 : decode cX8_spells 57 = .ok (.ifCond .ne 23, 3) := by decide +kernel
theorem dX8_spells_60 : decode cX8_spells 60 = .ok (.goto 16, 3) := by decide +kernel
theorem dX8_spells_63 : decode cX8_spells 63 = .ok (.aload_n 0, 1) := by decide +kernel
theorem dX8_spells_64 : decode cX8_spells 64 = .ok (.getfield 23, 3) := by decide +kernel
theorem dX8_spells_67 : decode cX8_spells 67 = .ok (.iload_n 1, 1) := by decide +kernel
theorem dX8_spells_68 : decode cX8_spells 68 = .ok (.iconst 3, 1) := by decide +kernel
theorem dX8_spells_69 : decode cX8_spells 69 = .ok (.iadd, 1) := by decide +kernel
theorem dX8_spells_70 : decode cX8_spells 70 = .ok (.iaload, 1) := by decide +kernel
theorem dX8_spells_71 : decode cX8_spells 71 = .ok (.iload 5, 2) := by decide +kernel
theorem dX8_spells_73 : decode cX8_spells 73 = .ok (.if_icmp .ne 7, 3) := by decide +kernel
theorem dX8_spells_76 : decode cX8_spells 76 = .ok (.iconst 1, 1) := by decide +kernel
theorem dX8_spells_77 : decode cX8_spells 77 = .ok (.goto 4, 3) := by decide +kernel
theorem dX8_spells_80 : decode cX8_spells 80 = .ok (.iconst 0, 1) := by decide +kernel
theorem dX8_spells_81 : decode cX8_spells 81 = .ok (.ireturn, 1) := by decide +kernel
theorem dX8_wordFrom_0 : decode cX8_wordFrom 0 = .ok (.aload_n 0, 1) := by decide +kernel
theorem dX8_wordFrom_1 : decode cX8_wordFrom 1 = .ok (.getfield 149, 3) := by decide +kernel
theorem dX8_wordFrom_4 : decode cX8_wordFrom 4 = .ok (.iload_n 1, 1) := by decide +kernel
theorem dX8_wordFrom_5 : decode cX8_wordFrom 5 = .ok (.isub, 1) := by decide +kernel
theorem dX8_wordFrom_6 : decode cX8_wordFrom 6 = .ok (.istore_n 2, 1) := by decide +kernel
theorem dX8_wordFrom_7 : decode cX8_wordFrom 7 = .ok (.iload_n 2, 1) := by decide +kernel
theorem dX8_wordFrom_8 : decode cX8_wordFrom 8 = .ok (.iconst 3, 1) := by decide +kernel
theorem dX8_wordFrom_9 : decode cX8_wordFrom 9 = .ok (.if_icmp .ne 20, 3) := by decide +kernel
theorem dX8_wordFrom_12 : decode cX8_wordFrom 12 = .ok (.aload_n 0, 1) := by decide +kernel
theorem dX8_wordFrom_13 : decode cX8_wordFrom 13 = .ok (.iload_n 1, 1) := by decide +kernel
theorem dX8_wordFrom_14 : decode cX8_wordFrom 14 = .ok (.bipush 108, 2) := by decide +kernel
theorem dX8_wordFrom_16 : decode cX8_wordFrom 16 = .ok (.bipush 101, 2) := by decide +kernel
theorem dX8_wordFrom_18 : decode cX8_wordFrom 18 = .ok (.bipush 110, 2) := by decide +kernel
theorem dX8_wordFrom_20 : decode cX8_wordFrom 20 = .ok (.iconst 0, 1) := by decide +kernel
theorem dX8_wordFrom_21 : decode cX8_wordFrom 21 = .ok (.invokevirtual 155, 3) := by decide +kernel
theorem dX8_wordFrom_24 : decode cX8_wordFrom 24 = .ok (.ifCond .eq 5, 3) := by decide +kernel
theorem dX8_wordFrom_27 : decode cX8_wordFrom 27 = .ok (.iconst 0, 1) := by decide +kernel
theorem dX8_wordFrom_28 : decode cX8_wordFrom 28 = .ok (.ireturn, 1) := by decide +kernel
theorem dX8_wordFrom_29 : decode cX8_wordFrom 29 = .ok (.iload_n 2, 1) := by decide +kernel
theorem dX8_wordFrom_30 : decode cX8_wordFrom 30 = .ok (.iconst 4, 1) := by decide +kernel
theorem dX8_wordFrom_31 : decode cX8_wordFrom 31 = .ok (.if_icmp .ne 66, 3) := by decide +kernel
theorem dX8_wordFrom_34 : decode cX8_wordFrom 34 = .ok (.aload_n 0, 1) := by decide +kernel
theorem dX8_wordFrom_35 : decode cX8_wordFrom 35 = .ok (.iload_n 1, 1) := by decide +kernel
theorem dX8_wordFrom_36 : decode cX8_wordFrom 36 = .ok (.bipush 99, 2) := by decide +kernel
theorem dX8_wordFrom_38 : decode cX8_wordFrom 38 = .ok (.bipush 101, 2) := by decide +kernel
theorem dX8_wordFrom_40 : decode cX8_wordFrom 40 = .ok (.bipush 105, 2) := by decide +kernel
theorem dX8_wordFrom_42 : decode cX8_wordFrom 42 = .ok (.bipush 108, 2) := by decide +kernel
theorem dX8_wordFrom_44 : decode cX8_wordFrom 44 = .ok (.invokevirtual 155, 3) := by decide +kernel
theorem dX8_wordFrom_47 : decode cX8_wordFrom 47 = .ok (.ifCond .eq 7, 3) := by decide +kernel
theorem dX8_wordFrom_50 : decode cX8_wordFrom 50 = .ok (.iconst 1, 1) := by decide +kernel
theorem dX8_wordFrom_51 : decode cX8_wordFrom 51 = .ok (.goto 45, 3) := by decide +kernel
theorem dX8_wordFrom_54 : decode cX8_wordFrom 54 = .ok (.aload_n 0, 1) := by decide +kernel
theorem dX8_wordFrom_55 : decode cX8_wordFrom 55 = .ok (.iload_n 1, 1) := by decide +kernel
theorem dX8_wordFrom_56 : decode cX8_wordFrom 56 = .ok (.bipush 112, 2) := by decide +kernel
theorem dX8_wordFrom_58 : decode cX8_wordFrom 58 = .ok (.bipush 117, 2) := by decide +kernel
theorem dX8_wordFrom_60 : decode cX8_wordFrom 60 = .ok (.bipush 108, 2) := by decide +kernel
theorem dX8_wordFrom_62 : decode cX8_wordFrom 62 = .ok (.bipush 108, 2) := by decide +kernel
theorem dX8_wordFrom_64 : decode cX8_wordFrom 64 = .ok (.invokevirtual 155, 3) := by decide +kernel
theorem dX8_wordFrom_67 : decode cX8_wordFrom 67 = .ok (.ifCond .eq 7, 3) := by decide +kernel
theorem dX8_wordFrom_70 : decode cX8_wordFrom 70 = .ok (.iconst 5, 1) := by decide +kernel
theorem dX8_wordFrom_71 : decode cX8_wordFrom 71 = .ok (.goto 25, 3) := by decide +kernel
theorem dX8_wordFrom_74 : decode cX8_wordFrom 74 = .ok (.aload_n 0, 1) := by decide +kernel
theorem dX8_wordFrom_75 : decode cX8_wordFrom 75 = .ok (.iload_n 1, 1) := by decide +kernel
theorem dX8_wordFrom_76 : decode cX8_wordFrom 76 = .ok (.bipush 108, 2) := by decide +kernel
theorem dX8_wordFrom_78 : decode cX8_wordFrom 78 = .ok (.bipush 111, 2) := by decide +kernel
theorem dX8_wordFrom_80 : decode cX8_wordFrom 80 = .ok (.bipush 110, 2) := by decide +kernel
theorem dX8_wordFrom_82 : decode cX8_wordFrom 82 = .ok (.bipush 103, 2) := by decide +kernel
theorem dX8_wordFrom_84 : decode cX8_wordFrom 84 = .ok (.invokevirtual 155, 3) := by decide +kernel
theorem dX8_wordFrom_87 : decode cX8_wordFrom 87 = .ok (.ifCond .eq 8, 3) := by decide +kernel
theorem dX8_wordFrom_90 : decode cX8_wordFrom 90 = .ok (.bipush 6, 2) := by decide +kernel
theorem dX8_wordFrom_92 : decode cX8_wordFrom 92 = .ok (.goto 4, 3) := by decide +kernel
theorem dX8_wordFrom_95 : decode cX8_wordFrom 95 = .ok (.iconst (-1), 1) := by decide +kernel
theorem dX8_wordFrom_96 : decode cX8_wordFrom 96 = .ok (.ireturn, 1) := by decide +kernel
theorem dX8_wordFrom_97 : decode cX8_wordFrom 97 = .ok (.iload_n 2, 1) := by decide +kernel
theorem dX8_wordFrom_98 : decode cX8_wordFrom 98 = .ok (.iconst 5, 1) := by decide +kernel
theorem dX8_wordFrom_99 : decode cX8_wordFrom 99 = .ok (.if_icmp .ne 139, 3) := by decide +kernel
theorem dX8_wordFrom_102 : decode cX8_wordFrom 102 = .ok (.aload_n 0, 1) := by decide +kernel
theorem dX8_wordFrom_103 : decode cX8_wordFrom 103 = .ok (.iload_n 1, 1) := by decide +kernel
theorem dX8_wordFrom_104 : decode cX8_wordFrom 104 = .ok (.bipush 103, 2) := by decide +kernel
theorem dX8_wordFrom_106 : decode cX8_wordFrom 106 = .ok (.bipush 114, 2) := by decide +kernel
theorem dX8_wordFrom_108 : decode cX8_wordFrom 108 = .ok (.bipush 97, 2) := by decide +kernel
theorem dX8_wordFrom_110 : decode cX8_wordFrom 110 = .ok (.bipush 100, 2) := by decide +kernel
theorem dX8_wordFrom_112 : decode cX8_wordFrom 112 = .ok (.invokevirtual 155, 3) := by decide +kernel
theorem dX8_wordFrom_115 : decode cX8_wordFrom 115 = .ok (.ifCond .eq 20, 3) := by decide +kernel
theorem dX8_wordFrom_118 : decode cX8_wordFrom 118 = .ok (.aload_n 0, 1) := by decide +kernel
theorem dX8_wordFrom_119 : decode cX8_wordFrom 119 = .ok (.getfield 23, 3) := by decide +kernel
theorem dX8_wordFrom_122 : decode cX8_wordFrom 122 = .ok (.iload_n 1, 1) := by decide +kernel
theorem dX8_wordFrom_123 : decode cX8_wordFrom 123 = .ok (.iconst 4, 1) := by decide +kernel
theorem dX8_wordFrom_124 : decode cX8_wordFrom 124 = .ok (.iadd, 1) := by decide +kernel
theorem dX8_wordFrom_125 : decode cX8_wordFrom 125 = .ok (.iaload, 1) := by decide +kernel
theorem dX8_wordFrom_126 : decode cX8_wordFrom 126 = .ok (.bipush 101, 2) := by decide +kernel
theorem dX8_wordFrom_128 : decode cX8_wordFrom 128 = .ok (.if_icmp .ne 7, 3) := by decide +kernel
theorem dX8_wordFrom_131 : decode cX8_wordFrom 131 = .ok (.iconst 1, 1) := by decide +kernel
theorem dX8_wordFrom_132 : decode cX8_wordFrom 132 = .ok (.goto 4, 3) := by decide +kernel
theorem dX8_wordFrom_135 : decode cX8_wordFrom 135 = .ok (.iconst 0, 1) := by decide +kernel
theorem dX8_wordFrom_136 : decode cX8_wordFrom 136 = .ok (.istore_n 3, 1) := by decide +kernel
theorem dX8_wordFrom_137 : decode cX8_wordFrom 137 = .ok (.aload_n 0, 1) := by decide +kernel
theorem dX8_wordFrom_138 : decode cX8_wordFrom 138 = .ok (.iload_n 1, 1) := by decide +kernel
theorem dX8_wordFrom_139 : decode cX8_wordFrom 139 = .ok (.bipush 98, 2) := by decide +kernel
theorem dX8_wordFrom_141 : decode cX8_wordFrom 141 = .ok (.bipush 114, 2) := by decide +kernel
theorem dX8_wordFrom_143 : decode cX8_wordFrom 143 = .ok (.bipush 97, 2) := by decide +kernel
theorem dX8_wordFrom_145 : decode cX8_wordFrom 145 = .ok (.bipush 107, 2) := by decide +kernel
theorem dX8_wordFrom_147 : decode cX8_wordFrom 147 = .ok (.invokevirtual 155, 3) := by decide +kernel
theorem dX8_wordFrom_150 : decode cX8_wordFrom 150 = .ok (.ifCond .eq 20, 3) := by decide +kernel
theorem dX8_wordFrom_153 : decode cX8_wordFrom 153 = .ok (.aload_n 0, 1) := by decide +kernel
theorem dX8_wordFrom_154 : decode cX8_wordFrom 154 = .ok (.getfield 23, 3) := by decide +kernel
theorem dX8_wordFrom_157 : decode cX8_wordFrom 157 = .ok (.iload_n 1, 1) := by decide +kernel
theorem dX8_wordFrom_158 : decode cX8_wordFrom 158 = .ok (.iconst 4, 1) := by decide +kernel
theorem dX8_wordFrom_159 : decode cX8_wordFrom 159 = .ok (.iadd, 1) := by decide +kernel
theorem dX8_wordFrom_160 : decode cX8_wordFrom 160 = .ok (.iaload, 1) := by decide +kernel
theorem dX8_wordFrom_161 : decode cX8_wordFrom 161 = .ok (.bipush 101, 2) := by decide +kernel
theorem dX8_wordFrom_163 : decode cX8_wordFrom 163 = .ok (.if_icmp .ne 7, 3) := by decide +kernel
theorem dX8_wordFrom_166 : decode cX8_wordFrom 166 = .ok (.iconst 1, 1) := by decide +kernel
theorem dX8_wordFrom_167 : decode cX8_wordFrom 167 = .ok (.goto 4, 3) := by decide +kernel
theorem dX8_wordFrom_170 : decode cX8_wordFrom 170 = .ok (.iconst 0, 1) := by decide +kernel
theorem dX8_wordFrom_171 : decode cX8_wordFrom 171 = .ok (.istore 4, 2) := by decide +kernel
theorem dX8_wordFrom_173 : decode cX8_wordFrom 173 = .ok (.aload_n 0, 1) := by decide +kernel
theorem dX8_wordFrom_174 : decode cX8_wordFrom 174 = .ok (.iload_n 1, 1) := by decide +kernel
theorem dX8_wordFrom_175 : decode cX8_wordFrom 175 = .ok (.bipush 101, 2) := by decide +kernel
theorem dX8_wordFrom_177 : decode cX8_wordFrom 177 = .ok (.bipush 114, 2) := by decide +kernel
theorem dX8_wordFrom_179 : decode cX8_wordFrom 179 = .ok (.bipush 114, 2) := by decide +kernel
theorem dX8_wordFrom_181 : decode cX8_wordFrom 181 = .ok (.bipush 111, 2) := by decide +kernel
theorem dX8_wordFrom_183 : decode cX8_wordFrom 183 = .ok (.invokevirtual 155, 3) := by decide +kernel
theorem dX8_wordFrom_186 : decode cX8_wordFrom 186 = .ok (.ifCond .eq 20, 3) := by decide +kernel
theorem dX8_wordFrom_189 : decode cX8_wordFrom 189 = .ok (.aload_n 0, 1) := by decide +kernel
theorem dX8_wordFrom_190 : decode cX8_wordFrom 190 = .ok (.getfield 23, 3) := by decide +kernel
theorem dX8_wordFrom_193 : decode cX8_wordFrom 193 = .ok (.iload_n 1, 1) := by decide +kernel
theorem dX8_wordFrom_194 : decode cX8_wordFrom 194 = .ok (.iconst 4, 1) := by decide +kernel
theorem dX8_wordFrom_195 : decode cX8_wordFrom 195 = .ok (.iadd, 1) := by decide +kernel
theorem dX8_wordFrom_196 : decode cX8_wordFrom 196 = .ok (.iaload, 1) := by decide +kernel
theorem dX8_wordFrom_197 : decode cX8_wordFrom 197 = .ok (.bipush 114, 2) := by decide +kernel
theorem dX8_wordFrom_199 : decode cX8_wordFrom 199 = .ok (.if_icmp .ne 7, 3) := by decide +kernel
theorem dX8_wordFrom_202 : decode cX8_wordFrom 202 = .ok (.iconst 1, 1) := by decide +kernel
theorem dX8_wordFrom_203 : decode cX8_wordFrom 203 = .ok (.goto 4, 3) := by decide +kernel
theorem dX8_wordFrom_206 : decode cX8_wordFrom 206 = .ok (.iconst 0, 1) := by decide +kernel
theorem dX8_wordFrom_207 : decode cX8_wordFrom 207 = .ok (.istore 5, 2) := by decide +kernel
theorem dX8_wordFrom_209 : decode cX8_wordFrom 209 = .ok (.iload_n 3, 1) := by decide +kernel
theorem dX8_wordFrom_210 : decode cX8_wordFrom 210 = .ok (.ifCond .eq 7, 3) := by decide +kernel
theorem dX8_wordFrom_213 : decode cX8_wordFrom 213 = .ok (.iconst 2, 1) := by decide +kernel
theorem dX8_wordFrom_214 : decode cX8_wordFrom 214 = .ok (.goto 23, 3) := by decide +kernel
theorem dX8_wordFrom_217 : decode cX8_wordFrom 217 = .ok (.iload 4, 2) := by decide +kernel
theorem dX8_wordFrom_219 : decode cX8_wordFrom 219 = .ok (.ifCond .eq 7, 3) := by decide +kernel
theorem dX8_wordFrom_222 : decode cX8_wordFrom 222 = .ok (.iconst 4, 1) := by decide +kernel
theorem dX8_wordFrom_223 : decode cX8_wordFrom 223 = .ok (.goto 14, 3) := by decide +kernel
theorem dX8_wordFrom_226 : decode cX8_wordFrom 226 = .ok (.iload 5, 2) := by decide +kernel
theorem dX8_wordFrom_228 : decode cX8_wordFrom 228 = .ok (.ifCond .eq 8, 3) := by decide +kernel
theorem dX8_wordFrom_231 : decode cX8_wordFrom 231 = .ok (.bipush 7, 2) := by decide +kernel
theorem dX8_wordFrom_233 : decode cX8_wordFrom 233 = .ok (.goto 4, 3) := by decide +kernel
theorem dX8_wordFrom_236 : decode cX8_wordFrom 236 = .ok (.iconst (-1), 1) := by decide +kernel
theorem dX8_wordFrom_237 : decode cX8_wordFrom 237 = .ok (.ireturn, 1) := by decide +kernel
theorem dX8_wordFrom_238 : decode cX8_wordFrom 238 = .ok (.iload_n 2, 1) := by decide +kernel
theorem dX8_wordFrom_239 : decode cX8_wordFrom 239 = .ok (.bipush 6, 2) := by decide +kernel
theorem dX8_wordFrom_241 : decode cX8_wordFrom 241 = .ok (.if_icmp .ne 49, 3) := by decide +kernel
theorem dX8_wordFrom_244 : decode cX8_wordFrom 244 = .ok (.aload_n 0, 1) := by decide +kernel
theorem dX8_wordFrom_245 : decode cX8_wordFrom 245 = .ok (.iload_n 1, 1) := by decide +kernel
theorem dX8_wordFrom_246 : decode cX8_wordFrom 246 = .ok (.bipush 98, 2) := by decide +kernel
theorem dX8_wordFrom_248 : decode cX8_wordFrom 248 = .ok (.bipush 101, 2) := by decide +kernel
theorem dX8_wordFrom_250 : decode cX8_wordFrom 250 = .ok (.bipush 97, 2) := by decide +kernel
theorem dX8_wordFrom_252 : decode cX8_wordFrom 252 = .ok (.bipush 99, 2) := by decide +kernel
theorem dX8_wordFrom_254 : decode cX8_wordFrom 254 = .ok (.invokevirtual 155, 3) := by decide +kernel
theorem dX8_wordFrom_257 : decode cX8_wordFrom 257 = .ok (.ifCond .eq 33, 3) := by decide +kernel
theorem dX8_wordFrom_260 : decode cX8_wordFrom 260 = .ok (.aload_n 0, 1) := by decide +kernel
theorem dX8_wordFrom_261 : decode cX8_wordFrom 261 = .ok (.getfield 23, 3) := by decide +kernel
theorem dX8_wordFrom_264 : decode cX8_wordFrom 264 = .ok (.iload_n 1, 1) := by decide +kernel
theorem dX8_wordFrom_265 : decode cX8_wordFrom 265 = .ok (.iconst 4, 1) := by decide +kernel
theorem dX8_wordFrom_266 : decode cX8_wordFrom 266 = .ok (.iadd, 1) := by decide +kernel
theorem dX8_wordFrom_267 : decode cX8_wordFrom 267 = .ok (.iaload, 1) := by decide +kernel
theorem dX8_wordFrom_268 : decode cX8_wordFrom 268 = .ok (.bipush 111, 2) := by decide +kernel
theorem dX8_wordFrom_270 : decode cX8_wordFrom 270 = .ok (.if_icmp .ne 20, 3) := by decide +kernel
theorem dX8_wordFrom_273 : decode cX8_wordFrom 273 = .ok (.aload_n 0, 1) := by decide +kernel
theorem dX8_wordFrom_274 : decode cX8_wordFrom 274 = .ok (.getfield 23, 3) := by decide +kernel
theorem dX8_wordFrom_277 : decode cX8_wordFrom 277 = .ok (.iload_n 1, 1) := by decide +kernel
theorem dX8_wordFrom_278 : decode cX8_wordFrom 278 = .ok (.iconst 5, 1) := by decide +kernel
theorem dX8_wordFrom_279 : decode cX8_wordFrom 279 = .ok (.iadd, 1) := by decide +kernel
theorem dX8_wordFrom_280 : decode cX8_wordFrom 280 = .ok (.iaload, 1) := by decide +kernel
theorem dX8_wordFrom_281 : decode cX8_wordFrom 281 = .ok (.bipush 110, 2) := by decide +kernel
theorem dX8_wordFrom_283 : decode cX8_wordFrom 283 = .ok (.if_icmp .ne 7, 3) := by decide +kernel
theorem dX8_wordFrom_286 : decode cX8_wordFrom 286 = .ok (.iconst 3, 1) := by decide +kernel
theorem dX8_wordFrom_287 : decode cX8_wordFrom 287 = .ok (.goto 4, 3) := by decide +kernel
theorem dX8_wordFrom_290 : decode cX8_wordFrom 290 = .ok (.iconst (-1), 1) := by decide +kernel
theorem dX8_wordFrom_291 : decode cX8_wordFrom 291 = .ok (.ireturn, 1) := by decide +kernel
theorem dX8_stopsHere_0 : decode cX8_stopsHere 0 = .ok (.aload_n 0, 1) := by decide +kernel
theorem dX8_stopsHere_1 : decode cX8_stopsHere 1 = .ok (.aload_n 0, 1) := by decide +kernel
theorem dX8_stopsHere_2 : decode cX8_stopsHere 2 = .ok (.getfield 149, 3) := by decide +kernel
theorem dX8_stopsHere_5 : decode cX8_stopsHere 5 = .ok (.putfield 159, 3) := by decide +kernel
theorem dX8_stopsHere_8 : decode cX8_stopsHere 8 = .ok (.iconst 0, 1) := by decide +kernel
theorem dX8_stopsHere_9 : decode cX8_stopsHere 9 = .ok (.ireturn, 1) := by decide +kernel
theorem dX8_number_0 : decode cX8_number 0 = .ok (.aload_n 0, 1) := by decide +kernel
theorem dX8_number_1 : decode cX8_number 1 = .ok (.invokevirtual 162, 3) := by decide +kernel
theorem dX8_number_4 : decode cX8_number 4 = .ok (.aload_n 0, 1) := by decide +kernel
theorem dX8_number_5 : decode cX8_number 5 = .ok (.invokevirtual 152, 3) := by decide +kernel
theorem dX8_number_8 : decode cX8_number 8 = .ok (.bipush 45, 2) := by decide +kernel
theorem dX8_number_10 : decode cX8_number 10 = .ok (.if_icmp .ne 7, 3) := by decide +kernel
theorem dX8_number_13 : decode cX8_number 13 = .ok (.iconst 1, 1) := by decide +kernel
theorem dX8_number_14 : decode cX8_number 14 = .ok (.goto 4, 3) := by decide +kernel
theorem dX8_number_17 : decode cX8_number 17 = .ok (.iconst 0, 1) := by decide +kernel
theorem dX8_number_18 : decode cX8_number 18 = .ok (.istore_n 3, 1) := by decide +kernel
theorem dX8_number_19 : decode cX8_number 19 = .ok (.iload_n 3, 1) := by decide +kernel
theorem dX8_number_20 : decode cX8_number 20 = .ok (.ifCond .eq 12, 3) := by decide +kernel
theorem dX8_number_23 : decode cX8_number 23 = .ok (.iload_n 1, 1) := by decide +kernel
theorem dX8_number_24 : decode cX8_number 24 = .ok (.ifCond .ne 8, 3) := by decide +kernel
theorem dX8_number_27 : decode cX8_number 27 = .ok (.aload_n 0, 1) := by decide +kernel
theorem dX8_number_28 : decode cX8_number 28 = .ok (.invokevirtual 165, 3) := by decide +kernel
theorem dX8_number_31 : decode cX8_number 31 = .ok (.ireturn, 1) := by decide +kernel
theorem dX8_number_32 : decode cX8_number 32 = .ok (.aload_n 0, 1) := by decide +kernel
theorem dX8_number_33 : decode cX8_number 33 = .ok (.dup, 1) := by decide +kernel
theorem dX8_number_34 : decode cX8_number 34 = .ok (.getfield 149, 3) := by decide +kernel
theorem dX8_number_37 : decode cX8_number 37 = .ok (.iload_n 3, 1) := by decide +kernel
theorem dX8_number_38 : decode cX8_number 38 = .ok (.ifCond .eq 7, 3) := by decide +kernel
theorem dX8_number_41 : decode cX8_number 41 = .ok (.iconst 1, 1) := by decide +kernel
theorem dX8_number_42 : decode cX8_number 42 = .ok (.goto 4, 3) := by decide +kernel
theorem dX8_number_45 : decode cX8_number 45 = .ok (.iconst 0, 1) := by decide +kernel
theorem dX8_number_46 : decode cX8_number 46 = .ok (.iadd, 1) := by decide +kernel
theorem dX8_number_47 : decode cX8_number 47 = .ok (.putfield 149, 3) := by decide +kernel
theorem dX8_number_50 : decode cX8_number 50 = .ok (.iconst 0, 1) := by decide +kernel
theorem dX8_number_51 : decode cX8_number 51 = .ok (.istore 4, 2) := by decide +kernel
theorem dX8_number_53 : decode cX8_number 53 = .ok (.iconst 0, 1) := by decide +kernel
theorem dX8_number_54 : decode cX8_number 54 = .ok (.istore 5, 2) := by decide +kernel
theorem dX8_number_56 : decode cX8_number 56 = .ok (.aload_n 0, 1) := by decide +kernel
theorem dX8_number_57 : decode cX8_number 57 = .ok (.invokevirtual 169, 3) := by decide +kernel
theorem dX8_number_60 : decode cX8_number 60 = .ok (.ifCond .eq 40, 3) := by decide +kernel
theorem dX8_number_63 : decode cX8_number 63 = .ok (.iload 5, 2) := by decide +kernel
theorem dX8_number_65 : decode cX8_number 65 = .ok (.iconst 3, 1) := by decide +kernel
theorem dX8_number_66 : decode cX8_number 66 = .ok (.if_icmp .ge 34, 3) := by decide +kernel
theorem dX8_number_69 : decode cX8_number 69 = .ok (.bipush 10, 2) := by decide +kernel
theorem dX8_number_71 : decode cX8_number 71 = .ok (.iload 4, 2) := by decide +kernel
theorem dX8_number_73 : decode cX8_number 73 = .ok (.imul, 1) := by decide +kernel
theorem dX8_number_74 : decode cX8_number 74 = .ok (.aload_n 0, 1) := by decide +kernel
theorem dX8_number_75 : decode cX8_number 75 = .ok (.invokevirtual 152, 3) := by decide +kernel
theorem dX8_number_78 : decode cX8_number 78 = .ok (.iadd, 1) := by decide +kernel
theorem dX8_number_79 : decode cX8_number 79 = .ok (.bipush 48, 2) := by decide +kernel
theorem dX8_number_81 : decode cX8_number 81 = .ok (.isub, 1) := by decide +kernel
theorem dX8_number_82 : decode cX8_number 82 = .ok (.istore 4, 2) := by decide +kernel
theorem dX8_number_84 : decode cX8_number 84 = .ok (.iinc 5 1, 3) := by decide +kernel
theorem dX8_number_87 : decode cX8_number 87 = .ok (.aload_n 0, 1) := by decide +kernel
theorem dX8_number_88 : decode cX8_number 88 = .ok (.dup, 1) := by decide +kernel
theorem dX8_number_89 : decode cX8_number 89 = .ok (.getfield 149, 3) := by decide +kernel
theorem dX8_number_92 : decode cX8_number 92 = .ok (.iconst 1, 1) := by decide +kernel
theorem dX8_number_93 : decode cX8_number 93 = .ok (.iadd, 1) := by decide +kernel
theorem dX8_number_94 : decode cX8_number 94 = .ok (.putfield 149, 3) := by decide +kernel
theorem dX8_number_97 : decode cX8_number 97 = .ok (.goto (-41), 3) := by decide +kernel
theorem dX8_number_100 : decode cX8_number 100 = .ok (.iload 5, 2) := by decide +kernel
theorem dX8_number_102 : decode cX8_number 102 = .ok (.ifCond .eq 10, 3) := by decide +kernel
theorem dX8_number_105 : decode cX8_number 105 = .ok (.aload_n 0, 1) := by decide +kernel
theorem dX8_number_106 : decode cX8_number 106 = .ok (.invokevirtual 169, 3) := by decide +kernel
theorem dX8_number_109 : decode cX8_number 109 = .ok (.ifCond .eq 8, 3) := by decide +kernel
theorem dX8_number_112 : decode cX8_number 112 = .ok (.aload_n 0, 1) := by decide +kernel
theorem dX8_number_113 : decode cX8_number 113 = .ok (.invokevirtual 165, 3) := by decide +kernel
theorem dX8_number_116 : decode cX8_number 116 = .ok (.ireturn, 1) := by decide +kernel
theorem dX8_number_117 : decode cX8_number 117 = .ok (.aload_n 0, 1) := by decide +kernel
theorem dX8_number_118 : decode cX8_number 118 = .ok (.getfield 29, 3) := by decide +kernel
theorem dX8_number_121 : decode cX8_number 121 = .ok (.iload_n 2, 1) := by decide +kernel
theorem dX8_number_122 : decode cX8_number 122 = .ok (.iload_n 3, 1) := by decide +kernel
theorem dX8_number_123 : decode cX8_number 123 = .ok (.ifCond .eq 9, 3) := by decide +kernel
theorem dX8_number_126 : decode cX8_number 126 = .ok (.iload 4, 2) := by decide +kernel
theorem dX8_number_128 : decode cX8_number 128 = .ok (.ineg, 1) := by decide +kernel
theorem dX8_number_129 : decode cX8_number 129 = .ok (.goto 5, 3) := by decide +kernel
theorem dX8_number_132 : decode cX8_number 132 = .ok (.iload 4, 2) := by decide +kernel
theorem dX8_number_134 : decode cX8_number 134 = .ok (.iastore, 1) := by decide +kernel
theorem dX8_number_135 : decode cX8_number 135 = .ok (.iconst 1, 1) := by decide +kernel
theorem dX8_number_136 : decode cX8_number 136 = .ok (.ireturn, 1) := by decide +kernel
theorem dX8_order_0 : decode cX8_order 0 = .ok (.aload_n 0, 1) := by decide +kernel
theorem dX8_order_1 : decode cX8_order 1 = .ok (.getfield 149, 3) := by decide +kernel
theorem dX8_order_4 : decode cX8_order 4 = .ok (.istore_n 1, 1) := by decide +kernel
theorem dX8_order_5 : decode cX8_order 5 = .ok (.aload_n 0, 1) := by decide +kernel
theorem dX8_order_6 : decode cX8_order 6 = .ok (.invokevirtual 152, 3) := by decide +kernel
theorem dX8_order_9 : decode cX8_order 9 = .ok (.bipush 97, 2) := by decide +kernel
theorem dX8_order_11 : decode cX8_order 11 = .ok (.bipush 122, 2) := by decide +kernel
theorem dX8_order_13 : decode cX8_order 13 = .ok (.invokestatic 45, 3) := by decide +kernel
theorem dX8_order_16 : decode cX8_order 16 = .ok (.ifCond .eq 16, 3) := by decide +kernel
theorem dX8_order_19 : decode cX8_order 19 = .ok (.aload_n 0, 1) := by decide +kernel
theorem dX8_order_20 : decode cX8_order 20 = .ok (.dup, 1) := by decide +kernel
theorem dX8_order_21 : decode cX8_order 21 = .ok (.getfield 149, 3) := by decide +kernel
theorem dX8_order_24 : decode cX8_order 24 = .ok (.iconst 1, 1) := by decide +kernel
theorem dX8_order_25 : decode cX8_order 25 = .ok (.iadd, 1) := by decide +kernel
theorem dX8_order_26 : decode cX8_order 26 = .ok (.putfield 149, 3) := by decide +kernel
theorem dX8_order_29 : decode cX8_order 29 = .ok (.goto (-24), 3) := by decide +kernel
theorem dX8_order_32 : decode cX8_order 32 = .ok (.aload_n 0, 1) := by decide +kernel
theorem dX8_order_33 : decode cX8_order 33 = .ok (.getfield 149, 3) := by decide +kernel
theorem dX8_order_36 : decode cX8_order 36 = .ok (.iload_n 1, 1) := by decide +kernel
theorem dX8_order_37 : decode cX8_order 37 = .ok (.if_icmp .ne 8, 3) := by decide +kernel
theorem dX8_order_40 : decode cX8_order 40 = .ok (.aload_n 0, 1) := by decide +kernel
theorem dX8_order_41 : decode cX8_order 41 = .ok (.invokevirtual 165, 3) := by decide +kernel
theorem dX8_order_44 : decode cX8_order 44 = .ok (.ireturn, 1) := by decide +kernel
theorem dX8_order_45 : decode cX8_order 45 = .ok (.aload_n 0, 1) := by decide +kernel
theorem dX8_order_46 : decode cX8_order 46 = .ok (.iload_n 1, 1) := by decide +kernel
theorem dX8_order_47 : decode cX8_order 47 = .ok (.invokevirtual 172, 3) := by decide +kernel
theorem dX8_order_50 : decode cX8_order 50 = .ok (.istore_n 2, 1) := by decide +kernel
theorem dX8_order_51 : decode cX8_order 51 = .ok (.iload_n 2, 1) := by decide +kernel
theorem dX8_order_52 : decode cX8_order 52 = .ok (.iconst (-1), 1) := by decide +kernel
theorem dX8_order_53 : decode cX8_order 53 = .ok (.if_icmp .ne 15, 3) := by decide +kernel
theorem dX8_order_56 : decode cX8_order 56 = .ok (.aload_n 0, 1) := by decide +kernel
theorem dX8_order_57 : decode cX8_order 57 = .ok (.iconst 1, 1) := by decide +kernel
theorem dX8_order_58 : decode cX8_order 58 = .ok (.putfield 175, 3) := by decide +kernel
theorem dX8_order_61 : decode cX8_order 61 = .ok (.aload_n 0, 1) := by decide +kernel
theorem dX8_order_62 : decode cX8_order 62 = .ok (.iload_n 1, 1) := by decide +kernel
theorem dX8_order_63 : decode cX8_order 63 = .ok (.putfield 159, 3) := by decide +kernel
theorem dX8_order_66 : decode cX8_order 66 = .ok (.iconst 0, 1) := by decide +kernel
theorem dX8_order_67 : decode cX8_order 67 = .ok (.ireturn, 1) := by decide +kernel
theorem dX8_order_68 : decode cX8_order 68 = .ok (.iload_n 2, 1) := by decide +kernel
theorem dX8_order_69 : decode cX8_order 69 = .ok (.iconst 1, 1) := by decide +kernel
theorem dX8_order_70 : decode cX8_order 70 = .ok (.if_icmp .eq 8, 3) := by decide +kernel
theorem dX8_order_73 : decode cX8_order 73 = .ok (.iload_n 2, 1) := by decide +kernel
theorem dX8_order_74 : decode cX8_order 74 = .ok (.iconst 2, 1) := by decide +kernel
theorem dX8_order_75 : decode cX8_order 75 = .ok (.if_icmp .ne 7, 3) := by decide +kernel
theorem dX8_order_78 : decode cX8_order 78 = .ok (.iconst 3, 1) := by decide +kernel
theorem dX8_order_79 : decode cX8_order 79 = .ok (.goto 4, 3) := by decide +kernel
theorem dX8_order_82 : decode cX8_order 82 = .ok (.iconst 1, 1) := by decide +kernel
theorem dX8_order_83 : decode cX8_order 83 = .ok (.istore_n 3, 1) := by decide +kernel
theorem dX8_order_84 : decode cX8_order 84 = .ok (.iconst 1, 1) := by decide +kernel
theorem dX8_order_85 : decode cX8_order 85 = .ok (.istore 4, 2) := by decide +kernel
theorem dX8_order_87 : decode cX8_order 87 = .ok (.iconst 0, 1) := by decide +kernel
theorem dX8_order_88 : decode cX8_order 88 = .ok (.istore 5, 2) := by decide +kernel
theorem dX8_order_90 : decode cX8_order 90 = .ok (.iload 5, 2) := by decide +kernel
theorem dX8_order_92 : decode cX8_order 92 = .ok (.iload_n 3, 1) := by decide +kernel
theorem dX8_order_93 : decode cX8_order 93 = .ok (.if_icmp .ge 45, 3) := by decide +kernel
theorem dX8_order_96 : decode cX8_order 96 = .ok (.iload 4, 2) := by decide +kernel
theorem dX8_order_98 : decode cX8_order 98 = .ok (.ifCond .eq 40, 3) := by decide +kernel
theorem dX8_order_101 : decode cX8_order 101 = .ok (.aload_n 0, 1) := by decide +kernel
theorem dX8_order_102 : decode cX8_order 102 = .ok (.iload_n 2, 1) := by decide +kernel
theorem dX8_order_103 : decode cX8_order 103 = .ok (.iconst 2, 1) := by decide +kernel
theorem dX8_order_104 : decode cX8_order 104 = .ok (.if_icmp .ne 13, 3) := by decide +kernel
theorem dX8_order_107 : decode cX8_order 107 = .ok (.iload 5, 2) := by decide +kernel
theorem dX8_order_109 : decode cX8_order 109 = .ok (.iconst 2, 1) := by decide +kernel
theorem dX8_order_110 : decode cX8_order 110 = .ok (.if_icmp .ne 7, 3) := by decide +kernel
theorem dX8_order_113 : decode cX8_order 113 = .ok (.iconst 1, 1) := by decide +kernel
theorem dX8_order_114 : decode cX8_order 114 = .ok (.goto 4, 3) := by decide +kernel
theorem dX8_order_117 : decode cX8_order 117 = .ok (.iconst 0, 1) := by decide +kernel
theorem dX8_order_118 : decode cX8_order 118 = .ok (.iconst 3, 1) := by decide +kernel
theorem dX8_order_119 : decode cX8_order 119 = .ok (.aload_n 0, 1) := by decide +kernel
theorem dX8_order_120 : decode cX8_order 120 = .ok (.getfield 179, 3) := by decide +kernel
theorem dX8_order_123 : decode cX8_order 123 = .ok (.imul, 1) := by decide +kernel
theorem dX8_order_124 : decode cX8_order 124 = .ok (.iload 5, 2) := by decide +kernel
theorem dX8_order_126 : decode cX8_order 126 = .ok (.iadd, 1) := by decide +kernel
theorem dX8_order_127 : decode cX8_order 127 = .ok (.invokevirtual 182, 3) := by decide +kernel
theorem dX8_order_130 : decode cX8_order 130 = .ok (.istore 4, 2) := by decide +kernel
theorem dX8_order_132 : decode cX8_order 132 = .ok (.iinc 5 1, 3) := by decide +kernel
theorem dX8_order_135 : decode cX8_order 135 = .ok (.goto (-45), 3) := by decide +kernel
theorem dX8_order_138 : decode cX8_order 138 = .ok (.iload 4, 2) := by decide +kernel
theorem dX8_order_140 : decode cX8_order 140 = .ok (.ifCond .ne 5, 3) := by decide +kernel
theorem dX8_order_143 : decode cX8_order 143 = .ok (.iconst 0, 1) := by decide +kernel
theorem dX8_order_144 : decode cX8_order 144 = .ok (.ireturn, 1) := by decide +kernel
theorem dX8_order_145 : decode cX8_order 145 = .ok (.aload_n 0, 1) := by decide +kernel
theorem dX8_order_146 : decode cX8_order 146 = .ok (.invokevirtual 162, 3) := by decide +kernel
theorem dX8_order_149 : decode cX8_order 149 = .ok (.aload_n 0, 1) := by decide +kernel
theorem dX8_order_150 : decode cX8_order 150 = .ok (.invokevirtual 152, 3) := by decide +kernel
theorem dX8_order_153 : decode cX8_order 153 = .ok (.bipush 59, 2) := by decide +kernel
theorem dX8_order_155 : decode cX8_order 155 = .ok (.if_icmp .eq 8, 3) := by decide +kernel
theorem dX8_order_158 : decode cX8_order 158 = .ok (.aload_n 0, 1) := by decide +kernel
theorem dX8_order_159 : decode cX8_order 159 = .ok (.invokevirtual 165, 3) := by decide +kernel
theorem dX8_order_162 : decode cX8_order 162 = .ok (.ireturn, 1) := by decide +kernel
theorem dX8_order_163 : decode cX8_order 163 = .ok (.aload_n 0, 1) := by decide +kernel
theorem dX8_order_164 : decode cX8_order 164 = .ok (.dup, 1) := by decide +kernel
theorem dX8_order_165 : decode cX8_order 165 = .ok (.getfield 149, 3) := by decide +kernel
theorem dX8_order_168 : decode cX8_order 168 = .ok (.iconst 1, 1) := by decide +kernel
theorem dX8_order_169 : decode cX8_order 169 = .ok (.iadd, 1) := by decide +kernel
theorem dX8_order_170 : decode cX8_order 170 = .ok (.putfield 149, 3) := by decide +kernel
theorem dX8_order_173 : decode cX8_order 173 = .ok (.aload_n 0, 1) := by decide +kernel
theorem dX8_order_174 : decode cX8_order 174 = .ok (.getfield 26, 3) := by decide +kernel
theorem dX8_order_177 : decode cX8_order 177 = .ok (.aload_n 0, 1) := by decide +kernel
theorem dX8_order_178 : decode cX8_order 178 = .ok (.getfield 179, 3) := by decide +kernel
theorem dX8_order_181 : decode cX8_order 181 = .ok (.iload_n 2, 1) := by decide +kernel
theorem dX8_order_182 : decode cX8_order 182 = .ok (.iastore, 1) := by decide +kernel
theorem dX8_order_183 : decode cX8_order 183 = .ok (.aload_n 0, 1) := by decide +kernel
theorem dX8_order_184 : decode cX8_order 184 = .ok (.dup, 1) := by decide +kernel
theorem dX8_order_185 : decode cX8_order 185 = .ok (.getfield 179, 3) := by decide +kernel
theorem dX8_order_188 : decode cX8_order 188 = .ok (.iconst 1, 1) := by decide +kernel
theorem dX8_order_189 : decode cX8_order 189 = .ok (.iadd, 1) := by decide +kernel
theorem dX8_order_190 : decode cX8_order 190 = .ok (.putfield 179, 3) := by decide +kernel
theorem dX8_order_193 : decode cX8_order 193 = .ok (.iconst 1, 1) := by decide +kernel
theorem dX8_order_194 : decode cX8_order 194 = .ok (.ireturn, 1) := by decide +kernel
theorem dX8_reads_0 : decode cX8_reads 0 = .ok (.aload_n 0, 1) := by decide +kernel
theorem dX8_reads_1 : decode cX8_reads 1 = .ok (.iconst 0, 1) := by decide +kernel
theorem dX8_reads_2 : decode cX8_reads 2 = .ok (.putfield 149, 3) := by decide +kernel
theorem dX8_reads_5 : decode cX8_reads 5 = .ok (.aload_n 0, 1) := by decide +kernel
theorem dX8_reads_6 : decode cX8_reads 6 = .ok (.iconst 0, 1) := by decide +kernel
theorem dX8_reads_7 : decode cX8_reads 7 = .ok (.putfield 179, 3) := by decide +kernel
theorem dX8_reads_10 : decode cX8_reads 10 = .ok (.aload_n 0, 1) := by decide +kernel
theorem dX8_reads_11 : decode cX8_reads 11 = .ok (.iconst 0, 1) := by decide +kernel
theorem dX8_reads_12 : decode cX8_reads 12 = .ok (.putfield 175, 3) := by decide +kernel
theorem dX8_reads_15 : decode cX8_reads 15 = .ok (.iconst 1, 1) := by decide +kernel
theorem dX8_reads_16 : decode cX8_reads 16 = .ok (.istore_n 1, 1) := by decide +kernel
theorem dX8_reads_17 : decode cX8_reads 17 = .ok (.aload_n 0, 1) := by decide +kernel
theorem dX8_reads_18 : decode cX8_reads 18 = .ok (.invokevirtual 162, 3) := by decide +kernel
theorem dX8_reads_21 : decode cX8_reads 21 = .ok (.iload_n 1, 1) := by decide +kernel
theorem dX8_reads_22 : decode cX8_reads 22 = .ok (.ifCond .eq 37, 3) := by decide +kernel
theorem dX8_reads_25 : decode cX8_reads 25 = .ok (.aload_n 0, 1) := by decide +kernel
theorem dX8_reads_26 : decode cX8_reads 26 = .ok (.getfield 179, 3) := by decide +kernel
theorem dX8_reads_29 : decode cX8_reads 29 = .ok (.ifCond .eq 14, 3) := by decide +kernel
theorem dX8_reads_32 : decode cX8_reads 32 = .ok (.aload_n 0, 1) := by decide +kernel
theorem dX8_reads_33 : decode cX8_reads 33 = .ok (.getfield 149, 3) := by decide +kernel
theorem dX8_reads_36 : decode cX8_reads 36 = .ok (.aload_n 0, 1) := by decide +kernel
theorem dX8_reads_37 : decode cX8_reads 37 = .ok (.getfield 143, 3) := by decide +kernel
theorem dX8_reads_40 : decode cX8_reads 40 = .ok (.if_icmp .ge 19, 3) := by decide +kernel
theorem dX8_reads_43 : decode cX8_reads 43 = .ok (.aload_n 0, 1) := by decide +kernel
theorem dX8_reads_44 : decode cX8_reads 44 = .ok (.invokevirtual 186, 3) := by decide +kernel
theorem dX8_reads_47 : decode cX8_reads 47 = .ok (.istore_n 1, 1) := by decide +kernel
theorem dX8_reads_48 : decode cX8_reads 48 = .ok (.iload_n 1, 1) := by decide +kernel
theorem dX8_reads_49 : decode cX8_reads 49 = .ok (.ifCond .eq (-28), 3) := by decide +kernel
theorem dX8_reads_52 : decode cX8_reads 52 = .ok (.aload_n 0, 1) := by decide +kernel
theorem dX8_reads_53 : decode cX8_reads 53 = .ok (.invokevirtual 162, 3) := by decide +kernel
theorem dX8_reads_56 : decode cX8_reads 56 = .ok (.goto (-35), 3) := by decide +kernel
theorem dX8_reads_59 : decode cX8_reads 59 = .ok (.iload_n 1, 1) := by decide +kernel
theorem dX8_reads_60 : decode cX8_reads 60 = .ok (.ireturn, 1) := by decide +kernel
theorem dX8_isDone_0 : decode cX8_isDone 0 = .ok (.aload_n 0, 1) := by decide +kernel
theorem dX8_isDone_1 : decode cX8_isDone 1 = .ok (.getfield 29, 3) := by decide +kernel
theorem dX8_isDone_4 : decode cX8_isDone 4 = .ok (.iconst 3, 1) := by decide +kernel
theorem dX8_isDone_5 : decode cX8_isDone 5 = .ok (.iload_n 1, 1) := by decide +kernel
theorem dX8_isDone_6 : decode cX8_isDone 6 = .ok (.imul, 1) := by decide +kernel
theorem dX8_isDone_7 : decode cX8_isDone 7 = .ok (.iaload, 1) := by decide +kernel
theorem dX8_isDone_8 : decode cX8_isDone 8 = .ok (.istore_n 2, 1) := by decide +kernel
theorem dX8_isDone_9 : decode cX8_isDone 9 = .ok (.aload_n 0, 1) := by decide +kernel
theorem dX8_isDone_10 : decode cX8_isDone 10 = .ok (.getfield 29, 3) := by decide +kernel
theorem dX8_isDone_13 : decode cX8_isDone 13 = .ok (.iconst 3, 1) := by decide +kernel
theorem dX8_isDone_14 : decode cX8_isDone 14 = .ok (.iload_n 1, 1) := by decide +kernel
theorem dX8_isDone_15 : decode cX8_isDone 15 = .ok (.imul, 1) := by decide +kernel
theorem dX8_isDone_16 : decode cX8_isDone 16 = .ok (.iconst 1, 1) := by decide +kernel
theorem dX8_isDone_17 : decode cX8_isDone 17 = .ok (.iadd, 1) := by decide +kernel
theorem dX8_isDone_18 : decode cX8_isDone 18 = .ok (.iaload, 1) := by decide +kernel
theorem dX8_isDone_19 : decode cX8_isDone 19 = .ok (.istore_n 3, 1) := by decide +kernel
theorem dX8_isDone_20 : decode cX8_isDone 20 = .ok (.aload_n 0, 1) := by decide +kernel
theorem dX8_isDone_21 : decode cX8_isDone 21 = .ok (.getfield 29, 3) := by decide +kernel
theorem dX8_isDone_24 : decode cX8_isDone 24 = .ok (.iconst 3, 1) := by decide +kernel
theorem dX8_isDone_25 : decode cX8_isDone 25 = .ok (.iload_n 1, 1) := by decide +kernel
theorem dX8_isDone_26 : decode cX8_isDone 26 = .ok (.imul, 1) := by decide +kernel
theorem dX8_isDone_27 : decode cX8_isDone 27 = .ok (.iconst 2, 1) := by decide +kernel
theorem dX8_isDone_28 : decode cX8_isDone 28 = .ok (.iadd, 1) := by decide +kernel
theorem dX8_isDone_29 : decode cX8_isDone 29 = .ok (.iaload, 1) := by decide +kernel
theorem dX8_isDone_30 : decode cX8_isDone 30 = .ok (.istore 4, 2) := by decide +kernel
theorem dX8_isDone_32 : decode cX8_isDone 32 = .ok (.aload_n 0, 1) := by decide +kernel
theorem dX8_isDone_33 : decode cX8_isDone 33 = .ok (.getfield 26, 3) := by decide +kernel
theorem dX8_isDone_36 : decode cX8_isDone 36 = .ok (.iload_n 1, 1) := by decide +kernel
theorem dX8_isDone_37 : decode cX8_isDone 37 = .ok (.iaload, 1) := by decide +kernel
theorem dX8_isDone_38 : decode cX8_isDone 38 = .ok (.istore 5, 2) := by decide +kernel
theorem dX8_isDone_40 : decode cX8_isDone 40 = .ok (.iconst 0, 1) := by decide +kernel
theorem dX8_isDone_41 : decode cX8_isDone 41 = .ok (.istore 6, 2) := by decide +kernel
theorem dX8_isDone_43 : decode cX8_isDone 43 = .ok (.iconst 0, 1) := by decide +kernel
theorem dX8_isDone_44 : decode cX8_isDone 44 = .ok (.istore 7, 2) := by decide +kernel
theorem dX8_isDone_46 : decode cX8_isDone 46 = .ok (.iload 5, 2) := by decide +kernel
theorem dX8_isDone_48 : decode cX8_isDone 48 = .ok (.tableswitch 125 0 3 #[32, 58, 58, 98], 32) := by decide +kernel
theorem dX8_isDone_80 : decode cX8_isDone 80 = .ok (.aload_n 0, 1) := by decide +kernel
theorem dX8_isDone_81 : decode cX8_isDone 81 = .ok (.iload_n 2, 1) := by decide +kernel
theorem dX8_isDone_82 : decode cX8_isDone 82 = .ok (.invokevirtual 56, 3) := by decide +kernel
theorem dX8_isDone_85 : decode cX8_isDone 85 = .ok (.istore 6, 2) := by decide +kernel
theorem dX8_isDone_87 : decode cX8_isDone 87 = .ok (.iload 6, 2) := by decide +kernel
theorem dX8_isDone_89 : decode cX8_isDone 89 = .ok (.ifCond .eq 11, 3) := by decide +kernel
theorem dX8_isDone_92 : decode cX8_isDone 92 = .ok (.aload_n 0, 1) := by decide +kernel
theorem dX8_isDone_93 : decode cX8_isDone 93 = .ok (.iload_n 2, 1) := by decide +kernel
theorem dX8_isDone_94 : decode cX8_isDone 94 = .ok (.invokevirtual 67, 3) := by decide +kernel
theorem dX8_isDone_97 : decode cX8_isDone 97 = .ok (.goto 4, 3) := by decide +kernel
theorem dX8_isDone_100 : decode cX8_isDone 100 = .ok (.iconst 0, 1) := by decide +kernel
theorem dX8_isDone_101 : decode cX8_isDone 101 = .ok (.istore 7, 2) := by decide +kernel
theorem dX8_isDone_103 : decode cX8_isDone 103 = .ok (.goto 100, 3) := by decide +kernel
theorem dX8_isDone_106 : decode cX8_isDone 106 = .ok (.aload_n 0, 1) := by decide +kernel
theorem dX8_isDone_107 : decode cX8_isDone 107 = .ok (.iload 5, 2) := by decide +kernel
theorem dX8_isDone_109 : decode cX8_isDone 109 = .ok (.iconst 1, 1) := by decide +kernel
theorem dX8_isDone_110 : decode cX8_isDone 110 = .ok (.isub, 1) := by decide +kernel
theorem dX8_isDone_111 : decode cX8_isDone 111 = .ok (.iload_n 2, 1) := by decide +kernel
theorem dX8_isDone_112 : decode cX8_isDone 112 = .ok (.iload_n 3, 1) := by decide +kernel
theorem dX8_isDone_113 : decode cX8_isDone 113 = .ok (.iload 4, 2) := by decide +kernel
theorem dX8_isDone_115 : decode cX8_isDone 115 = .ok (.invokevirtual 73, 3) := by decide +kernel
theorem dX8_isDone_118 : decode cX8_isDone 118 = .ok (.istore 6, 2) := by decide +kernel
theorem dX8_isDone_120 : decode cX8_isDone 120 = .ok (.iload 6, 2) := by decide +kernel
theorem dX8_isDone_122 : decode cX8_isDone 122 = .ok (.ifCond .eq 18, 3) := by decide +kernel
theorem dX8_isDone_125 : decode cX8_isDone 125 = .ok (.aload_n 0, 1) := by decide +kernel
theorem dX8_isDone_126 : decode cX8_isDone 126 = .ok (.iload 5, 2) := by decide +kernel
theorem dX8_isDone_128 : decode cX8_isDone 128 = .ok (.iconst 1, 1) := by decide +kernel
theorem dX8_isDone_129 : decode cX8_isDone 129 = .ok (.isub, 1) := by decide +kernel
theorem dX8_isDone_130 : decode cX8_isDone 130 = .ok (.iload_n 2, 1) := by decide +kernel
theorem dX8_isDone_131 : decode cX8_isDone 131 = .ok (.iload_n 3, 1) := by decide +kernel
theorem dX8_isDone_132 : decode cX8_isDone 132 = .ok (.iload 4, 2) := by decide +kernel
theorem dX8_isDone_134 : decode cX8_isDone 134 = .ok (.invokevirtual 77, 3) := by decide +kernel
theorem dX8_isDone_137 : decode cX8_isDone 137 = .ok (.goto 4, 3) := by decide +kernel
theorem dX8_isDone_140 : decode cX8_isDone 140 = .ok (.iconst 0, 1) := by decide +kernel
theorem dX8_isDone_141 : decode cX8_isDone 141 = .ok (.istore 7, 2) := by decide +kernel
theorem dX8_isDone_143 : decode cX8_isDone 143 = .ok (.goto 60, 3) := by decide +kernel
theorem dX8_isDone_146 : decode cX8_isDone 146 = .ok (.aload_n 0, 1) := by decide +kernel
theorem dX8_isDone_147 : decode cX8_isDone 147 = .ok (.iload_n 2, 1) := by decide +kernel
theorem dX8_isDone_148 : decode cX8_isDone 148 = .ok (.invokevirtual 70, 3) := by decide +kernel
theorem dX8_isDone_151 : decode cX8_isDone 151 = .ok (.istore 6, 2) := by decide +kernel
theorem dX8_isDone_153 : decode cX8_isDone 153 = .ok (.iload 6, 2) := by decide +kernel
theorem dX8_isDone_155 : decode cX8_isDone 155 = .ok (.ifCond .eq 12, 3) := by decide +kernel
theorem dX8_isDone_158 : decode cX8_isDone 158 = .ok (.aload_n 0, 1) := by decide +kernel
theorem dX8_isDone_159 : decode cX8_isDone 159 = .ok (.iload_n 2, 1) := by decide +kernel
theorem dX8_isDone_160 : decode cX8_isDone 160 = .ok (.iconst 1, 1) := by decide +kernel
theorem dX8_isDone_161 : decode cX8_isDone 161 = .ok (.invokevirtual 81, 3) := by decide +kernel
theorem dX8_isDone_164 : decode cX8_isDone 164 = .ok (.goto 4, 3) := by decide +kernel
theorem dX8_isDone_167 : decode cX8_isDone 167 = .ok (.iconst 0, 1) := by decide +kernel
theorem dX8_isDone_168 : decode cX8_isDone 168 = .ok (.istore 7, 2) := by decide +kernel
theorem dX8_isDone_170 : decode cX8_isDone 170 = .ok (.goto 33, 3) := by decide +kernel
theorem dX8_isDone_173 : decode cX8_isDone 173 = .ok (.iload 5, 2) := by decide +kernel
theorem dX8_isDone_175 : decode cX8_isDone 175 = .ok (.iconst 4, 1) := by decide +kernel
theorem dX8_isDone_176 : decode cX8_isDone 176 = .ok (.isub, 1) := by decide +kernel
theorem dX8_isDone_177 : decode cX8_isDone 177 = .ok (.iload_n 2, 1) := by decide +kernel
theorem dX8_isDone_178 : decode cX8_isDone 178 = .ok (.invokestatic 85, 3) := by decide +kernel
theorem dX8_isDone_181 : decode cX8_isDone 181 = .ok (.istore 6, 2) := by decide +kernel
theorem dX8_isDone_183 : decode cX8_isDone 183 = .ok (.iload 6, 2) := by decide +kernel
theorem dX8_isDone_185 : decode cX8_isDone 185 = .ok (.ifCond .eq 15, 3) := by decide +kernel
theorem dX8_isDone_188 : decode cX8_isDone 188 = .ok (.aload_n 0, 1) := by decide +kernel
theorem dX8_isDone_189 : decode cX8_isDone 189 = .ok (.iload 5, 2) := by decide +kernel
theorem dX8_isDone_191 : decode cX8_isDone 191 = .ok (.iconst 4, 1) := by decide +kernel
theorem dX8_isDone_192 : decode cX8_isDone 192 = .ok (.isub, 1) := by decide +kernel
theorem dX8_isDone_193 : decode cX8_isDone 193 = .ok (.iload_n 2, 1) := by decide +kernel
theorem dX8_isDone_194 : decode cX8_isDone 194 = .ok (.invokevirtual 89, 3) := by decide +kernel
theorem dX8_isDone_197 : decode cX8_isDone 197 = .ok (.goto 4, 3) := by decide +kernel
theorem dX8_isDone_200 : decode cX8_isDone 200 = .ok (.iconst 0, 1) := by decide +kernel
theorem dX8_isDone_201 : decode cX8_isDone 201 = .ok (.istore 7, 2) := by decide +kernel
theorem dX8_isDone_203 : decode cX8_isDone 203 = .ok (.iload 6, 2) := by decide +kernel
theorem dX8_isDone_205 : decode cX8_isDone 205 = .ok (.ifCond .eq 15, 3) := by decide +kernel
theorem dX8_isDone_208 : decode cX8_isDone 208 = .ok (.iload 7, 2) := by decide +kernel
theorem dX8_isDone_210 : decode cX8_isDone 210 = .ok (.sipush (-1000), 3) := by decide +kernel
theorem dX8_isDone_213 : decode cX8_isDone 213 = .ok (.if_icmp .le 7, 3) := by decide +kernel
theorem dX8_isDone_216 : decode cX8_isDone 216 = .ok (.iconst 1, 1) := by decide +kernel
theorem dX8_isDone_217 : decode cX8_isDone 217 = .ok (.goto 4, 3) := by decide +kernel
theorem dX8_isDone_220 : decode cX8_isDone 220 = .ok (.iconst 0, 1) := by decide +kernel
theorem dX8_isDone_221 : decode cX8_isDone 221 = .ok (.ireturn, 1) := by decide +kernel
theorem dX8_does_0 : decode cX8_does 0 = .ok (.aload_n 0, 1) := by decide +kernel
theorem dX8_does_1 : decode cX8_does 1 = .ok (.invokevirtual 189, 3) := by decide +kernel
theorem dX8_does_4 : decode cX8_does 4 = .ok (.ifCond .ne 35, 3) := by decide +kernel
theorem dX8_does_7 : decode cX8_does 7 = .ok (.aload_n 0, 1) := by decide +kernel
theorem dX8_does_8 : decode cX8_does 8 = .ok (.aload_n 0, 1) := by decide +kernel
theorem dX8_does_9 : decode cX8_does 9 = .ok (.getfield 175, 3) := by decide +kernel
theorem dX8_does_12 : decode cX8_does 12 = .ok (.ifCond .eq 7, 3) := by decide +kernel
theorem dX8_does_15 : decode cX8_does 15 = .ok (.iconst 1, 1) := by decide +kernel
theorem dX8_does_16 : decode cX8_does 16 = .ok (.goto 4, 3) := by decide +kernel
theorem dX8_does_19 : decode cX8_does 19 = .ok (.iconst 2, 1) := by decide +kernel
theorem dX8_does_20 : decode cX8_does 20 = .ok (.putfield 192, 3) := by decide +kernel
theorem dX8_does_23 : decode cX8_does 23 = .ok (.aload_n 0, 1) := by decide +kernel
theorem dX8_does_24 : decode cX8_does 24 = .ok (.aload_n 0, 1) := by decide +kernel
theorem dX8_does_25 : decode cX8_does 25 = .ok (.getfield 159, 3) := by decide +kernel
theorem dX8_does_28 : decode cX8_does 28 = .ok (.putfield 16, 3) := by decide +kernel
theorem dX8_does_31 : decode cX8_does 31 = .ok (.bipush (-10), 2) := by decide +kernel
theorem dX8_does_33 : decode cX8_does 33 = .ok (.aload_n 0, 1) := by decide +kernel
theorem dX8_does_34 : decode cX8_does 34 = .ok (.getfield 159, 3) := by decide +kernel
theorem dX8_does_37 : decode cX8_does 37 = .ok (.isub, 1) := by decide +kernel
theorem dX8_does_38 : decode cX8_does 38 = .ok (.ireturn, 1) := by decide +kernel
theorem dX8_does_39 : decode cX8_does 39 = .ok (.aload_n 0, 1) := by decide +kernel
theorem dX8_does_40 : decode cX8_does 40 = .ok (.bipush 6, 2) := by decide +kernel
theorem dX8_does_42 : decode cX8_does 42 = .ok (.invokevirtual 41, 3) := by decide +kernel
theorem dX8_does_45 : decode cX8_does 45 = .ok (.iconst 0, 1) := by decide +kernel
theorem dX8_does_46 : decode cX8_does 46 = .ok (.istore_n 1, 1) := by decide +kernel
theorem dX8_does_47 : decode cX8_does 47 = .ok (.iload_n 1, 1) := by decide +kernel
theorem dX8_does_48 : decode cX8_does 48 = .ok (.aload_n 0, 1) := by decide +kernel
theorem dX8_does_49 : decode cX8_does 49 = .ok (.getfield 179, 3) := by decide +kernel
theorem dX8_does_52 : decode cX8_does 52 = .ok (.if_icmp .ge 39, 3) := by decide +kernel
theorem dX8_does_55 : decode cX8_does 55 = .ok (.aload_n 0, 1) := by decide +kernel
theorem dX8_does_56 : decode cX8_does 56 = .ok (.iload_n 1, 1) := by decide +kernel
theorem dX8_does_57 : decode cX8_does 57 = .ok (.invokevirtual 195, 3) := by decide +kernel
theorem dX8_does_60 : decode cX8_does 60 = .ok (.ifCond .ne 25, 3) := by decide +kernel
theorem dX8_does_63 : decode cX8_does 63 = .ok (.aload_n 0, 1) := by decide +kernel
theorem dX8_does_64 : decode cX8_does 64 = .ok (.bipush 6, 2) := by decide +kernel
theorem dX8_does_66 : decode cX8_does 66 = .ok (.invokevirtual 198, 3) := by decide +kernel
theorem dX8_does_69 : decode cX8_does 69 = .ok (.aload_n 0, 1) := by decide +kernel
theorem dX8_does_70 : decode cX8_does 70 = .ok (.iconst 3, 1) := by decide +kernel
theorem dX8_does_71 : decode cX8_does 71 = .ok (.putfield 192, 3) := by decide +kernel
theorem dX8_does_74 : decode cX8_does 74 = .ok (.aload_n 0, 1) := by decide +kernel
theorem dX8_does_75 : decode cX8_does 75 = .ok (.iload_n 1, 1) := by decide +kernel
theorem dX8_does_76 : decode cX8_does 76 = .ok (.putfield 16, 3) := by decide +kernel
theorem dX8_does_79 : decode cX8_does 79 = .ok (.sipush (-1000), 3) := by decide +kernel
theorem dX8_does_82 : decode cX8_does 82 = .ok (.iload_n 1, 1) := by decide +kernel
theorem dX8_does_83 : decode cX8_does 83 = .ok (.isub, 1) := by decide +kernel
theorem dX8_does_84 : decode cX8_does 84 = .ok (.ireturn, 1) := by decide +kernel
theorem dX8_does_85 : decode cX8_does 85 = .ok (.iinc 1 1, 3) := by decide +kernel
theorem dX8_does_88 : decode cX8_does 88 = .ok (.goto (-41), 3) := by decide +kernel
theorem dX8_does_91 : decode cX8_does 91 = .ok (.aload_n 0, 1) := by decide +kernel
theorem dX8_does_92 : decode cX8_does 92 = .ok (.invokevirtual 201, 3) := by decide +kernel
theorem dX8_does_95 : decode cX8_does 95 = .ok (.aload_n 0, 1) := by decide +kernel
theorem dX8_does_96 : decode cX8_does 96 = .ok (.getfield 179, 3) := by decide +kernel
theorem dX8_does_99 : decode cX8_does 99 = .ok (.ireturn, 1) := by decide +kernel
theorem dX8_leaves_0 : decode cX8_leaves 0 = .ok (.aload_n 0, 1) := by decide +kernel
theorem dX8_leaves_1 : decode cX8_leaves 1 = .ok (.getfield 38, 3) := by decide +kernel
theorem dX8_leaves_4 : decode cX8_leaves 4 = .ok (.bipush 6, 2) := by decide +kernel
theorem dX8_leaves_6 : decode cX8_leaves 6 = .ok (.if_icmp .ne 44, 3) := by decide +kernel
theorem dX8_leaves_9 : decode cX8_leaves 9 = .ok (.iconst 0, 1) := by decide +kernel
theorem dX8_leaves_10 : decode cX8_leaves 10 = .ok (.istore_n 1, 1) := by decide +kernel
theorem dX8_leaves_11 : decode cX8_leaves 11 = .ok (.iload_n 1, 1) := by decide +kernel
theorem dX8_leaves_12 : decode cX8_leaves 12 = .ok (.sipush 3080, 3) := by decide +kernel
theorem dX8_leaves_15 : decode cX8_leaves 15 = .ok (.if_icmp .ge 25, 3) := by decide +kernel
theorem dX8_leaves_18 : decode cX8_leaves 18 = .ok (.aload_n 0, 1) := by decide +kernel
theorem dX8_leaves_19 : decode cX8_leaves 19 = .ok (.getfield 13, 3) := by decide +kernel
theorem dX8_leaves_22 : decode cX8_leaves 22 = .ok (.iload_n 1, 1) := by decide +kernel
theorem dX8_leaves_23 : decode cX8_leaves 23 = .ok (.aload_n 0, 1) := by decide +kernel
theorem dX8_leaves_24 : decode cX8_leaves 24 = .ok (.getfield 13, 3) := by decide +kernel
theorem dX8_leaves_27 : decode cX8_leaves 27 = .ok (.iload_n 1, 1) := by decide +kernel
theorem dX8_leaves_28 : decode cX8_leaves 28 = .ok (.sipush 616, 3) := by decide +kernel
theorem dX8_leaves_31 : decode cX8_leaves 31 = .ok (.iadd, 1) := by decide +kernel
theorem dX8_leaves_32 : decode cX8_leaves 32 = .ok (.iaload, 1) := by decide +kernel
theorem dX8_leaves_33 : decode cX8_leaves 33 = .ok (.iastore, 1) := by decide +kernel
theorem dX8_leaves_34 : decode cX8_leaves 34 = .ok (.iinc 1 1, 3) := by decide +kernel
theorem dX8_leaves_37 : decode cX8_leaves 37 = .ok (.goto (-26), 3) := by decide +kernel
theorem dX8_leaves_40 : decode cX8_leaves 40 = .ok (.aload_n 0, 1) := by decide +kernel
theorem dX8_leaves_41 : decode cX8_leaves 41 = .ok (.dup, 1) := by decide +kernel
theorem dX8_leaves_42 : decode cX8_leaves 42 = .ok (.getfield 38, 3) := by decide +kernel
theorem dX8_leaves_45 : decode cX8_leaves 45 = .ok (.iconst 1, 1) := by decide +kernel
theorem dX8_leaves_46 : decode cX8_leaves 46 = .ok (.isub, 1) := by decide +kernel
theorem dX8_leaves_47 : decode cX8_leaves 47 = .ok (.putfield 38, 3) := by decide +kernel
theorem dX8_leaves_50 : decode cX8_leaves 50 = .ok (.iconst 0, 1) := by decide +kernel
theorem dX8_leaves_51 : decode cX8_leaves 51 = .ok (.istore_n 1, 1) := by decide +kernel
theorem dX8_leaves_52 : decode cX8_leaves 52 = .ok (.iload_n 1, 1) := by decide +kernel
theorem dX8_leaves_53 : decode cX8_leaves 53 = .ok (.sipush 616, 3) := by decide +kernel
theorem dX8_leaves_56 : decode cX8_leaves 56 = .ok (.if_icmp .ge 34, 3) := by decide +kernel
theorem dX8_leaves_59 : decode cX8_leaves 59 = .ok (.aload_n 0, 1) := by decide +kernel
theorem dX8_leaves_60 : decode cX8_leaves 60 = .ok (.getfield 13, 3) := by decide +kernel
theorem dX8_leaves_63 : decode cX8_leaves 63 = .ok (.sipush 616, 3) := by decide +kernel
theorem dX8_leaves_66 : decode cX8_leaves 66 = .ok (.aload_n 0, 1) := by decide +kernel
theorem dX8_leaves_67 : decode cX8_leaves 67 = .ok (.getfield 38, 3) := by decide +kernel
theorem dX8_leaves_70 : decode cX8_leaves 70 = .ok (.imul, 1) := by decide +kernel
theorem dX8_leaves_71 : decode cX8_leaves 71 = .ok (.iload_n 1, 1) := by decide +kernel
theorem dX8_leaves_72 : decode cX8_leaves 72 = .ok (.iadd, 1) := by decide +kernel
theorem dX8_leaves_73 : decode cX8_leaves 73 = .ok (.aload_n 0, 1) := by decide +kernel
theorem dX8_leaves_74 : decode cX8_leaves 74 = .ok (.getfield 13, 3) := by decide +kernel
theorem dX8_leaves_77 : decode cX8_leaves 77 = .ok (.sipush 3696, 3) := by decide +kernel
theorem dX8_leaves_80 : decode cX8_leaves 80 = .ok (.iload_n 1, 1) := by decide +kernel
theorem dX8_leaves_81 : decode cX8_leaves 81 = .ok (.iadd, 1) := by decide +kernel
theorem dX8_leaves_82 : decode cX8_leaves 82 = .ok (.iaload, 1) := by decide +kernel
theorem dX8_leaves_83 : decode cX8_leaves 83 = .ok (.iastore, 1) := by decide +kernel
theorem dX8_leaves_84 : decode cX8_leaves 84 = .ok (.iinc 1 1, 3) := by decide +kernel
theorem dX8_leaves_87 : decode cX8_leaves 87 = .ok (.goto (-35), 3) := by decide +kernel
theorem dX8_leaves_90 : decode cX8_leaves 90 = .ok (.aload_n 0, 1) := by decide +kernel
theorem dX8_leaves_91 : decode cX8_leaves 91 = .ok (.dup, 1) := by decide +kernel
theorem dX8_leaves_92 : decode cX8_leaves 92 = .ok (.getfield 38, 3) := by decide +kernel
theorem dX8_leaves_95 : decode cX8_leaves 95 = .ok (.iconst 1, 1) := by decide +kernel
theorem dX8_leaves_96 : decode cX8_leaves 96 = .ok (.iadd, 1) := by decide +kernel
theorem dX8_leaves_97 : decode cX8_leaves 97 = .ok (.putfield 38, 3) := by decide +kernel
theorem dX8_leaves_100 : decode cX8_leaves 100 = .ok (.return_, 1) := by decide +kernel
theorem dX8_tellWhy_0 : decode cX8_tellWhy 0 = .ok (.iload_n 1, 1) := by decide +kernel
theorem dX8_tellWhy_1 : decode cX8_tellWhy 1 = .ok (.ifCond .ne 10, 3) := by decide +kernel
theorem dX8_tellWhy_4 : decode cX8_tellWhy 4 = .ok (.aload_n 0, 1) := by decide +kernel
theorem dX8_tellWhy_5 : decode cX8_tellWhy 5 = .ok (.getfield 192, 3) := by decide +kernel
theorem dX8_tellWhy_8 : decode cX8_tellWhy 8 = .ok (.goto 7, 3) := by decide +kernel
theorem dX8_tellWhy_11 : decode cX8_tellWhy 11 = .ok (.aload_n 0, 1) := by decide +kernel
theorem dX8_tellWhy_12 : decode cX8_tellWhy 12 = .ok (.getfield 16, 3) := by decide +kernel
theorem dX8_tellWhy_15 : decode cX8_tellWhy 15 = .ok (.ireturn, 1) := by decide +kernel
theorem dX8_why_0 : decode cX8_why 0 = .ok (.iload_n 1, 1) := by decide +kernel
theorem dX8_why_1 : decode cX8_why 1 = .ok (.iconst 0, 1) := by decide +kernel
theorem dX8_why_2 : decode cX8_why 2 = .ok (.iconst 1, 1) := by decide +kernel
theorem dX8_why_3 : decode cX8_why 3 = .ok (.invokestatic 45, 3) := by decide +kernel
theorem dX8_why_6 : decode cX8_why 6 = .ok (.ifCond .eq 11, 3) := by decide +kernel
theorem dX8_why_9 : decode cX8_why 9 = .ok (.aload_n 0, 1) := by decide +kernel
theorem dX8_why_10 : decode cX8_why 10 = .ok (.iload_n 1, 1) := by decide +kernel
theorem dX8_why_11 : decode cX8_why 11 = .ok (.invokevirtual 204, 3) := by decide +kernel
theorem dX8_why_14 : decode cX8_why 14 = .ok (.goto 7, 3) := by decide +kernel
theorem dX8_why_17 : decode cX8_why 17 = .ok (.aload_n 0, 1) := by decide +kernel
theorem dX8_why_18 : decode cX8_why 18 = .ok (.invokevirtual 60, 3) := by decide +kernel
theorem dX8_why_21 : decode cX8_why 21 = .ok (.ireturn, 1) := by decide +kernel
theorem dX8_back_0 : decode cX8_back 0 = .ok (.aload_n 0, 1) := by decide +kernel
theorem dX8_back_1 : decode cX8_back 1 = .ok (.getfield 38, 3) := by decide +kernel
theorem dX8_back_4 : decode cX8_back 4 = .ok (.ifCond .ne 8, 3) := by decide +kernel
theorem dX8_back_7 : decode cX8_back 7 = .ok (.aload_n 0, 1) := by decide +kernel
theorem dX8_back_8 : decode cX8_back 8 = .ok (.invokevirtual 137, 3) := by decide +kernel
theorem dX8_back_11 : decode cX8_back 11 = .ok (.ireturn, 1) := by decide +kernel
theorem dX8_back_12 : decode cX8_back 12 = .ok (.aload_n 0, 1) := by decide +kernel
theorem dX8_back_13 : decode cX8_back 13 = .ok (.dup, 1) := by decide +kernel
theorem dX8_back_14 : decode cX8_back 14 = .ok (.getfield 38, 3) := by decide +kernel
theorem dX8_back_17 : decode cX8_back 17 = .ok (.iconst 1, 1) := by decide +kernel
theorem dX8_back_18 : decode cX8_back 18 = .ok (.isub, 1) := by decide +kernel
theorem dX8_back_19 : decode cX8_back 19 = .ok (.putfield 38, 3) := by decide +kernel
theorem dX8_back_22 : decode cX8_back 22 = .ok (.aload_n 0, 1) := by decide +kernel
theorem dX8_back_23 : decode cX8_back 23 = .ok (.aload_n 0, 1) := by decide +kernel
theorem dX8_back_24 : decode cX8_back 24 = .ok (.getfield 38, 3) := by decide +kernel
theorem dX8_back_27 : decode cX8_back 27 = .ok (.invokevirtual 198, 3) := by decide +kernel
theorem dX8_back_30 : decode cX8_back 30 = .ok (.aload_n 0, 1) := by decide +kernel
theorem dX8_back_31 : decode cX8_back 31 = .ok (.getfield 38, 3) := by decide +kernel
theorem dX8_back_34 : decode cX8_back 34 = .ok (.ireturn, 1) := by decide +kernel
theorem dX8_tell_0 : decode cX8_tell 0 = .ok (.iload_n 1, 1) := by decide +kernel
theorem dX8_tell_1 : decode cX8_tell 1 = .ok (.tableswitch 99 0 12 #[67, 72, 77, 82, 99, 99, 99, 99, 99, 99, 99, 89, 94], 67) := by decide +kernel
theorem dX8_tell_68 : decode cX8_tell 68 = .ok (.aload_n 0, 1) := by decide +kernel
theorem dX8_tell_69 : decode cX8_tell 69 = .ok (.getfield 32, 3) := by decide +kernel
theorem dX8_tell_72 : decode cX8_tell 72 = .ok (.ireturn, 1) := by decide +kernel
theorem dX8_tell_73 : decode cX8_tell 73 = .ok (.aload_n 0, 1) := by decide +kernel
theorem dX8_tell_74 : decode cX8_tell 74 = .ok (.getfield 35, 3) := by decide +kernel
theorem dX8_tell_77 : decode cX8_tell 77 = .ok (.ireturn, 1) := by decide +kernel
theorem dX8_tell_78 : decode cX8_tell 78 = .ok (.aload_n 0, 1) := by decide +kernel
theorem dX8_tell_79 : decode cX8_tell 79 = .ok (.getfield 146, 3) := by decide +kernel
theorem dX8_tell_82 : decode cX8_tell 82 = .ok (.ireturn, 1) := by decide +kernel
theorem dX8_tell_83 : decode cX8_tell 83 = .ok (.aload_n 0, 1) := by decide +kernel
theorem dX8_tell_84 : decode cX8_tell 84 = .ok (.getfield 7, 3) := by decide +kernel
theorem dX8_tell_87 : decode cX8_tell 87 = .ok (.iconst 0, 1) := by decide +kernel
theorem dX8_tell_88 : decode cX8_tell 88 = .ok (.iaload, 1) := by decide +kernel
theorem dX8_tell_89 : decode cX8_tell 89 = .ok (.ireturn, 1) := by decide +kernel
theorem dX8_tell_90 : decode cX8_tell 90 = .ok (.aload_n 0, 1) := by decide +kernel
theorem dX8_tell_91 : decode cX8_tell 91 = .ok (.getfield 143, 3) := by decide +kernel
theorem dX8_tell_94 : decode cX8_tell 94 = .ok (.ireturn, 1) := by decide +kernel
theorem dX8_tell_95 : decode cX8_tell 95 = .ok (.aload_n 0, 1) := by decide +kernel
theorem dX8_tell_96 : decode cX8_tell 96 = .ok (.getfield 38, 3) := by decide +kernel
theorem dX8_tell_99 : decode cX8_tell 99 = .ok (.ireturn, 1) := by decide +kernel
theorem dX8_tell_100 : decode cX8_tell 100 = .ok (.aload_n 0, 1) := by decide +kernel
theorem dX8_tell_101 : decode cX8_tell 101 = .ok (.getfield 7, 3) := by decide +kernel
theorem dX8_tell_104 : decode cX8_tell 104 = .ok (.iconst 1, 1) := by decide +kernel
theorem dX8_tell_105 : decode cX8_tell 105 = .ok (.iload_n 1, 1) := by decide +kernel
theorem dX8_tell_106 : decode cX8_tell 106 = .ok (.iadd, 1) := by decide +kernel
theorem dX8_tell_107 : decode cX8_tell 107 = .ok (.iconst 4, 1) := by decide +kernel
theorem dX8_tell_108 : decode cX8_tell 108 = .ok (.isub, 1) := by decide +kernel
theorem dX8_tell_109 : decode cX8_tell 109 = .ok (.iaload, 1) := by decide +kernel
theorem dX8_tell_110 : decode cX8_tell 110 = .ok (.ireturn, 1) := by decide +kernel
theorem dX8_told_0 : decode cX8_told 0 = .ok (.iload_n 1, 1) := by decide +kernel
theorem dX8_told_1 : decode cX8_told 1 = .ok (.iconst 0, 1) := by decide +kernel
theorem dX8_told_2 : decode cX8_told 2 = .ok (.bipush 12, 2) := by decide +kernel
theorem dX8_told_4 : decode cX8_told 4 = .ok (.invokestatic 45, 3) := by decide +kernel
theorem dX8_told_7 : decode cX8_told 7 = .ok (.ifCond .eq 11, 3) := by decide +kernel
theorem dX8_told_10 : decode cX8_told 10 = .ok (.aload_n 0, 1) := by decide +kernel
theorem dX8_told_11 : decode cX8_told 11 = .ok (.iload_n 1, 1) := by decide +kernel
theorem dX8_told_12 : decode cX8_told 12 = .ok (.invokevirtual 207, 3) := by decide +kernel
theorem dX8_told_15 : decode cX8_told 15 = .ok (.goto 7, 3) := by decide +kernel
theorem dX8_told_18 : decode cX8_told 18 = .ok (.aload_n 0, 1) := by decide +kernel
theorem dX8_told_19 : decode cX8_told 19 = .ok (.invokevirtual 60, 3) := by decide +kernel
theorem dX8_told_22 : decode cX8_told 22 = .ok (.ireturn, 1) := by decide +kernel
theorem dX8_more_0 : decode cX8_more 0 = .ok (.ldc2_w 210, 3) := by decide +kernel
theorem dX8_more_3 : decode cX8_more 3 = .ok (.lload_n 0, 1) := by decide +kernel
theorem dX8_more_4 : decode cX8_more 4 = .ok (.lmul, 1) := by decide +kernel
theorem dX8_more_5 : decode cX8_more 5 = .ok (.iload_n 2, 1) := by decide +kernel
theorem dX8_more_6 : decode cX8_more 6 = .ok (.i2l, 1) := by decide +kernel
theorem dX8_more_7 : decode cX8_more 7 = .ok (.ladd, 1) := by decide +kernel
theorem dX8_more_8 : decode cX8_more 8 = .ok (.lreturn, 1) := by decide +kernel
theorem dX8_digest_0 : decode cX8_digest 0 = .ok (.ldc2_w 212, 3) := by decide +kernel
theorem dX8_digest_3 : decode cX8_digest 3 = .ok (.lstore_n 1, 1) := by decide +kernel
theorem dX8_digest_4 : decode cX8_digest 4 = .ok (.iconst 0, 1) := by decide +kernel
theorem dX8_digest_5 : decode cX8_digest 5 = .ok (.istore_n 3, 1) := by decide +kernel
theorem dX8_digest_6 : decode cX8_digest 6 = .ok (.iload_n 3, 1) := by decide +kernel
theorem dX8_digest_7 : decode cX8_digest 7 = .ok (.bipush 13, 2) := by decide +kernel
theorem dX8_digest_9 : decode cX8_digest 9 = .ok (.if_icmp .ge 19, 3) := by decide +kernel
theorem dX8_digest_12 : decode cX8_digest 12 = .ok (.lload_n 1, 1) := by decide +kernel
theorem dX8_digest_13 : decode cX8_digest 13 = .ok (.aload_n 0, 1) := by decide +kernel
theorem dX8_digest_14 : decode cX8_digest 14 = .ok (.iload_n 3, 1) := by decide +kernel
theorem dX8_digest_15 : decode cX8_digest 15 = .ok (.invokevirtual 207, 3) := by decide +kernel
theorem dX8_digest_18 : decode cX8_digest 18 = .ok (.invokestatic 214, 3) := by decide +kernel
theorem dX8_digest_21 : decode cX8_digest 21 = .ok (.lstore_n 1, 1) := by decide +kernel
theorem dX8_digest_22 : decode cX8_digest 22 = .ok (.iinc 3 1, 3) := by decide +kernel
theorem dX8_digest_25 : decode cX8_digest 25 = .ok (.goto (-19), 3) := by decide +kernel
theorem dX8_digest_28 : decode cX8_digest 28 = .ok (.lload_n 1, 1) := by decide +kernel
theorem dX8_digest_29 : decode cX8_digest 29 = .ok (.aload_n 0, 1) := by decide +kernel
theorem dX8_digest_30 : decode cX8_digest 30 = .ok (.getfield 192, 3) := by decide +kernel
theorem dX8_digest_33 : decode cX8_digest 33 = .ok (.invokestatic 214, 3) := by decide +kernel
theorem dX8_digest_36 : decode cX8_digest 36 = .ok (.lstore_n 1, 1) := by decide +kernel
theorem dX8_digest_37 : decode cX8_digest 37 = .ok (.lload_n 1, 1) := by decide +kernel
theorem dX8_digest_38 : decode cX8_digest 38 = .ok (.aload_n 0, 1) := by decide +kernel
theorem dX8_digest_39 : decode cX8_digest 39 = .ok (.getfield 16, 3) := by decide +kernel
theorem dX8_digest_42 : decode cX8_digest 42 = .ok (.invokestatic 214, 3) := by decide +kernel
theorem dX8_digest_45 : decode cX8_digest 45 = .ok (.lstore_n 1, 1) := by decide +kernel
theorem dX8_digest_46 : decode cX8_digest 46 = .ok (.aload_n 0, 1) := by decide +kernel
theorem dX8_digest_47 : decode cX8_digest 47 = .ok (.invokevirtual 101, 3) := by decide +kernel
theorem dX8_digest_50 : decode cX8_digest 50 = .ok (.iconst 0, 1) := by decide +kernel
theorem dX8_digest_51 : decode cX8_digest 51 = .ok (.istore_n 3, 1) := by decide +kernel
theorem dX8_digest_52 : decode cX8_digest 52 = .ok (.iload_n 3, 1) := by decide +kernel
theorem dX8_digest_53 : decode cX8_digest 53 = .ok (.aload_n 0, 1) := by decide +kernel
theorem dX8_digest_54 : decode cX8_digest 54 = .ok (.getfield 7, 3) := by decide +kernel
theorem dX8_digest_57 : decode cX8_digest 57 = .ok (.iconst 0, 1) := by decide +kernel
theorem dX8_digest_58 : decode cX8_digest 58 = .ok (.iaload, 1) := by decide +kernel
theorem dX8_digest_59 : decode cX8_digest 59 = .ok (.if_icmp .ge 47, 3) := by decide +kernel
theorem dX8_digest_62 : decode cX8_digest 62 = .ok (.iconst 0, 1) := by decide +kernel
theorem dX8_digest_63 : decode cX8_digest 63 = .ok (.istore 4, 2) := by decide +kernel
theorem dX8_digest_65 : decode cX8_digest 65 = .ok (.iload 4, 2) := by decide +kernel
theorem dX8_digest_67 : decode cX8_digest 67 = .ok (.iconst 3, 1) := by decide +kernel
theorem dX8_digest_68 : decode cX8_digest 68 = .ok (.if_icmp .ge 21, 3) := by decide +kernel
theorem dX8_digest_71 : decode cX8_digest 71 = .ok (.lload_n 1, 1) := by decide +kernel
theorem dX8_digest_72 : decode cX8_digest 72 = .ok (.aload_n 0, 1) := by decide +kernel
theorem dX8_digest_73 : decode cX8_digest 73 = .ok (.iload_n 3, 1) := by decide +kernel
theorem dX8_digest_74 : decode cX8_digest 74 = .ok (.iload 4, 2) := by decide +kernel
theorem dX8_digest_76 : decode cX8_digest 76 = .ok (.invokevirtual 98, 3) := by decide +kernel
theorem dX8_digest_79 : decode cX8_digest 79 = .ok (.invokestatic 214, 3) := by decide +kernel
theorem dX8_digest_82 : decode cX8_digest 82 = .ok (.lstore_n 1, 1) := by decide +kernel
theorem dX8_digest_83 : decode cX8_digest 83 = .ok (.iinc 4 1, 3) := by decide +kernel
theorem dX8_digest_86 : decode cX8_digest 86 = .ok (.goto (-21), 3) := by decide +kernel
theorem dX8_digest_89 : decode cX8_digest 89 = .ok (.lload_n 1, 1) := by decide +kernel
theorem dX8_digest_90 : decode cX8_digest 90 = .ok (.aload_n 0, 1) := by decide +kernel
theorem dX8_digest_91 : decode cX8_digest 91 = .ok (.getfield 20, 3) := by decide +kernel
theorem dX8_digest_94 : decode cX8_digest 94 = .ok (.iload_n 3, 1) := by decide +kernel
theorem dX8_digest_95 : decode cX8_digest 95 = .ok (.iaload, 1) := by decide +kernel
theorem dX8_digest_96 : decode cX8_digest 96 = .ok (.invokestatic 214, 3) := by decide +kernel
theorem dX8_digest_99 : decode cX8_digest 99 = .ok (.lstore_n 1, 1) := by decide +kernel
theorem dX8_digest_100 : decode cX8_digest 100 = .ok (.iinc 3 1, 3) := by decide +kernel
theorem dX8_digest_103 : decode cX8_digest 103 = .ok (.goto (-51), 3) := by decide +kernel
theorem dX8_digest_106 : decode cX8_digest 106 = .ok (.iconst 0, 1) := by decide +kernel
theorem dX8_digest_107 : decode cX8_digest 107 = .ok (.istore_n 3, 1) := by decide +kernel
theorem dX8_digest_108 : decode cX8_digest 108 = .ok (.iload_n 3, 1) := by decide +kernel
theorem dX8_digest_109 : decode cX8_digest 109 = .ok (.bipush 13, 2) := by decide +kernel
theorem dX8_digest_111 : decode cX8_digest 111 = .ok (.if_icmp .ge 19, 3) := by decide +kernel
theorem dX8_digest_114 : decode cX8_digest 114 = .ok (.lload_n 1, 1) := by decide +kernel
theorem dX8_digest_115 : decode cX8_digest 115 = .ok (.aload_n 0, 1) := by decide +kernel
theorem dX8_digest_116 : decode cX8_digest 116 = .ok (.iload_n 3, 1) := by decide +kernel
theorem dX8_digest_117 : decode cX8_digest 117 = .ok (.invokevirtual 140, 3) := by decide +kernel
theorem dX8_digest_120 : decode cX8_digest 120 = .ok (.invokestatic 214, 3) := by decide +kernel
theorem dX8_digest_123 : decode cX8_digest 123 = .ok (.lstore_n 1, 1) := by decide +kernel
theorem dX8_digest_124 : decode cX8_digest 124 = .ok (.iinc 3 1, 3) := by decide +kernel
theorem dX8_digest_127 : decode cX8_digest 127 = .ok (.goto (-19), 3) := by decide +kernel
theorem dX8_digest_130 : decode cX8_digest 130 = .ok (.lload_n 1, 1) := by decide +kernel
theorem dX8_digest_131 : decode cX8_digest 131 = .ok (.lreturn, 1) := by decide +kernel
