theorem dX10_init_23 : decode cX10_init 23 = .ok (.newarray .int, 2) := by decide +kernel
theorem dX10_init_25 : decode cX10_init 25 = .ok (.putfield 16, 3) := by decide +kernel
theorem dX10_init_28 : decode cX10_init 28 = .ok (.aload_n 0, 1) := by decide +kernel
theorem dX10_init_29 : decode cX10_init 29 = .ok (.bipush 32, 2) := by decide +kernel
theorem dX10_init_31 : decode cX10_init 31 = .ok (.newarray .int, 2) := by decide +kernel
theorem dX10_init_33 : decode cX10_init 33 = .ok (.putfield 19, 3) := by decide +kernel
theorem dX10_init_36 : decode cX10_init 36 = .ok (.aload_n 0, 1) := by decide +kernel
theorem dX10_init_37 : decode cX10_init 37 = .ok (.bipush 32, 2) := by decide +kernel
theorem dX10_init_39 : decode cX10_init 39 = .ok (.newarray .int, 2) := by decide +kernel
theorem dX10_init_41 : decode cX10_init 41 = .ok (.putfield 22, 3) := by decide +kernel
theorem dX10_init_44 : decode cX10_init 44 = .ok (.aload_n 0, 1) := by decide +kernel
theorem dX10_init_45 : decode cX10_init 45 = .ok (.bipush 32, 2) := by decide +kernel
theorem dX10_init_47 : decode cX10_init 47 = .ok (.newarray .int, 2) := by decide +kernel
theorem dX10_init_49 : decode cX10_init 49 = .ok (.putfield 25, 3) := by decide +kernel
theorem dX10_init_52 : decode cX10_init 52 = .ok (.aload_n 0, 1) := by decide +kernel
theorem dX10_init_53 : decode cX10_init 53 = .ok (.sipush 128, 3) := by decide +kernel
theorem dX10_init_56 : decode cX10_init 56 = .ok (.newarray .int, 2) := by decide +kernel
theorem dX10_init_58 : decode cX10_init 58 = .ok (.putfield 28, 3) := by decide +kernel
theorem dX10_init_61 : decode cX10_init 61 = .ok (.aload_n 0, 1) := by decide +kernel
theorem dX10_init_62 : decode cX10_init 62 = .ok (.sipush 8192, 3) := by decide +kernel
theorem dX10_init_65 : decode cX10_init 65 = .ok (.newarray .int, 2) := by decide +kernel
theorem dX10_init_67 : decode cX10_init 67 = .ok (.putfield 31, 3) := by decide +kernel
theorem dX10_init_70 : decode cX10_init 70 = .ok (.aload_n 0, 1) := by decide +kernel
theorem dX10_init_71 : decode cX10_init 71 = .ok (.sipush 512, 3) := by decide +kernel
theorem dX10_init_74 : decode cX10_init 74 = .ok (.newarray .int, 2) := by decide +kernel
theorem dX10_init_76 : decode cX10_init 76 = .ok (.putfield 34, 3) := by decide +kernel
theorem dX10_init_79 : decode cX10_init 79 = .ok (.aload_n 0, 1) := by decide +kernel
theorem dX10_init_80 : decode cX10_init 80 = .ok (.sipush 512, 3) := by decide +kernel
theorem dX10_init_83 : decode cX10_init 83 = .ok (.newarray .int, 2) := by decide +kernel
theorem dX10_init_85 : decode cX10_init 85 = .ok (.putfield 37, 3) := by decide +kernel
theorem dX10_init_88 : decode cX10_init 88 = .ok (.aload_n 0, 1) := by decide +kernel
theorem dX10_init_89 : decode cX10_init 89 = .ok (.bipush 32, 2) := by decide +kernel
theorem dX10_init_91 : decode cX10_init 91 = .ok (.newarray .int, 2) := by decide +kernel
theorem dX10_init_93 : decode cX10_init 93 = .ok (.putfield 40, 3) := by decide +kernel
theorem dX10_init_96 : decode cX10_init 96 = .ok (.aload_n 0, 1) := by decide +kernel
theorem dX10_init_97 : decode cX10_init 97 = .ok (.sipush 512, 3) := by decide +kernel
theorem dX10_init_100 : decode cX10_init 100 = .ok (.newarray .int, 2) := by decide +kernel
theorem dX10_init_102 : decode cX10_init 102 = .ok (.putfield 43, 3) := by decide +kernel
theorem dX10_init_105 : decode cX10_init 105 = .ok (.aload_n 0, 1) := by decide +kernel
theorem dX10_init_106 : decode cX10_init 106 = .ok (.sipush 512, 3) := by decide +kernel
theorem dX10_init_109 : decode cX10_init 109 = .ok (.newarray .int, 2) := by decide +kernel
theorem dX10_init_111 : decode cX10_init 111 = .ok (.putfield 46, 3) := by decide +kernel
theorem dX10_init_114 : decode cX10_init 114 = .ok (.aload_n 0, 1) := by decide +kernel
theorem dX10_init_115 : decode cX10_init 115 = .ok (.sipush 512, 3) := by decide +kernel
theorem dX10_init_118 : decode cX10_init 118 = .ok (.newarray .boolean, 2) := by decide +kernel
theorem dX10_init_120 : decode cX10_init 120 = .ok (.putfield 49, 3) := by decide +kernel
theorem dX10_init_123 : decode cX10_init 123 = .ok (.aload_n 0, 1) := by decide +kernel
theorem dX10_init_124 : decode cX10_init 124 = .ok (.bipush 120, 2) := by decide +kernel
theorem dX10_init_126 : decode cX10_init 126 = .ok (.newarray .int, 2) := by decide +kernel
theorem dX10_init_128 : decode cX10_init 128 = .ok (.putfield 53, 3) := by decide +kernel
theorem dX10_init_131 : decode cX10_init 131 = .ok (.aload_n 0, 1) := by decide +kernel
theorem dX10_init_132 : decode cX10_init 132 = .ok (.bipush 96, 2) := by decide +kernel
theorem dX10_init_134 : decode cX10_init 134 = .ok (.newarray .int, 2) := by decide +kernel
theorem dX10_init_136 : decode cX10_init 136 = .ok (.putfield 56, 3) := by decide +kernel
theorem dX10_init_139 : decode cX10_init 139 = .ok (.aload_n 0, 1) := by decide +kernel
theorem dX10_init_140 : decode cX10_init 140 = .ok (.sipush 2048, 3) := by decide +kernel
theorem dX10_init_143 : decode cX10_init 143 = .ok (.newarray .int, 2) := by decide +kernel
theorem dX10_init_145 : decode cX10_init 145 = .ok (.putfield 59, 3) := by decide +kernel
theorem dX10_init_148 : decode cX10_init 148 = .ok (.aload_n 0, 1) := by decide +kernel
theorem dX10_init_149 : decode cX10_init 149 = .ok (.sipush 160, 3) := by decide +kernel
theorem dX10_init_152 : decode cX10_init 152 = .ok (.newarray .int, 2) := by decide +kernel
theorem dX10_init_154 : decode cX10_init 154 = .ok (.putfield 62, 3) := by decide +kernel
theorem dX10_init_157 : decode cX10_init 157 = .ok (.aload_n 0, 1) := by decide +kernel
theorem dX10_init_158 : decode cX10_init 158 = .ok (.sipush 2048, 3) := by decide +kernel
theorem dX10_init_161 : decode cX10_init 161 = .ok (.newarray .int, 2) := by decide +kernel
theorem dX10_init_163 : decode cX10_init 163 = .ok (.putfield 65, 3) := by decide +kernel
theorem dX10_init_166 : decode cX10_init 166 = .ok (.aload_n 0, 1) := by decide +kernel
theorem dX10_init_167 : decode cX10_init 167 = .ok (.sipush 2048, 3) := by decide +kernel
theorem dX10_init_170 : decode cX10_init 170 = .ok (.newarray .int, 2) := by decide +kernel
theorem dX10_init_172 : decode cX10_init 172 = .ok (.putfield 68, 3) := by decide +kernel
theorem dX10_init_175 : decode cX10_init 175 = .ok (.aload_n 0, 1) := by decide +kernel
theorem dX10_init_176 : decode cX10_init 176 = .ok (.sipush 128, 3) := by decide +kernel
theorem dX10_init_179 : decode cX10_init 179 = .ok (.newarray .int, 2) := by decide +kernel
theorem dX10_init_181 : decode cX10_init 181 = .ok (.putfield 71, 3) := by decide +kernel
theorem dX10_init_184 : decode cX10_init 184 = .ok (.aload_n 0, 1) := by decide +kernel
theorem dX10_init_185 : decode cX10_init 185 = .ok (.sipush 200, 3) := by decide +kernel
theorem dX10_init_188 : decode cX10_init 188 = .ok (.newarray .int, 2) := by decide +kernel
theorem dX10_init_190 : decode cX10_init 190 = .ok (.putfield 74, 3) := by decide +kernel
theorem dX10_init_193 : decode cX10_init 193 = .ok (.return_, 1) := by decide +kernel
theorem dX10_in_0 : decode cX10_in 0 = .ok (.iload_n 0, 1) := by decide +kernel
theorem dX10_in_1 : decode cX10_in 1 = .ok (.iload_n 1, 1) := by decide +kernel
theorem dX10_in_2 : decode cX10_in 2 = .ok (.if_icmp .lt 12, 3) := by decide +kernel
theorem dX10_in_5 : decode cX10_in 5 = .ok (.iload_n 0, 1) := by decide +kernel
theorem dX10_in_6 : decode cX10_in 6 = .ok (.iload_n 2, 1) := by decide +kernel
theorem dX10_in_7 : decode cX10_in 7 = .ok (.if_icmp .gt 7, 3) := by decide +kernel
theorem dX10_in_10 : decode cX10_in 10 = .ok (.iconst 1, 1) := by decide +kernel
theorem dX10_in_11 : decode cX10_in 11 = .ok (.goto 4, 3) := by decide +kernel
theorem dX10_in_14 : decode cX10_in 14 = .ok (.iconst 0, 1) := by decide +kernel
theorem dX10_in_15 : decode cX10_in 15 = .ok (.ireturn, 1) := by decide +kernel
theorem dX10_isSegment_0 : decode cX10_isSegment 0 = .ok (.iload_n 1, 1) := by decide +kernel
theorem dX10_isSegment_1 : decode cX10_isSegment 1 = .ok (.iconst 0, 1) := by decide +kernel
theorem dX10_isSegment_2 : decode cX10_isSegment 2 = .ok (.aload_n 0, 1) := by decide +kernel
theorem dX10_isSegment_3 : decode cX10_isSegment 3 = .ok (.getfield 77, 3) := by decide +kernel
theorem dX10_isSegment_6 : decode cX10_isSegment 6 = .ok (.iconst 1, 1) := by decide +kernel
theorem dX10_isSegment_7 : decode cX10_isSegment 7 = .ok (.isub, 1) := by decide +kernel
theorem dX10_isSegment_8 : decode cX10_isSegment 8 = .ok (.invokestatic 81, 3) := by decide +kernel
theorem dX10_isSegment_11 : decode cX10_isSegment 11 = .ok (.ireturn, 1) := by decide +kernel
theorem dX10_segment_0 : decode cX10_segment 0 = .ok (.aload_n 0, 1) := by decide +kernel
theorem dX10_segment_1 : decode cX10_segment 1 = .ok (.getfield 77, 3) := by decide +kernel
theorem dX10_segment_4 : decode cX10_segment 4 = .ok (.bipush 32, 2) := by decide +kernel
theorem dX10_segment_6 : decode cX10_segment 6 = .ok (.if_icmp .eq 14, 3) := by decide +kernel
theorem dX10_segment_9 : decode cX10_segment 9 = .ok (.iload_n 2, 1) := by decide +kernel
theorem dX10_segment_10 : decode cX10_segment 10 = .ok (.iconst 1, 1) := by decide +kernel
theorem dX10_segment_11 : decode cX10_segment 11 = .ok (.sipush 256, 3) := by decide +kernel
theorem dX10_segment_14 : decode cX10_segment 14 = .ok (.invokestatic 81, 3) := by decide +kernel
theorem dX10_segment_17 : decode cX10_segment 17 = .ok (.ifCond .ne 5, 3) := by decide +kernel
theorem dX10_segment_20 : decode cX10_segment 20 = .ok (.iconst (-1), 1) := by decide +kernel
theorem dX10_segment_21 : decode cX10_segment 21 = .ok (.ireturn, 1) := by decide +kernel
theorem dX10_segment_22 : decode cX10_segment 22 = .ok (.iconst 0, 1) := by decide +kernel
theorem dX10_segment_23 : decode cX10_segment 23 = .ok (.istore_n 3, 1) := by decide +kernel
theorem dX10_segment_24 : decode cX10_segment 24 = .ok (.iload_n 3, 1) := by decide +kernel
theorem dX10_segment_25 : decode cX10_segment 25 = .ok (.aload_n 0, 1) := by decide +kernel
theorem dX10_segment_26 : decode cX10_segment 26 = .ok (.getfield 77, 3) := by decide +kernel
theorem dX10_segment_29 : decode cX10_segment 29 = .ok (.if_icmp .ge 21, 3) := by decide +kernel
theorem dX10_segment_32 : decode cX10_segment 32 = .ok (.aload_n 0, 1) := by decide +kernel
theorem dX10_segment_33 : decode cX10_segment 33 = .ok (.getfield 7, 3) := by decide +kernel
theorem dX10_segment_36 : decode cX10_segment 36 = .ok (.iload_n 3, 1) := by decide +kernel
theorem dX10_segment_37 : decode cX10_segment 37 = .ok (.iaload, 1) := by decide +kernel
theorem dX10_segment_38 : decode cX10_segment 38 = .ok (.iload_n 1, 1) := by decide +kernel
theorem dX10_segment_39 : decode cX10_segment 39 = .ok (.if_icmp .ne 5, 3) := by decide +kernel
theorem dX10_segment_42 : decode cX10_segment 42 = .ok (.iconst (-1), 1) := by decide +kernel
theorem dX10_segment_43 : decode cX10_segment 43 = .ok (.ireturn, 1) := by decide +kernel
theorem dX10_segment_44 : decode cX10_segment 44 = .ok (.iinc 3 1, 3) := by decide +kernel
theorem dX10_segment_47 : decode cX10_segment 47 = .ok (.goto (-23), 3) := by decide +kernel
theorem dX10_segment_50 : decode cX10_segment 50 = .ok (.aload_n 0, 1) := by decide +kernel
theorem dX10_segment_51 : decode cX10_segment 51 = .ok (.getfield 7, 3) := by decide +kernel
theorem dX10_segment_54 : decode cX10_segment 54 = .ok (.aload_n 0, 1) := by decide +kernel
theorem dX10_segment_55 : decode cX10_segment 55 = .ok (.getfield 77, 3) := by decide +kernel
theorem dX10_segment_58 : decode cX10_segment 58 = .ok (.iload_n 1, 1) := by decide +kernel
theorem dX10_segment_59 : decode cX10_segment 59 = .ok (.iastore, 1) := by decide +kernel
theorem dX10_segment_60 : decode cX10_segment 60 = .ok (.aload_n 0, 1) := by decide +kernel
theorem dX10_segment_61 : decode cX10_segment 61 = .ok (.getfield 13, 3) := by decide +kernel
theorem dX10_segment_64 : decode cX10_segment 64 = .ok (.aload_n 0, 1) := by decide +kernel
theorem dX10_segment_65 : decode cX10_segment 65 = .ok (.getfield 77, 3) := by decide +kernel
theorem dX10_segment_68 : decode cX10_segment 68 = .ok (.iload_n 2, 1) := by decide +kernel
theorem dX10_segment_69 : decode cX10_segment 69 = .ok (.iastore, 1) := by decide +kernel
theorem dX10_segment_70 : decode cX10_segment 70 = .ok (.aload_n 0, 1) := by decide +kernel
theorem dX10_segment_71 : decode cX10_segment 71 = .ok (.dup, 1) := by decide +kernel
theorem dX10_segment_72 : decode cX10_segment 72 = .ok (.getfield 77, 3) := by decide +kernel
theorem dX10_segment_75 : decode cX10_segment 75 = .ok (.iconst 1, 1) := by decide +kernel
theorem dX10_segment_76 : decode cX10_segment 76 = .ok (.iadd, 1) := by decide +kernel
theorem dX10_segment_77 : decode cX10_segment 77 = .ok (.putfield 77, 3) := by decide +kernel
theorem dX10_segment_80 : decode cX10_segment 80 = .ok (.aload_n 0, 1) := by decide +kernel
theorem dX10_segment_81 : decode cX10_segment 81 = .ok (.getfield 77, 3) := by decide +kernel
theorem dX10_segment_84 : decode cX10_segment 84 = .ok (.iconst 1, 1) := by decide +kernel
theorem dX10_segment_85 : decode cX10_segment 85 = .ok (.isub, 1) := by decide +kernel
theorem dX10_segment_86 : decode cX10_segment 86 = .ok (.ireturn, 1) := by decide +kernel
theorem dX10_brackets_0 : decode cX10_brackets 0 = .ok (.aload_n 0, 1) := by decide +kernel
theorem dX10_brackets_1 : decode cX10_brackets 1 = .ok (.iload_n 1, 1) := by decide +kernel
theorem dX10_brackets_2 : decode cX10_brackets 2 = .ok (.invokevirtual 85, 3) := by decide +kernel
theorem dX10_brackets_5 : decode cX10_brackets 5 = .ok (.ifCond .eq 49, 3) := by decide +kernel
theorem dX10_brackets_8 : decode cX10_brackets 8 = .ok (.iload_n 2, 1) := by decide +kernel
theorem dX10_brackets_9 : decode cX10_brackets 9 = .ok (.iconst 0, 1) := by decide +kernel
theorem dX10_brackets_10 : decode cX10_brackets 10 = .ok (.bipush 7, 2) := by decide +kernel
theorem dX10_brackets_12 : decode cX10_brackets 12 = .ok (.invokestatic 81, 3) := by decide +kernel
theorem dX10_brackets_15 : decode cX10_brackets 15 = .ok (.ifCond .eq 39, 3) := by decide +kernel
theorem dX10_brackets_18 : decode cX10_brackets 18 = .ok (.iload_n 3, 1) := by decide +kernel
theorem dX10_brackets_19 : decode cX10_brackets 19 = .ok (.iload_n 2, 1) := by decide +kernel
theorem dX10_brackets_20 : decode cX10_brackets 20 = .ok (.bipush 7, 2) := by decide +kernel
theorem dX10_brackets_22 : decode cX10_brackets 22 = .ok (.invokestatic 81, 3) := by decide +kernel
theorem dX10_brackets_25 : decode cX10_brackets 25 = .ok (.ifCond .eq 29, 3) := by decide +kernel
theorem dX10_brackets_28 : decode cX10_brackets 28 = .ok (.iload 4, 2) := by decide +kernel
theorem dX10_brackets_30 : decode cX10_brackets 30 = .ok (.iload_n 3, 1) := by decide +kernel
theorem dX10_brackets_31 : decode cX10_brackets 31 = .ok (.bipush 7, 2) := by decide +kernel
theorem dX10_brackets_33 : decode cX10_brackets 33 = .ok (.invokestatic 81, 3) := by decide +kernel
theorem dX10_brackets_36 : decode cX10_brackets 36 = .ok (.ifCond .eq 18, 3) := by decide +kernel
theorem dX10_brackets_39 : decode cX10_brackets 39 = .ok (.iload 5, 2) := by decide +kernel
theorem dX10_brackets_41 : decode cX10_brackets 41 = .ok (.iconst 0, 1) := by decide +kernel
theorem dX10_brackets_42 : decode cX10_brackets 42 = .ok (.aload_n 0, 1) := by decide +kernel
theorem dX10_brackets_43 : decode cX10_brackets 43 = .ok (.getfield 13, 3) := by decide +kernel
theorem dX10_brackets_46 : decode cX10_brackets 46 = .ok (.iload_n 1, 1) := by decide +kernel
theorem dX10_brackets_47 : decode cX10_brackets 47 = .ok (.iaload, 1) := by decide +kernel
theorem dX10_brackets_48 : decode cX10_brackets 48 = .ok (.invokestatic 81, 3) := by decide +kernel
theorem dX10_brackets_51 : decode cX10_brackets 51 = .ok (.ifCond .ne 5, 3) := by decide +kernel
theorem dX10_brackets_54 : decode cX10_brackets 54 = .ok (.iconst 0, 1) := by decide +kernel
theorem dX10_brackets_55 : decode cX10_brackets 55 = .ok (.ireturn, 1) := by decide +kernel
theorem dX10_brackets_56 : decode cX10_brackets 56 = .ok (.aload_n 0, 1) := by decide +kernel
theorem dX10_brackets_57 : decode cX10_brackets 57 = .ok (.getfield 16, 3) := by decide +kernel
theorem dX10_brackets_60 : decode cX10_brackets 60 = .ok (.iload_n 1, 1) := by decide +kernel
theorem dX10_brackets_61 : decode cX10_brackets 61 = .ok (.iload_n 2, 1) := by decide +kernel
theorem dX10_brackets_62 : decode cX10_brackets 62 = .ok (.iastore, 1) := by decide +kernel
theorem dX10_brackets_63 : decode cX10_brackets 63 = .ok (.aload_n 0, 1) := by decide +kernel
theorem dX10_brackets_64 : decode cX10_brackets 64 = .ok (.getfield 19, 3) := by decide +kernel
theorem dX10_brackets_67 : decode cX10_brackets 67 = .ok (.iload_n 1, 1) := by decide +kernel
theorem dX10_brackets_68 : decode cX10_brackets 68 = .ok (.iload_n 3, 1) := by decide +kernel
theorem dX10_brackets_69 : decode cX10_brackets 69 = .ok (.iastore, 1) := by decide +kernel
theorem dX10_brackets_70 : decode cX10_brackets 70 = .ok (.aload_n 0, 1) := by decide +kernel
theorem dX10_brackets_71 : decode cX10_brackets 71 = .ok (.getfield 22, 3) := by decide +kernel
theorem dX10_brackets_74 : decode cX10_brackets 74 = .ok (.iload_n 1, 1) := by decide +kernel
theorem dX10_brackets_75 : decode cX10_brackets 75 = .ok (.iload 4, 2) := by decide +kernel
theorem dX10_brackets_77 : decode cX10_brackets 77 = .ok (.iastore, 1) := by decide +kernel
theorem dX10_brackets_78 : decode cX10_brackets 78 = .ok (.aload_n 0, 1) := by decide +kernel
theorem dX10_brackets_79 : decode cX10_brackets 79 = .ok (.getfield 25, 3) := by decide +kernel
theorem dX10_brackets_82 : decode cX10_brackets 82 = .ok (.iload_n 1, 1) := by decide +kernel
theorem dX10_brackets_83 : decode cX10_brackets 83 = .ok (.iload 5, 2) := by decide +kernel
theorem dX10_brackets_85 : decode cX10_brackets 85 = .ok (.iastore, 1) := by decide +kernel
theorem dX10_brackets_86 : decode cX10_brackets 86 = .ok (.iconst 1, 1) := by decide +kernel
theorem dX10_brackets_87 : decode cX10_brackets 87 = .ok (.ireturn, 1) := by decide +kernel
theorem dX10_flags_0 : decode cX10_flags 0 = .ok (.aload_n 0, 1) := by decide +kernel
theorem dX10_flags_1 : decode cX10_flags 1 = .ok (.iload_n 1, 1) := by decide +kernel
theorem dX10_flags_2 : decode cX10_flags 2 = .ok (.invokevirtual 85, 3) := by decide +kernel
theorem dX10_flags_5 : decode cX10_flags 5 = .ok (.ifCond .eq 22, 3) := by decide +kernel
theorem dX10_flags_8 : decode cX10_flags 8 = .ok (.iload_n 2, 1) := by decide +kernel
theorem dX10_flags_9 : decode cX10_flags 9 = .ok (.iconst 0, 1) := by decide +kernel
theorem dX10_flags_10 : decode cX10_flags 10 = .ok (.iconst 3, 1) := by decide +kernel
theorem dX10_flags_11 : decode cX10_flags 11 = .ok (.invokestatic 81, 3) := by decide +kernel
theorem dX10_flags_14 : decode cX10_flags 14 = .ok (.ifCond .eq 13, 3) := by decide +kernel
theorem dX10_flags_17 : decode cX10_flags 17 = .ok (.iload_n 3, 1) := by decide +kernel
theorem dX10_flags_18 : decode cX10_flags 18 = .ok (.iconst 0, 1) := by decide +kernel
theorem dX10_flags_19 : decode cX10_flags 19 = .ok (.bipush 7, 2) := by decide +kernel
theorem dX10_flags_21 : decode cX10_flags 21 = .ok (.invokestatic 81, 3) := by decide +kernel
theorem dX10_flags_24 : decode cX10_flags 24 = .ok (.ifCond .ne 5, 3) := by decide +kernel
theorem dX10_flags_27 : decode cX10_flags 27 = .ok (.iconst 0, 1) := by decide +kernel
theorem dX10_flags_28 : decode cX10_flags 28 = .ok (.ireturn, 1) := by decide +kernel
theorem dX10_flags_29 : decode cX10_flags 29 = .ok (.aload_n 0, 1) := by decide +kernel
theorem dX10_flags_30 : decode cX10_flags 30 = .ok (.getfield 28, 3) := by decide +kernel
theorem dX10_flags_33 : decode cX10_flags 33 = .ok (.iconst 4, 1) := by decide +kernel
theorem dX10_flags_34 : decode cX10_flags 34 = .ok (.iload_n 1, 1) := by decide +kernel
theorem dX10_flags_35 : decode cX10_flags 35 = .ok (.imul, 1) := by decide +kernel
theorem dX10_flags_36 : decode cX10_flags 36 = .ok (.iload_n 2, 1) := by decide +kernel
theorem dX10_flags_37 : decode cX10_flags 37 = .ok (.iadd, 1) := by decide +kernel
theorem dX10_flags_38 : decode cX10_flags 38 = .ok (.iload_n 3, 1) := by decide +kernel
theorem dX10_flags_39 : decode cX10_flags 39 = .ok (.iastore, 1) := by decide +kernel
theorem dX10_flags_40 : decode cX10_flags 40 = .ok (.iconst 1, 1) := by decide +kernel
theorem dX10_flags_41 : decode cX10_flags 41 = .ok (.ireturn, 1) := by decide +kernel
theorem dX10_word_0 : decode cX10_word 0 = .ok (.aload_n 0, 1) := by decide +kernel
theorem dX10_word_1 : decode cX10_word 1 = .ok (.iload_n 1, 1) := by decide +kernel
theorem dX10_word_2 : decode cX10_word 2 = .ok (.invokevirtual 85, 3) := by decide +kernel
theorem dX10_word_5 : decode cX10_word 5 = .ok (.ifCond .eq 19, 3) := by decide +kernel
theorem dX10_word_8 : decode cX10_word 8 = .ok (.iload_n 2, 1) := by decide +kernel
theorem dX10_word_9 : decode cX10_word 9 = .ok (.iconst 0, 1) := by decide +kernel
theorem dX10_word_10 : decode cX10_word 10 = .ok (.aload_n 0, 1) := by decide +kernel
theorem dX10_word_11 : decode cX10_word 11 = .ok (.getfield 13, 3) := by decide +kernel
theorem dX10_word_14 : decode cX10_word 14 = .ok (.iload_n 1, 1) := by decide +kernel
theorem dX10_word_15 : decode cX10_word 15 = .ok (.iaload, 1) := by decide +kernel
theorem dX10_word_16 : decode cX10_word 16 = .ok (.iconst 1, 1) := by decide +kernel
theorem dX10_word_17 : decode cX10_word 17 = .ok (.isub, 1) := by decide +kernel
theorem dX10_word_18 : decode cX10_word 18 = .ok (.invokestatic 81, 3) := by decide +kernel
theorem dX10_word_21 : decode cX10_word 21 = .ok (.ifCond .ne 5, 3) := by decide +kernel
theorem dX10_word_24 : decode cX10_word 24 = .ok (.iconst 0, 1) := by decide +kernel
theorem dX10_word_25 : decode cX10_word 25 = .ok (.ireturn, 1) := by decide +kernel
theorem dX10_word_26 : decode cX10_word 26 = .ok (.aload_n 0, 1) := by decide +kernel
theorem dX10_word_27 : decode cX10_word 27 = .ok (.getfield 31, 3) := by decide +kernel
theorem dX10_word_30 : decode cX10_word 30 = .ok (.sipush 256, 3) := by decide +kernel
theorem dX10_word_33 : decode cX10_word 33 = .ok (.iload_n 1, 1) := by decide +kernel
theorem dX10_word_34 : decode cX10_word 34 = .ok (.imul, 1) := by decide +kernel
theorem dX10_word_35 : decode cX10_word 35 = .ok (.iload_n 2, 1) := by decide +kernel
theorem dX10_word_36 : decode cX10_word 36 = .ok (.iadd, 1) := by decide +kernel
theorem dX10_word_37 : decode cX10_word 37 = .ok (.iload_n 3, 1) := by decide +kernel
theorem dX10_word_38 : decode cX10_word 38 = .ok (.iastore, 1) := by decide +kernel
theorem dX10_word_39 : decode cX10_word 39 = .ok (.iconst 1, 1) := by decide +kernel
theorem dX10_word_40 : decode cX10_word 40 = .ok (.ireturn, 1) := by decide +kernel
theorem dX10_define_0 : decode cX10_define 0 = .ok (.aload_n 0, 1) := by decide +kernel
theorem dX10_define_1 : decode cX10_define 1 = .ok (.iload_n 1, 1) := by decide +kernel
theorem dX10_define_2 : decode cX10_define 2 = .ok (.invokevirtual 85, 3) := by decide +kernel
theorem dX10_define_5 : decode cX10_define 5 = .ok (.ifCond .eq 39, 3) := by decide +kernel
theorem dX10_define_8 : decode cX10_define 8 = .ok (.iload_n 3, 1) := by decide +kernel
theorem dX10_define_9 : decode cX10_define 9 = .ok (.iconst 0, 1) := by decide +kernel
theorem dX10_define_10 : decode cX10_define 10 = .ok (.aload_n 0, 1) := by decide +kernel
theorem dX10_define_11 : decode cX10_define 11 = .ok (.getfield 13, 3) := by decide +kernel
theorem dX10_define_14 : decode cX10_define 14 = .ok (.iload_n 1, 1) := by decide +kernel
theorem dX10_define_15 : decode cX10_define 15 = .ok (.iaload, 1) := by decide +kernel
theorem dX10_define_16 : decode cX10_define 16 = .ok (.iconst 1, 1) := by decide +kernel
theorem dX10_define_17 : decode cX10_define 17 = .ok (.isub, 1) := by decide +kernel
theorem dX10_define_18 : decode cX10_define 18 = .ok (.invokestatic 81, 3) := by decide +kernel
theorem dX10_define_21 : decode cX10_define 21 = .ok (.ifCond .eq 23, 3) := by decide +kernel
theorem dX10_define_24 : decode cX10_define 24 = .ok (.aload_n 0, 1) := by decide +kernel
theorem dX10_define_25 : decode cX10_define 25 = .ok (.getfield 40, 3) := by decide +kernel
theorem dX10_define_28 : decode cX10_define 28 = .ok (.iload_n 1, 1) := by decide +kernel
theorem dX10_define_29 : decode cX10_define 29 = .ok (.iaload, 1) := by decide +kernel
theorem dX10_define_30 : decode cX10_define 30 = .ok (.bipush 16, 2) := by decide +kernel
theorem dX10_define_32 : decode cX10_define 32 = .ok (.if_icmp .eq 12, 3) := by decide +kernel
theorem dX10_define_35 : decode cX10_define 35 = .ok (.aload_n 0, 1) := by decide +kernel
theorem dX10_define_36 : decode cX10_define 36 = .ok (.iload_n 1, 1) := by decide +kernel
theorem dX10_define_37 : decode cX10_define 37 = .ok (.iload_n 2, 1) := by decide +kernel
theorem dX10_define_38 : decode cX10_define 38 = .ok (.invokevirtual 89, 3) := by decide +kernel
theorem dX10_define_41 : decode cX10_define 41 = .ok (.ifCond .lt 5, 3) := by decide +kernel
theorem dX10_define_44 : decode cX10_define 44 = .ok (.iconst 0, 1) := by decide +kernel
theorem dX10_define_45 : decode cX10_define 45 = .ok (.ireturn, 1) := by decide +kernel
theorem dX10_define_46 : decode cX10_define 46 = .ok (.aload_n 0, 1) := by decide +kernel
theorem dX10_define_47 : decode cX10_define 47 = .ok (.getfield 34, 3) := by decide +kernel
theorem dX10_define_50 : decode cX10_define 50 = .ok (.bipush 16, 2) := by decide +kernel
theorem dX10_define_52 : decode cX10_define 52 = .ok (.iload_n 1, 1) := by decide +kernel
theorem dX10_define_53 : decode cX10_define 53 = .ok (.imul, 1) := by decide +kernel
theorem dX10_define_54 : decode cX10_define 54 = .ok (.aload_n 0, 1) := by decide +kernel
theorem dX10_define_55 : decode cX10_define 55 = .ok (.getfield 40, 3) := by decide +kernel
theorem dX10_define_58 : decode cX10_define 58 = .ok (.iload_n 1, 1) := by decide +kernel
theorem dX10_define_59 : decode cX10_define 59 = .ok (.iaload, 1) := by decide +kernel
theorem dX10_define_60 : decode cX10_define 60 = .ok (.iadd, 1) := by decide +kernel
theorem dX10_define_61 : decode cX10_define 61 = .ok (.iload_n 2, 1) := by decide +kernel
theorem dX10_define_62 : decode cX10_define 62 = .ok (.iastore, 1) := by decide +kernel
theorem dX10_define_63 : decode cX10_define 63 = .ok (.aload_n 0, 1) := by decide +kernel
theorem dX10_define_64 : decode cX10_define 64 = .ok (.getfield 37, 3) := by decide +kernel
theorem dX10_define_67 : decode cX10_define 67 = .ok (.bipush 16, 2) := by decide +kernel
theorem dX10_define_69 : decode cX10_define 69 = .ok (.iload_n 1, 1) := by decide +kernel
theorem dX10_define_70 : decode cX10_define 70 = .ok (.imul, 1) := by decide +kernel
theorem dX10_define_71 : decode cX10_define 71 = .ok (.aload_n 0, 1) := by decide +kernel
theorem dX10_define_72 : decode cX10_define 72 = .ok (.getfield 40, 3) := by decide +kernel
theorem dX10_define_75 : decode cX10_define 75 = .ok (.iload_n 1, 1) := by decide +kernel
theorem dX10_define_76 : decode cX10_define 76 = .ok (.iaload, 1) := by decide +kernel
theorem dX10_define_77 : decode cX10_define 77 = .ok (.iadd, 1) := by decide +kernel
theorem dX10_define_78 : decode cX10_define 78 = .ok (.iload_n 3, 1) := by decide +kernel
theorem dX10_define_79 : decode cX10_define 79 = .ok (.iastore, 1) := by decide +kernel
theorem dX10_define_80 : decode cX10_define 80 = .ok (.aload_n 0, 1) := by decide +kernel
theorem dX10_define_81 : decode cX10_define 81 = .ok (.getfield 40, 3) := by decide +kernel
theorem dX10_define_84 : decode cX10_define 84 = .ok (.iload_n 1, 1) := by decide +kernel
theorem dX10_define_85 : decode cX10_define 85 = .ok (.dup2, 1) := by decide +kernel
theorem dX10_define_86 : decode cX10_define 86 = .ok (.iaload, 1) := by decide +kernel
theorem dX10_define_87 : decode cX10_define 87 = .ok (.iconst 1, 1) := by decide +kernel
theorem dX10_define_88 : decode cX10_define 88 = .ok (.iadd, 1) := by decide +kernel
theorem dX10_define_89 : decode cX10_define 89 = .ok (.iastore, 1) := by decide +kernel
theorem dX10_define_90 : decode cX10_define 90 = .ok (.iconst 1, 1) := by decide +kernel
theorem dX10_define_91 : decode cX10_define 91 = .ok (.ireturn, 1) := by decide +kernel
theorem dX10_wordOf_0 : decode cX10_wordOf 0 = .ok (.iconst 0, 1) := by decide +kernel
theorem dX10_wordOf_1 : decode cX10_wordOf 1 = .ok (.istore_n 3, 1) := by decide +kernel
theorem dX10_wordOf_2 : decode cX10_wordOf 2 = .ok (.iload_n 3, 1) := by decide +kernel
theorem dX10_wordOf_3 : decode cX10_wordOf 3 = .ok (.aload_n 0, 1) := by decide +kernel
theorem dX10_wordOf_4 : decode cX10_wordOf 4 = .ok (.getfield 40, 3) := by decide +kernel
theorem dX10_wordOf_7 : decode cX10_wordOf 7 = .ok (.iload_n 1, 1) := by decide +kernel
theorem dX10_wordOf_8 : decode cX10_wordOf 8 = .ok (.iaload, 1) := by decide +kernel
theorem dX10_wordOf_9 : decode cX10_wordOf 9 = .ok (.if_icmp .ge 36, 3) := by decide +kernel
theorem dX10_wordOf_12 : decode cX10_wordOf 12 = .ok (.aload_n 0, 1) := by decide +kernel
theorem dX10_wordOf_13 : decode cX10_wordOf 13 = .ok (.getfield 34, 3) := by decide +kernel
theorem dX10_wordOf_16 : decode cX10_wordOf 16 = .ok (.bipush 16, 2) := by decide +kernel
theorem dX10_wordOf_18 : decode cX10_wordOf 18 = .ok (.iload_n 1, 1) := by decide +kernel
theorem dX10_wordOf_19 : decode cX10_wordOf 19 = .ok (.imul, 1) := by decide +kernel
theorem dX10_wordOf_20 : decode cX10_wordOf 20 = .ok (.iload_n 3, 1) := by decide +kernel
theorem dX10_wordOf_21 : decode cX10_wordOf 21 = .ok (.iadd, 1) := by decide +kernel
theorem dX10_wordOf_22 : decode cX10_wordOf 22 = .ok (.iaload, 1) := by decide +kernel
theorem dX10_wordOf_23 : decode cX10_wordOf 23 = .ok (.iload_n 2, 1) := by decide +kernel
theorem dX10_wordOf_24 : decode cX10_wordOf 24 = .ok (.if_icmp .ne 15, 3) := by decide +kernel
theorem dX10_wordOf_27 : decode cX10_wordOf 27 = .ok (.aload_n 0, 1) := by decide +kernel
theorem dX10_wordOf_28 : decode cX10_wordOf 28 = .ok (.getfield 37, 3) := by decide +kernel
theorem dX10_wordOf_31 : decode cX10_wordOf 31 = .ok (.bipush 16, 2) := by decide +kernel
theorem dX10_wordOf_33 : decode cX10_wordOf 33 = .ok (.iload_n 1, 1) := by decide +kernel
theorem dX10_wordOf_34 : decode cX10_wordOf 34 = .ok (.imul, 1) := by decide +kernel
theorem dX10_wordOf_35 : decode cX10_wordOf 35 = .ok (.iload_n 3, 1) := by decide +kernel
theorem dX10_wordOf_36 : decode cX10_wordOf 36 = .ok (.iadd, 1) := by decide +kernel
theorem dX10_wordOf_37 : decode cX10_wordOf 37 = .ok (.iaload, 1) := by decide +kernel
theorem dX10_wordOf_38 : decode cX10_wordOf 38 = .ok (.ireturn, 1) := by decide +kernel
theorem dX10_wordOf_39 : decode cX10_wordOf 39 = .ok (.iinc 3 1, 3) := by decide +kernel
theorem dX10_wordOf_42 : decode cX10_wordOf 42 = .ok (.goto (-40), 3) := by decide +kernel
theorem dX10_wordOf_45 : decode cX10_wordOf 45 = .ok (.iconst (-1), 1) := by decide +kernel
theorem dX10_wordOf_46 : decode cX10_wordOf 46 = .ok (.ireturn, 1) := by decide +kernel
theorem dX10_link_0 : decode cX10_link 0 = .ok (.aload_n 0, 1) := by decide +kernel
theorem dX10_link_1 : decode cX10_link 1 = .ok (.iload_n 1, 1) := by decide +kernel
theorem dX10_link_2 : decode cX10_link 2 = .ok (.invokevirtual 85, 3) := by decide +kernel
theorem dX10_link_5 : decode cX10_link 5 = .ok (.ifCond .eq 13, 3) := by decide +kernel
theorem dX10_link_8 : decode cX10_link 8 = .ok (.iload_n 2, 1) := by decide +kernel
theorem dX10_link_9 : decode cX10_link 9 = .ok (.iconst 0, 1) := by decide +kernel
theorem dX10_link_10 : decode cX10_link 10 = .ok (.bipush 15, 2) := by decide +kernel
theorem dX10_link_12 : decode cX10_link 12 = .ok (.invokestatic 81, 3) := by decide +kernel
theorem dX10_link_15 : decode cX10_link 15 = .ok (.ifCond .ne 5, 3) := by decide +kernel
theorem dX10_link_18 : decode cX10_link 18 = .ok (.iconst 0, 1) := by decide +kernel
theorem dX10_link_19 : decode cX10_link 19 = .ok (.ireturn, 1) := by decide +kernel
theorem dX10_link_20 : decode cX10_link 20 = .ok (.aload_n 0, 1) := by decide +kernel
theorem dX10_link_21 : decode cX10_link 21 = .ok (.getfield 43, 3) := by decide +kernel
theorem dX10_link_24 : decode cX10_link 24 = .ok (.bipush 16, 2) := by decide +kernel
theorem dX10_link_26 : decode cX10_link 26 = .ok (.iload_n 1, 1) := by decide +kernel
theorem dX10_link_27 : decode cX10_link 27 = .ok (.imul, 1) := by decide +kernel
theorem dX10_link_28 : decode cX10_link 28 = .ok (.iload_n 2, 1) := by decide +kernel
theorem dX10_link_29 : decode cX10_link 29 = .ok (.iadd, 1) := by decide +kernel
theorem dX10_link_30 : decode cX10_link 30 = .ok (.iload_n 3, 1) := by decide +kernel
theorem dX10_link_31 : decode cX10_link 31 = .ok (.iastore, 1) := by decide +kernel
theorem dX10_link_32 : decode cX10_link 32 = .ok (.aload_n 0, 1) := by decide +kernel
theorem dX10_link_33 : decode cX10_link 33 = .ok (.getfield 46, 3) := by decide +kernel
theorem dX10_link_36 : decode cX10_link 36 = .ok (.bipush 16, 2) := by decide +kernel
theorem dX10_link_38 : decode cX10_link 38 = .ok (.iload_n 1, 1) := by decide +kernel
theorem dX10_link_39 : decode cX10_link 39 = .ok (.imul, 1) := by decide +kernel
theorem dX10_link_40 : decode cX10_link 40 = .ok (.iload_n 2, 1) := by decide +kernel
theorem dX10_link_41 : decode cX10_link 41 = .ok (.iadd, 1) := by decide +kernel
theorem dX10_link_42 : decode cX10_link 42 = .ok (.iload 4, 2) := by decide +kernel
theorem dX10_link_44 : decode cX10_link 44 = .ok (.iastore, 1) := by decide +kernel
theorem dX10_link_45 : decode cX10_link 45 = .ok (.aload_n 0, 1) := by decide +kernel
theorem dX10_link_46 : decode cX10_link 46 = .ok (.getfield 49, 3) := by decide +kernel
theorem dX10_link_49 : decode cX10_link 49 = .ok (.bipush 16, 2) := by decide +kernel
theorem dX10_link_51 : decode cX10_link 51 = .ok (.iload_n 1, 1) := by decide +kernel
theorem dX10_link_52 : decode cX10_link 52 = .ok (.imul, 1) := by decide +kernel
theorem dX10_link_53 : decode cX10_link 53 = .ok (.iload_n 2, 1) := by decide +kernel
theorem dX10_link_54 : decode cX10_link 54 = .ok (.iadd, 1) := by decide +kernel
theorem dX10_link_55 : decode cX10_link 55 = .ok (.iconst 1, 1) := by decide +kernel
theorem dX10_link_56 : decode cX10_link 56 = .ok (.bastore, 1) := by decide +kernel
theorem dX10_link_57 : decode cX10_link 57 = .ok (.iconst 1, 1) := by decide +kernel
theorem dX10_link_58 : decode cX10_link 58 = .ok (.ireturn, 1) := by decide +kernel
theorem dX10_isThere_0 : decode cX10_isThere 0 = .ok (.iload_n 1, 1) := by decide +kernel
theorem dX10_isThere_1 : decode cX10_isThere 1 = .ok (.iconst 0, 1) := by decide +kernel
theorem dX10_isThere_2 : decode cX10_isThere 2 = .ok (.iconst 3, 1) := by decide +kernel
theorem dX10_isThere_3 : decode cX10_isThere 3 = .ok (.invokestatic 81, 3) := by decide +kernel
theorem dX10_isThere_6 : decode cX10_isThere 6 = .ok (.ifCond .eq 19, 3) := by decide +kernel
theorem dX10_isThere_9 : decode cX10_isThere 9 = .ok (.aload_n 0, 1) := by decide +kernel
theorem dX10_isThere_10 : decode cX10_isThere 10 = .ok (.getfield 53, 3) := by decide +kernel
theorem dX10_isThere_13 : decode cX10_isThere 13 = .ok (.bipush 30, 2) := by decide +kernel
theorem dX10_isThere_15 : decode cX10_isThere 15 = .ok (.iload_n 1, 1) := by decide +kernel
theorem dX10_isThere_16 : decode cX10_isThere 16 = .ok (.imul, 1) := by decide +kernel
theorem dX10_isThere_17 : decode cX10_isThere 17 = .ok (.iaload, 1) := by decide +kernel
theorem dX10_isThere_18 : decode cX10_isThere 18 = .ok (.ifCond .le 7, 3) := by decide +kernel
theorem dX10_isThere_21 : decode cX10_isThere 21 = .ok (.iconst 1, 1) := by decide +kernel
theorem dX10_isThere_22 : decode cX10_isThere 22 = .ok (.goto 4, 3) := by decide +kernel
theorem dX10_isThere_25 : decode cX10_isThere 25 = .ok (.iconst 0, 1) := by decide +kernel
theorem dX10_isThere_26 : decode cX10_isThere 26 = .ok (.ireturn, 1) := by decide +kernel
theorem dX10_start_0 : decode cX10_start 0 = .ok (.iload_n 1, 1) := by decide +kernel
theorem dX10_start_1 : decode cX10_start 1 = .ok (.iconst 0, 1) := by decide +kernel
theorem dX10_start_2 : decode cX10_start 2 = .ok (.iconst 3, 1) := by decide +kernel
theorem dX10_start_3 : decode cX10_start 3 = .ok (.invokestatic 81, 3) := by decide +kernel
theorem dX10_start_6 : decode cX10_start 6 = .ok (.ifCond .eq 32, 3) := by decide +kernel
theorem dX10_start_9 : decode cX10_start 9 = .ok (.aload_n 0, 1) := by decide +kernel
theorem dX10_start_10 : decode cX10_start 10 = .ok (.iload_n 2, 1) := by decide +kernel
theorem dX10_start_11 : decode cX10_start 11 = .ok (.invokevirtual 85, 3) := by decide +kernel
theorem dX10_start_14 : decode cX10_start 14 = .ok (.ifCond .eq 24, 3) := by decide +kernel
theorem dX10_start_17 : decode cX10_start 17 = .ok (.iload 4, 2) := by decide +kernel
theorem dX10_start_19 : decode cX10_start 19 = .ok (.iconst 0, 1) := by decide +kernel
theorem dX10_start_20 : decode cX10_start 20 = .ok (.bipush 7, 2) := by decide +kernel
theorem dX10_start_22 : decode cX10_start 22 = .ok (.invokestatic 81, 3) := by decide +kernel
theorem dX10_start_25 : decode cX10_start 25 = .ok (.ifCond .eq 13, 3) := by decide +kernel
theorem dX10_start_28 : decode cX10_start 28 = .ok (.iload_n 3, 1) := by decide +kernel
theorem dX10_start_29 : decode cX10_start 29 = .ok (.iconst 0, 1) := by decide +kernel
theorem dX10_start_30 : decode cX10_start 30 = .ok (.ldc 93, 2) := by decide +kernel
theorem dX10_start_32 : decode cX10_start 32 = .ok (.invokestatic 81, 3) := by decide +kernel
theorem dX10_start_35 : decode cX10_start 35 = .ok (.ifCond .ne 5, 3) := by decide +kernel
theorem dX10_start_38 : decode cX10_start 38 = .ok (.iconst 0, 1) := by decide +kernel
theorem dX10_start_39 : decode cX10_start 39 = .ok (.ireturn, 1) := by decide +kernel
theorem dX10_start_40 : decode cX10_start 40 = .ok (.bipush 30, 2) := by decide +kernel
theorem dX10_start_42 : decode cX10_start 42 = .ok (.iload_n 1, 1) := by decide +kernel
theorem dX10_start_43 : decode cX10_start 43 = .ok (.imul, 1) := by decide +kernel
theorem dX10_start_44 : decode cX10_start 44 = .ok (.istore 5, 2) := by decide +kernel
theorem dX10_start_46 : decode cX10_start 46 = .ok (.iconst 0, 1) := by decide +kernel
theorem dX10_start_47 : decode cX10_start 47 = .ok (.istore 6, 2) := by decide +kernel
theorem dX10_start_49 : decode cX10_start 49 = .ok (.iload 6, 2) := by decide +kernel
theorem dX10_start_51 : decode cX10_start 51 = .ok (.bipush 30, 2) := by decide +kernel
theorem dX10_start_53 : decode cX10_start 53 = .ok (.if_icmp .ge 20, 3) := by decide +kernel
theorem dX10_start_56 : decode cX10_start 56 = .ok (.aload_n 0, 1) := by decide +kernel
theorem dX10_start_57 : decode cX10_start 57 = .ok (.getfield 53, 3) := by decide +kernel
theorem dX10_start_60 : decode cX10_start 60 = .ok (.iload 5, 2) := by decide +kernel
theorem dX10_start_62 : decode cX10_start 62 = .ok (.iload 6, 2) := by decide +kernel
theorem dX10_start_64 : decode cX10_start 64 = .ok (.iadd, 1) := by decide +kernel
theorem dX10_start_65 : decode cX10_start 65 = .ok (.iconst 0, 1) := by decide +kernel
theorem dX10_start_66 : decode cX10_start 66 = .ok (.iastore, 1) := by decide +kernel
theorem dX10_start_67 : decode cX10_start 67 = .ok (.iinc 6 1, 3) := by decide +kernel
theorem dX10_start_70 : decode cX10_start 70 = .ok (.goto (-21), 3) := by decide +kernel
theorem dX10_start_73 : decode cX10_start 73 = .ok (.aload_n 0, 1) := by decide +kernel
theorem dX10_start_74 : decode cX10_start 74 = .ok (.getfield 53, 3) := by decide +kernel
theorem dX10_start_77 : decode cX10_start 77 = .ok (.iload 5, 2) := by decide +kernel
theorem dX10_start_79 : decode cX10_start 79 = .ok (.iconst 1, 1) := by decide +kernel
theorem dX10_start_80 : decode cX10_start 80 = .ok (.iastore, 1) := by decide +kernel
theorem dX10_start_81 : decode cX10_start 81 = .ok (.aload_n 0, 1) := by decide +kernel
theorem dX10_start_82 : decode cX10_start 82 = .ok (.getfield 53, 3) := by decide +kernel
theorem dX10_start_85 : decode cX10_start 85 = .ok (.iload 5, 2) := by decide +kernel
theorem dX10_start_87 : decode cX10_start 87 = .ok (.iconst 1, 1) := by decide +kernel
theorem dX10_start_88 : decode cX10_start 88 = .ok (.iadd, 1) := by decide +kernel
theorem dX10_start_89 : decode cX10_start 89 = .ok (.iload 4, 2) := by decide +kernel
theorem dX10_start_91 : decode cX10_start 91 = .ok (.iastore, 1) := by decide +kernel
theorem dX10_start_92 : decode cX10_start 92 = .ok (.aload_n 0, 1) := by decide +kernel
theorem dX10_start_93 : decode cX10_start 93 = .ok (.getfield 53, 3) := by decide +kernel
theorem dX10_start_96 : decode cX10_start 96 = .ok (.iload 5, 2) := by decide +kernel
theorem dX10_start_98 : decode cX10_start 98 = .ok (.iconst 2, 1) := by decide +kernel
theorem dX10_start_99 : decode cX10_start 99 = .ok (.iadd, 1) := by decide +kernel
theorem dX10_start_100 : decode cX10_start 100 = .ok (.bipush 8, 2) := by decide +kernel
theorem dX10_start_102 : decode cX10_start 102 = .ok (.iastore, 1) := by decide +kernel
theorem dX10_start_103 : decode cX10_start 103 = .ok (.aload_n 0, 1) := by decide +kernel
theorem dX10_start_104 : decode cX10_start 104 = .ok (.getfield 53, 3) := by decide +kernel
theorem dX10_start_107 : decode cX10_start 107 = .ok (.iload 5, 2) := by decide +kernel
theorem dX10_start_109 : decode cX10_start 109 = .ok (.iconst 3, 1) := by decide +kernel
theorem dX10_start_110 : decode cX10_start 110 = .ok (.iadd, 1) := by decide +kernel
theorem dX10_start_111 : decode cX10_start 111 = .ok (.iload_n 3, 1) := by decide +kernel
theorem dX10_start_112 : decode cX10_start 112 = .ok (.iastore, 1) := by decide +kernel
theorem dX10_start_113 : decode cX10_start 113 = .ok (.aload_n 0, 1) := by decide +kernel
theorem dX10_start_114 : decode cX10_start 114 = .ok (.getfield 53, 3) := by decide +kernel
theorem dX10_start_117 : decode cX10_start 117 = .ok (.iload 5, 2) := by decide +kernel
theorem dX10_start_119 : decode cX10_start 119 = .ok (.bipush 16, 2) := by decide +kernel
theorem dX10_start_121 : decode cX10_start 121 = .ok (.iadd, 1) := by decide +kernel
theorem dX10_start_122 : decode cX10_start 122 = .ok (.bipush 9, 2) := by decide +kernel
theorem dX10_start_124 : decode cX10_start 124 = .ok (.iastore, 1) := by decide +kernel
theorem dX10_start_125 : decode cX10_start 125 = .ok (.aload_n 0, 1) := by decide +kernel
theorem dX10_start_126 : decode cX10_start 126 = .ok (.getfield 53, 3) := by decide +kernel
theorem dX10_start_129 : decode cX10_start 129 = .ok (.iload 5, 2) := by decide +kernel
theorem dX10_start_131 : decode cX10_start 131 = .ok (.bipush 19, 2) := by decide +kernel
theorem dX10_start_133 : decode cX10_start 133 = .ok (.iadd, 1) := by decide +kernel
theorem dX10_start_134 : decode cX10_start 134 = .ok (.iconst (-1), 1) := by decide +kernel
theorem dX10_start_135 : decode cX10_start 135 = .ok (.iastore, 1) := by decide +kernel
theorem dX10_start_136 : decode cX10_start 136 = .ok (.iconst 0, 1) := by decide +kernel
theorem dX10_start_137 : decode cX10_start 137 = .ok (.istore 6, 2) := by decide +kernel
theorem dX10_start_139 : decode cX10_start 139 = .ok (.iload 6, 2) := by decide +kernel
theorem dX10_start_141 : decode cX10_start 141 = .ok (.bipush 24, 2) := by decide +kernel
theorem dX10_start_143 : decode cX10_start 143 = .ok (.if_icmp .ge 34, 3) := by decide +kernel
theorem dX10_start_146 : decode cX10_start 146 = .ok (.aload_n 0, 1) := by decide +kernel
theorem dX10_start_147 : decode cX10_start 147 = .ok (.getfield 56, 3) := by decide +kernel
theorem dX10_start_150 : decode cX10_start 150 = .ok (.bipush 24, 2) := by decide +kernel
theorem dX10_start_152 : decode cX10_start 152 = .ok (.iload_n 1, 1) := by decide +kernel
theorem dX10_start_153 : decode cX10_start 153 = .ok (.imul, 1) := by decide +kernel
theorem dX10_start_154 : decode cX10_start 154 = .ok (.iload 6, 2) := by decide +kernel
theorem dX10_start_156 : decode cX10_start 156 = .ok (.iadd, 1) := by decide +kernel
theorem dX10_start_157 : decode cX10_start 157 = .ok (.iload 6, 2) := by decide +kernel
theorem dX10_start_159 : decode cX10_start 159 = .ok (.iconst 3, 1) := by decide +kernel
theorem dX10_start_160 : decode cX10_start 160 = .ok (.irem, 1) := by decide +kernel
theorem dX10_start_161 : decode cX10_start 161 = .ok (.ifCond .ne 8, 3) := by decide +kernel
theorem dX10_start_164 : decode cX10_start 164 = .ok (.iload 4, 2) := by decide +kernel
theorem dX10_start_166 : decode cX10_start 166 = .ok (.goto 4, 3) := by decide +kernel
theorem dX10_start_169 : decode cX10_start 169 = .ok (.iconst 0, 1) := by decide +kernel
theorem dX10_start_170 : decode cX10_start 170 = .ok (.iastore, 1) := by decide +kernel
theorem dX10_start_171 : decode cX10_start 171 = .ok (.iinc 6 1, 3) := by decide +kernel
theorem dX10_start_174 : decode cX10_start 174 = .ok (.goto (-35), 3) := by decide +kernel
theorem dX10_start_177 : decode cX10_start 177 = .ok (.iconst 0, 1) := by decide +kernel
theorem dX10_start_178 : decode cX10_start 178 = .ok (.istore 6, 2) := by decide +kernel
theorem dX10_start_180 : decode cX10_start 180 = .ok (.iload 6, 2) := by decide +kernel
theorem dX10_start_182 : decode cX10_start 182 = .ok (.sipush 512, 3) := by decide +kernel
theorem dX10_start_185 : decode cX10_start 185 = .ok (.if_icmp .ge 37, 3) := by decide +kernel
theorem dX10_start_188 : decode cX10_start 188 = .ok (.aload_n 0, 1) := by decide +kernel
theorem dX10_start_189 : decode cX10_start 189 = .ok (.getfield 59, 3) := by decide +kernel
theorem dX10_start_192 : decode cX10_start 192 = .ok (.sipush 512, 3) := by decide +kernel
theorem dX10_start_195 : decode cX10_start 195 = .ok (.iload_n 1, 1) := by decide +kernel
theorem dX10_start_196 : decode cX10_start 196 = .ok (.imul, 1) := by decide +kernel
theorem dX10_start_197 : decode cX10_start 197 = .ok (.iload 6, 2) := by decide +kernel
theorem dX10_start_199 : decode cX10_start 199 = .ok (.iadd, 1) := by decide +kernel
theorem dX10_start_200 : decode cX10_start 200 = .ok (.iconst 0, 1) := by decide +kernel
theorem dX10_start_201 : decode cX10_start 201 = .ok (.iastore, 1) := by decide +kernel
theorem dX10_start_202 : decode cX10_start 202 = .ok (.aload_n 0, 1) := by decide +kernel
theorem dX10_start_203 : decode cX10_start 203 = .ok (.getfield 65, 3) := by decide +kernel
theorem dX10_start_206 : decode cX10_start 206 = .ok (.sipush 512, 3) := by decide +kernel
theorem dX10_start_209 : decode cX10_start 209 = .ok (.iload_n 1, 1) := by decide +kernel
theorem dX10_start_210 : decode cX10_start 210 = .ok (.imul, 1) := by decide +kernel
theorem dX10_start_211 : decode cX10_start 211 = .ok (.iload 6, 2) := by decide +kernel
theorem dX10_start_213 : decode cX10_start 213 = .ok (.iadd, 1) := by decide +kernel
theorem dX10_start_214 : decode cX10_start 214 = .ok (.iconst 0, 1) := by decide +kernel
theorem dX10_start_215 : decode cX10_start 215 = .ok (.iastore, 1) := by decide +kernel
theorem dX10_start_216 : decode cX10_start 216 = .ok (.iinc 6 1, 3) := by decide +kernel
theorem dX10_start_219 : decode cX10_start 219 = .ok (.goto (-39), 3) := by decide +kernel
theorem dX10_start_222 : decode cX10_start 222 = .ok (.aload_n 0, 1) := by decide +kernel
theorem dX10_start_223 : decode cX10_start 223 = .ok (.getfield 62, 3) := by decide +kernel
theorem dX10_start_226 : decode cX10_start 226 = .ok (.bipush 40, 2) := by decide +kernel
theorem dX10_start_228 : decode cX10_start 228 = .ok (.iload_n 1, 1) := by decide +kernel
theorem dX10_start_229 : decode cX10_start 229 = .ok (.imul, 1) := by decide +kernel
theorem dX10_start_230 : decode cX10_start 230 = .ok (.bipush 8, 2) := by decide +kernel
theorem dX10_start_232 : decode cX10_start 232 = .ok (.iadd, 1) := by decide +kernel
theorem dX10_start_233 : decode cX10_start 233 = .ok (.iload_n 2, 1) := by decide +kernel
theorem dX10_start_234 : decode cX10_start 234 = .ok (.iastore, 1) := by decide +kernel
theorem dX10_start_235 : decode cX10_start 235 = .ok (.iconst 1, 1) := by decide +kernel
theorem dX10_start_236 : decode cX10_start 236 = .ok (.ireturn, 1) := by decide +kernel
theorem dX10_knows_0 : decode cX10_knows 0 = .ok (.bipush 8, 2) := by decide +kernel
theorem dX10_knows_2 : decode cX10_knows 2 = .ok (.istore_n 3, 1) := by decide +kernel
theorem dX10_knows_3 : decode cX10_knows 3 = .ok (.iload_n 3, 1) := by decide +kernel
theorem dX10_knows_4 : decode cX10_knows 4 = .ok (.aload_n 0, 1) := by decide +kernel
theorem dX10_knows_5 : decode cX10_knows 5 = .ok (.getfield 53, 3) := by decide +kernel
theorem dX10_knows_8 : decode cX10_knows 8 = .ok (.bipush 30, 2) := by decide +kernel
theorem dX10_knows_10 : decode cX10_knows 10 = .ok (.iload_n 1, 1) := by decide +kernel
theorem dX10_knows_11 : decode cX10_knows 11 = .ok (.imul, 1) := by decide +kernel
theorem dX10_knows_12 : decode cX10_knows 12 = .ok (.bipush 16, 2) := by decide +kernel
theorem dX10_knows_14 : decode cX10_knows 14 = .ok (.iadd, 1) := by decide +kernel
theorem dX10_knows_15 : decode cX10_knows 15 = .ok (.iaload, 1) := by decide +kernel
theorem dX10_knows_16 : decode cX10_knows 16 = .ok (.if_icmp .ge 26, 3) := by decide +kernel
theorem dX10_knows_19 : decode cX10_knows 19 = .ok (.aload_n 0, 1) := by decide +kernel
theorem dX10_knows_20 : decode cX10_knows 20 = .ok (.getfield 62, 3) := by decide +kernel
theorem dX10_knows_23 : decode cX10_knows 23 = .ok (.bipush 40, 2) := by decide +kernel
theorem dX10_knows_25 : decode cX10_knows 25 = .ok (.iload_n 1, 1) := by decide +kernel
theorem dX10_knows_26 : decode cX10_knows 26 = .ok (.imul, 1) := by decide +kernel
theorem dX10_knows_27 : decode cX10_knows 27 = .ok (.iload_n 3, 1) := by decide +kernel
theorem dX10_knows_28 : decode cX10_knows 28 = .ok (.iadd, 1) := by decide +kernel
theorem dX10_knows_29 : decode cX10_knows 29 = .ok (.iaload, 1) := by decide +kernel
theorem dX10_knows_30 : decode cX10_knows 30 = .ok (.iload_n 2, 1) := by decide +kernel
theorem dX10_knows_31 : decode cX10_knows 31 = .ok (.if_icmp .ne 5, 3) := by decide +kernel
theorem dX10_knows_34 : decode cX10_knows 34 = .ok (.iload_n 3, 1) := by decide +kernel
theorem dX10_knows_35 : decode cX10_knows 35 = .ok (.ireturn, 1) := by decide +kernel
theorem dX10_knows_36 : decode cX10_knows 36 = .ok (.iinc 3 1, 3) := by decide +kernel
theorem dX10_knows_39 : decode cX10_knows 39 = .ok (.goto (-36), 3) := by decide +kernel
theorem dX10_knows_42 : decode cX10_knows 42 = .ok (.aload_n 0, 1) := by decide +kernel
theorem dX10_knows_43 : decode cX10_knows 43 = .ok (.getfield 53, 3) := by decide +kernel
theorem dX10_knows_46 : decode cX10_knows 46 = .ok (.bipush 30, 2) := by decide +kernel
theorem dX10_knows_48 : decode cX10_knows 48 = .ok (.iload_n 1, 1) := by decide +kernel
theorem dX10_knows_49 : decode cX10_knows 49 = .ok (.imul, 1) := by decide +kernel
theorem dX10_knows_50 : decode cX10_knows 50 = .ok (.bipush 16, 2) := by decide +kernel
theorem dX10_knows_52 : decode cX10_knows 52 = .ok (.iadd, 1) := by decide +kernel
theorem dX10_knows_53 : decode cX10_knows 53 = .ok (.iaload, 1) := by decide +kernel
theorem dX10_knows_54 : decode cX10_knows 54 = .ok (.istore_n 3, 1) := by decide +kernel
theorem dX10_knows_55 : decode cX10_knows 55 = .ok (.aload_n 0, 1) := by decide +kernel
theorem dX10_knows_56 : decode cX10_knows 56 = .ok (.getfield 62, 3) := by decide +kernel
theorem dX10_knows_59 : decode cX10_knows 59 = .ok (.bipush 40, 2) := by decide +kernel
theorem dX10_knows_61 : decode cX10_knows 61 = .ok (.iload_n 1, 1) := by decide +kernel
theorem dX10_knows_62 : decode cX10_knows 62 = .ok (.imul, 1) := by decide +kernel
theorem dX10_knows_63 : decode cX10_knows 63 = .ok (.iload_n 3, 1) := by decide +kernel
theorem dX10_knows_64 : decode cX10_knows 64 = .ok (.iadd, 1) := by decide +kernel
theorem dX10_knows_65 : decode cX10_knows 65 = .ok (.iload_n 2, 1) := by decide +kernel
theorem dX10_knows_66 : decode cX10_knows 66 = .ok (.iastore, 1) := by decide +kernel
theorem dX10_knows_67 : decode cX10_knows 67 = .ok (.aload_n 0, 1) := by decide +kernel
theorem dX10_knows_68 : decode cX10_knows 68 = .ok (.getfield 53, 3) := by decide +kernel
theorem dX10_knows_71 : decode cX10_knows 71 = .ok (.bipush 30, 2) := by decide +kernel
theorem dX10_knows_73 : decode cX10_knows 73 = .ok (.iload_n 1, 1) := by decide +kernel
theorem dX10_knows_74 : decode cX10_knows 74 = .ok (.imul, 1) := by decide +kernel
theorem dX10_knows_75 : decode cX10_knows 75 = .ok (.bipush 16, 2) := by decide +kernel
theorem dX10_knows_77 : decode cX10_knows 77 = .ok (.iadd, 1) := by decide +kernel
theorem dX10_knows_78 : decode cX10_knows 78 = .ok (.dup2, 1) := by decide +kernel
theorem dX10_knows_79 : decode cX10_knows 79 = .ok (.iaload, 1) := by decide +kernel
theorem dX10_knows_80 : decode cX10_knows 80 = .ok (.iconst 1, 1) := by decide +kernel
theorem dX10_knows_81 : decode cX10_knows 81 = .ok (.iadd, 1) := by decide +kernel
theorem dX10_knows_82 : decode cX10_knows 82 = .ok (.iastore, 1) := by decide +kernel
theorem dX10_knows_83 : decode cX10_knows 83 = .ok (.iload_n 3, 1) := by decide +kernel
theorem dX10_knows_84 : decode cX10_knows 84 = .ok (.ireturn, 1) := by decide +kernel
theorem dX10_handler_0 : decode cX10_handler 0 = .ok (.aload_n 0, 1) := by decide +kernel
theorem dX10_handler_1 : decode cX10_handler 1 = .ok (.iload_n 1, 1) := by decide +kernel
theorem dX10_handler_2 : decode cX10_handler 2 = .ok (.invokevirtual 94, 3) := by decide +kernel
theorem dX10_handler_5 : decode cX10_handler 5 = .ok (.ifCond .eq 21, 3) := by decide +kernel
theorem dX10_handler_8 : decode cX10_handler 8 = .ok (.aload_n 0, 1) := by decide +kernel
theorem dX10_handler_9 : decode cX10_handler 9 = .ok (.iload_n 2, 1) := by decide +kernel
theorem dX10_handler_10 : decode cX10_handler 10 = .ok (.invokevirtual 85, 3) := by decide +kernel
theorem dX10_handler_13 : decode cX10_handler 13 = .ok (.ifCond .eq 13, 3) := by decide +kernel
theorem dX10_handler_16 : decode cX10_handler 16 = .ok (.iload_n 3, 1) := by decide +kernel
theorem dX10_handler_17 : decode cX10_handler 17 = .ok (.iconst 0, 1) := by decide +kernel
theorem dX10_handler_18 : decode cX10_handler 18 = .ok (.ldc 93, 2) := by decide +kernel
theorem dX10_handler_20 : decode cX10_handler 20 = .ok (.invokestatic 81, 3) := by decide +kernel
theorem dX10_handler_23 : decode cX10_handler 23 = .ok (.ifCond .ne 5, 3) := by decide +kernel
theorem dX10_handler_26 : decode cX10_handler 26 = .ok (.iconst (-1), 1) := by decide +kernel
theorem dX10_handler_27 : decode cX10_handler 27 = .ok (.ireturn, 1) := by decide +kernel
theorem dX10_handler_28 : decode cX10_handler 28 = .ok (.aload_n 0, 1) := by decide +kernel
theorem dX10_handler_29 : decode cX10_handler 29 = .ok (.iload_n 1, 1) := by decide +kernel
theorem dX10_handler_30 : decode cX10_handler 30 = .ok (.iload_n 2, 1) := by decide +kernel
theorem dX10_handler_31 : decode cX10_handler 31 = .ok (.invokevirtual 97, 3) := by decide +kernel
theorem dX10_handler_34 : decode cX10_handler 34 = .ok (.istore 4, 2) := by decide +kernel
theorem dX10_handler_36 : decode cX10_handler 36 = .ok (.aload_n 0, 1) := by decide +kernel
theorem dX10_handler_37 : decode cX10_handler 37 = .ok (.getfield 53, 3) := by decide +kernel
theorem dX10_handler_40 : decode cX10_handler 40 = .ok (.bipush 30, 2) := by decide +kernel
theorem dX10_handler_42 : decode cX10_handler 42 = .ok (.iload_n 1, 1) := by decide +kernel
theorem dX10_handler_43 : decode cX10_handler 43 = .ok (.imul, 1) := by decide +kernel
theorem dX10_handler_44 : decode cX10_handler 44 = .ok (.bipush 19, 2) := by decide +kernel
theorem dX10_handler_46 : decode cX10_handler 46 = .ok (.iadd, 1) := by decide +kernel
theorem dX10_handler_47 : decode cX10_handler 47 = .ok (.iload 4, 2) := by decide +kernel
theorem dX10_handler_49 : decode cX10_handler 49 = .ok (.iastore, 1) := by decide +kernel
theorem dX10_handler_50 : decode cX10_handler 50 = .ok (.aload_n 0, 1) := by decide +kernel
theorem dX10_handler_51 : decode cX10_handler 51 = .ok (.getfield 53, 3) := by decide +kernel
theorem dX10_handler_54 : decode cX10_handler 54 = .ok (.bipush 30, 2) := by decide +kernel
theorem dX10_handler_56 : decode cX10_handler 56 = .ok (.iload_n 1, 1) := by decide +kernel
theorem dX10_handler_57 : decode cX10_handler 57 = .ok (.imul, 1) := by decide +kernel
theorem dX10_handler_58 : decode cX10_handler 58 = .ok (.bipush 20, 2) := by decide +kernel
theorem dX10_handler_60 : decode cX10_handler 60 = .ok (.iadd, 1) := by decide +kernel
theorem dX10_handler_61 : decode cX10_handler 61 = .ok (.iload_n 3, 1) := by decide +kernel
theorem dX10_handler_62 : decode cX10_handler 62 = .ok (.iastore, 1) := by decide +kernel
theorem dX10_handler_63 : decode cX10_handler 63 = .ok (.iload 4, 2) := by decide +kernel
theorem dX10_handler_65 : decode cX10_handler 65 = .ok (.ireturn, 1) := by decide +kernel
theorem dX10_isKnown_0 : decode cX10_isKnown 0 = .ok (.iload_n 2, 1) := by decide +kernel
theorem dX10_isKnown_1 : decode cX10_isKnown 1 = .ok (.iconst 0, 1) := by decide +kernel
theorem dX10_isKnown_2 : decode cX10_isKnown 2 = .ok (.aload_n 0, 1) := by decide +kernel
theorem dX10_isKnown_3 : decode cX10_isKnown 3 = .ok (.getfield 53, 3) := by decide +kernel
theorem dX10_isKnown_6 : decode cX10_isKnown 6 = .ok (.bipush 30, 2) := by decide +kernel
theorem dX10_isKnown_8 : decode cX10_isKnown 8 = .ok (.iload_n 1, 1) := by decide +kernel
theorem dX10_isKnown_9 : decode cX10_isKnown 9 = .ok (.imul, 1) := by decide +kernel
theorem dX10_isKnown_10 : decode cX10_isKnown 10 = .ok (.bipush 16, 2) := by decide +kernel
theorem dX10_isKnown_12 : decode cX10_isKnown 12 = .ok (.iadd, 1) := by decide +kernel
theorem dX10_isKnown_13 : decode cX10_isKnown 13 = .ok (.iaload, 1) := by decide +kernel
theorem dX10_isKnown_14 : decode cX10_isKnown 14 = .ok (.iconst 1, 1) := by decide +kernel
theorem dX10_isKnown_15 : decode cX10_isKnown 15 = .ok (.isub, 1) := by decide +kernel
theorem dX10_isKnown_16 : decode cX10_isKnown 16 = .ok (.invokestatic 81, 3) := by decide +kernel
theorem dX10_isKnown_19 : decode cX10_isKnown 19 = .ok (.ireturn, 1) := by decide +kernel
theorem dX10_sizeOf_0 : decode cX10_sizeOf 0 = .ok (.iload_n 2, 1) := by decide +kernel
theorem dX10_sizeOf_1 : decode cX10_sizeOf 1 = .ok (.bipush 8, 2) := by decide +kernel
theorem dX10_sizeOf_3 : decode cX10_sizeOf 3 = .ok (.if_icmp .ge 8, 3) := by decide +kernel
theorem dX10_sizeOf_6 : decode cX10_sizeOf 6 = .ok (.bipush 64, 2) := by decide +kernel
theorem dX10_sizeOf_8 : decode cX10_sizeOf 8 = .ok (.goto 19, 3) := by decide +kernel
theorem dX10_sizeOf_11 : decode cX10_sizeOf 11 = .ok (.aload_n 0, 1) := by decide +kernel
theorem dX10_sizeOf_12 : decode cX10_sizeOf 12 = .ok (.getfield 13, 3) := by decide +kernel
theorem dX10_sizeOf_15 : decode cX10_sizeOf 15 = .ok (.aload_n 0, 1) := by decide +kernel
theorem dX10_sizeOf_16 : decode cX10_sizeOf 16 = .ok (.getfield 62, 3) := by decide +kernel
theorem dX10_sizeOf_19 : decode cX10_sizeOf 19 = .ok (.bipush 40, 2) := by decide +kernel
theorem dX10_sizeOf_21 : decode cX10_sizeOf 21 = .ok (.iload_n 1, 1) := by decide +kernel
theorem dX10_sizeOf_22 : decode cX10_sizeOf 22 = .ok (.imul, 1) := by decide +kernel
theorem dX10_sizeOf_23 : decode cX10_sizeOf 23 = .ok (.iload_n 2, 1) := by decide +kernel
theorem dX10_sizeOf_24 : decode cX10_sizeOf 24 = .ok (.iadd, 1) := by decide +kernel
theorem dX10_sizeOf_25 : decode cX10_sizeOf 25 = .ok (.iaload, 1) := by decide +kernel
theorem dX10_sizeOf_26 : decode cX10_sizeOf 26 = .ok (.iaload, 1) := by decide +kernel
theorem dX10_sizeOf_27 : decode cX10_sizeOf 27 = .ok (.ireturn, 1) := by decide +kernel
theorem dX10_flagsOf_0 : decode cX10_flagsOf 0 = .ok (.iload_n 2, 1) := by decide +kernel
theorem dX10_flagsOf_1 : decode cX10_flagsOf 1 = .ok (.bipush 8, 2) := by decide +kernel
theorem dX10_flagsOf_3 : decode cX10_flagsOf 3 = .ok (.if_icmp .ge 7, 3) := by decide +kernel
theorem dX10_flagsOf_6 : decode cX10_flagsOf 6 = .ok (.iconst 3, 1) := by decide +kernel
theorem dX10_flagsOf_7 : decode cX10_flagsOf 7 = .ok (.goto 23, 3) := by decide +kernel
theorem dX10_flagsOf_10 : decode cX10_flagsOf 10 = .ok (.aload_n 0, 1) := by decide +kernel
theorem dX10_flagsOf_11 : decode cX10_flagsOf 11 = .ok (.getfield 28, 3) := by decide +kernel
theorem dX10_flagsOf_14 : decode cX10_flagsOf 14 = .ok (.iconst 4, 1) := by decide +kernel
theorem dX10_flagsOf_15 : decode cX10_flagsOf 15 = .ok (.aload_n 0, 1) := by decide +kernel
theorem dX10_flagsOf_16 : decode cX10_flagsOf 16 = .ok (.getfield 62, 3) := by decide +kernel
theorem dX10_flagsOf_19 : decode cX10_flagsOf 19 = .ok (.bipush 40, 2) := by decide +kernel
theorem dX10_flagsOf_21 : decode cX10_flagsOf 21 = .ok (.iload_n 1, 1) := by decide +kernel
theorem dX10_flagsOf_22 : decode cX10_flagsOf 22 = .ok (.imul, 1) := by decide +kernel
theorem dX10_flagsOf_23 : decode cX10_flagsOf 23 = .ok (.iload_n 2, 1) := by decide +kernel
theorem dX10_flagsOf_24 : decode cX10_flagsOf 24 = .ok (.iadd, 1) := by decide +kernel
theorem dX10_flagsOf_25 : decode cX10_flagsOf 25 = .ok (.iaload, 1) := by decide +kernel
theorem dX10_flagsOf_26 : decode cX10_flagsOf 26 = .ok (.imul, 1) := by decide +kernel
theorem dX10_flagsOf_27 : decode cX10_flagsOf 27 = .ok (.iload_n 1, 1) := by decide +kernel
theorem dX10_flagsOf_28 : decode cX10_flagsOf 28 = .ok (.iadd, 1) := by decide +kernel
theorem dX10_flagsOf_29 : decode cX10_flagsOf 29 = .ok (.iaload, 1) := by decide +kernel
theorem dX10_flagsOf_30 : decode cX10_flagsOf 30 = .ok (.ireturn, 1) := by decide +kernel
theorem dX10_ringOf_0 : decode cX10_ringOf 0 = .ok (.iload_n 2, 1) := by decide +kernel
theorem dX10_ringOf_1 : decode cX10_ringOf 1 = .ok (.bipush 8, 2) := by decide +kernel
theorem dX10_ringOf_3 : decode cX10_ringOf 3 = .ok (.if_icmp .ge 5, 3) := by decide +kernel
theorem dX10_ringOf_6 : decode cX10_ringOf 6 = .ok (.iload_n 2, 1) := by decide +kernel
theorem dX10_ringOf_7 : decode cX10_ringOf 7 = .ok (.ireturn, 1) := by decide +kernel
theorem dX10_ringOf_8 : decode cX10_ringOf 8 = .ok (.aload_n 0, 1) := by decide +kernel
theorem dX10_ringOf_9 : decode cX10_ringOf 9 = .ok (.getfield 62, 3) := by decide +kernel
theorem dX10_ringOf_12 : decode cX10_ringOf 12 = .ok (.bipush 40, 2) := by decide +kernel
theorem dX10_ringOf_14 : decode cX10_ringOf 14 = .ok (.iload_n 1, 1) := by decide +kernel
theorem dX10_ringOf_15 : decode cX10_ringOf 15 = .ok (.imul, 1) := by decide +kernel
theorem dX10_ringOf_16 : decode cX10_ringOf 16 = .ok (.iload_n 2, 1) := by decide +kernel
theorem dX10_ringOf_17 : decode cX10_ringOf 17 = .ok (.iadd, 1) := by decide +kernel
theorem dX10_ringOf_18 : decode cX10_ringOf 18 = .ok (.iaload, 1) := by decide +kernel
theorem dX10_ringOf_19 : decode cX10_ringOf 19 = .ok (.istore 4, 2) := by decide +kernel
theorem dX10_ringOf_21 : decode cX10_ringOf 21 = .ok (.iload_n 3, 1) := by decide +kernel
theorem dX10_ringOf_22 : decode cX10_ringOf 22 = .ok (.iconst 1, 1) := by decide +kernel
theorem dX10_ringOf_23 : decode cX10_ringOf 23 = .ok (.if_icmp .ne 13, 3) := by decide +kernel
theorem dX10_ringOf_26 : decode cX10_ringOf 26 = .ok (.aload_n 0, 1) := by decide +kernel
theorem dX10_ringOf_27 : decode cX10_ringOf 27 = .ok (.getfield 16, 3) := by decide +kernel
theorem dX10_ringOf_30 : decode cX10_ringOf 30 = .ok (.iload 4, 2) := by decide +kernel
theorem dX10_ringOf_32 : decode cX10_ringOf 32 = .ok (.iaload, 1) := by decide +kernel
theorem dX10_ringOf_33 : decode cX10_ringOf 33 = .ok (.goto 25, 3) := by decide +kernel
theorem dX10_ringOf_36 : decode cX10_ringOf 36 = .ok (.iload_n 3, 1) := by decide +kernel
theorem dX10_ringOf_37 : decode cX10_ringOf 37 = .ok (.iconst 2, 1) := by decide +kernel
theorem dX10_ringOf_38 : decode cX10_ringOf 38 = .ok (.if_icmp .ne 13, 3) := by decide +kernel
theorem dX10_ringOf_41 : decode cX10_ringOf 41 = .ok (.aload_n 0, 1) := by decide +kernel
theorem dX10_ringOf_42 : decode cX10_ringOf 42 = .ok (.getfield 19, 3) := by decide +kernel
theorem dX10_ringOf_45 : decode cX10_ringOf 45 = .ok (.iload 4, 2) := by decide +kernel
theorem dX10_ringOf_47 : decode cX10_ringOf 47 = .ok (.iaload, 1) := by decide +kernel
theorem dX10_ringOf_48 : decode cX10_ringOf 48 = .ok (.goto 10, 3) := by decide +kernel
theorem dX10_ringOf_51 : decode cX10_ringOf 51 = .ok (.aload_n 0, 1) := by decide +kernel
theorem dX10_ringOf_52 : decode cX10_ringOf 52 = .ok (.getfield 22, 3) := by decide +kernel
theorem dX10_ringOf_55 : decode cX10_ringOf 55 = .ok (.iload 4, 2) := by decide +kernel
theorem dX10_ringOf_57 : decode cX10_ringOf 57 = .ok (.iaload, 1) := by decide +kernel
theorem dX10_ringOf_58 : decode cX10_ringOf 58 = .ok (.ireturn, 1) := by decide +kernel
theorem dX10_mayDo_0 : decode cX10_mayDo 0 = .ok (.aload_n 0, 1) := by decide +kernel
theorem dX10_mayDo_1 : decode cX10_mayDo 1 = .ok (.iload_n 1, 1) := by decide +kernel
theorem dX10_mayDo_2 : decode cX10_mayDo 2 = .ok (.iload_n 3, 1) := by decide +kernel
theorem dX10_mayDo_3 : decode cX10_mayDo 3 = .ok (.invokevirtual 100, 3) := by decide +kernel
theorem dX10_mayDo_6 : decode cX10_mayDo 6 = .ok (.istore 5, 2) := by decide +kernel
theorem dX10_mayDo_8 : decode cX10_mayDo 8 = .ok (.iload 4, 2) := by decide +kernel
theorem dX10_mayDo_10 : decode cX10_mayDo 10 = .ok (.ifCond .ne 28, 3) := by decide +kernel
theorem dX10_mayDo_13 : decode cX10_mayDo 13 = .ok (.iload 5, 2) := by decide +kernel
theorem dX10_mayDo_15 : decode cX10_mayDo 15 = .ok (.iconst 1, 1) := by decide +kernel
theorem dX10_mayDo_16 : decode cX10_mayDo 16 = .ok (.iand, 1) := by decide +kernel
theorem dX10_mayDo_17 : decode cX10_mayDo 17 = .ok (.iconst 1, 1) := by decide +kernel
theorem dX10_mayDo_18 : decode cX10_mayDo 18 = .ok (.if_icmp .ne 18, 3) := by decide +kernel
theorem dX10_mayDo_21 : decode cX10_mayDo 21 = .ok (.iload_n 2, 1) := by decide +kernel
theorem dX10_mayDo_22 : decode cX10_mayDo 22 = .ok (.aload_n 0, 1) := by decide +kernel
theorem dX10_mayDo_23 : decode cX10_mayDo 23 = .ok (.iload_n 1, 1) := by decide +kernel
theorem dX10_mayDo_24 : decode cX10_mayDo 24 = .ok (.iload_n 3, 1) := by decide +kernel
theorem dX10_mayDo_25 : decode cX10_mayDo 25 = .ok (.iconst 2, 1) := by decide +kernel
theorem dX10_mayDo_26 : decode cX10_mayDo 26 = .ok (.invokevirtual 103, 3) := by decide +kernel
theorem dX10_mayDo_29 : decode cX10_mayDo 29 = .ok (.if_icmp .gt 7, 3) := by decide +kernel
theorem dX10_mayDo_32 : decode cX10_mayDo 32 = .ok (.iconst 1, 1) := by decide +kernel
theorem dX10_mayDo_33 : decode cX10_mayDo 33 = .ok (.goto 4, 3) := by decide +kernel
theorem dX10_mayDo_36 : decode cX10_mayDo 36 = .ok (.iconst 0, 1) := by decide +kernel
theorem dX10_mayDo_37 : decode cX10_mayDo 37 = .ok (.ireturn, 1) := by decide +kernel
theorem dX10_mayDo_38 : decode cX10_mayDo 38 = .ok (.iload 4, 2) := by decide +kernel
theorem dX10_mayDo_40 : decode cX10_mayDo 40 = .ok (.iconst 1, 1) := by decide +kernel
theorem dX10_mayDo_41 : decode cX10_mayDo 41 = .ok (.if_icmp .ne 28, 3) := by decide +kernel
theorem dX10_mayDo_44 : decode cX10_mayDo 44 = .ok (.iload 5, 2) := by decide +kernel
theorem dX10_mayDo_46 : decode cX10_mayDo 46 = .ok (.iconst 2, 1) := by decide +kernel
theorem dX10_mayDo_47 : decode cX10_mayDo 47 = .ok (.iand, 1) := by decide +kernel
theorem dX10_mayDo_48 : decode cX10_mayDo 48 = .ok (.iconst 2, 1) := by decide +kernel
theorem dX10_mayDo_49 : decode cX10_mayDo 49 = .ok (.if_icmp .ne 18, 3) := by decide +kernel
theorem dX10_mayDo_52 : decode cX10_mayDo 52 = .ok (.iload_n 2, 1) := by decide +kernel
theorem dX10_mayDo_53 : decode cX10_mayDo 53 = .ok (.aload_n 0, 1) := by decide +kernel
theorem dX10_mayDo_54 : decode cX10_mayDo 54 = .ok (.iload_n 1, 1) := by decide +kernel
theorem dX10_mayDo_55 : decode cX10_mayDo 55 = .ok (.iload_n 3, 1) := by decide +kernel
theorem dX10_mayDo_56 : decode cX10_mayDo 56 = .ok (.iconst 1, 1) := by decide +kernel
theorem dX10_mayDo_57 : decode cX10_mayDo 57 = .ok (.invokevirtual 103, 3) := by decide +kernel
theorem dX10_mayDo_60 : decode cX10_mayDo 60 = .ok (.if_icmp .gt 7, 3) := by decide +kernel
theorem dX10_mayDo_63 : decode cX10_mayDo 63 = .ok (.iconst 1, 1) := by decide +kernel
theorem dX10_mayDo_64 : decode cX10_mayDo 64 = .ok (.goto 4, 3) := by decide +kernel
theorem dX10_mayDo_67 : decode cX10_mayDo 67 = .ok (.iconst 0, 1) := by decide +kernel
theorem dX10_mayDo_68 : decode cX10_mayDo 68 = .ok (.ireturn, 1) := by decide +kernel
theorem dX10_mayDo_69 : decode cX10_mayDo 69 = .ok (.iload 5, 2) := by decide +kernel
theorem dX10_mayDo_71 : decode cX10_mayDo 71 = .ok (.iconst 4, 1) := by decide +kernel
theorem dX10_mayDo_72 : decode cX10_mayDo 72 = .ok (.iand, 1) := by decide +kernel
theorem dX10_mayDo_73 : decode cX10_mayDo 73 = .ok (.iconst 4, 1) := by decide +kernel
theorem dX10_mayDo_74 : decode cX10_mayDo 74 = .ok (.if_icmp .ne 29, 3) := by decide +kernel
theorem dX10_mayDo_77 : decode cX10_mayDo 77 = .ok (.iload_n 2, 1) := by decide +kernel
theorem dX10_mayDo_78 : decode cX10_mayDo 78 = .ok (.aload_n 0, 1) := by decide +kernel
theorem dX10_mayDo_79 : decode cX10_mayDo 79 = .ok (.iload_n 1, 1) := by decide +kernel
theorem dX10_mayDo_80 : decode cX10_mayDo 80 = .ok (.iload_n 3, 1) := by decide +kernel
theorem dX10_mayDo_81 : decode cX10_mayDo 81 = .ok (.iconst 1, 1) := by decide +kernel
theorem dX10_mayDo_82 : decode cX10_mayDo 82 = .ok (.invokevirtual 103, 3) := by decide +kernel
theorem dX10_mayDo_85 : decode cX10_mayDo 85 = .ok (.if_icmp .lt 18, 3) := by decide +kernel
theorem dX10_mayDo_88 : decode cX10_mayDo 88 = .ok (.iload_n 2, 1) := by decide +kernel
theorem dX10_mayDo_89 : decode cX10_mayDo 89 = .ok (.aload_n 0, 1) := by decide +kernel
theorem dX10_mayDo_90 : decode cX10_mayDo 90 = .ok (.iload_n 1, 1) := by decide +kernel
theorem dX10_mayDo_91 : decode cX10_mayDo 91 = .ok (.iload_n 3, 1) := by decide +kernel
theorem dX10_mayDo_92 : decode cX10_mayDo 92 = .ok (.iconst 2, 1) := by decide +kernel
theorem dX10_mayDo_93 : decode cX10_mayDo 93 = .ok (.invokevirtual 103, 3) := by decide +kernel
theorem dX10_mayDo_96 : decode cX10_mayDo 96 = .ok (.if_icmp .gt 7, 3) := by decide +kernel
theorem dX10_mayDo_99 : decode cX10_mayDo 99 = .ok (.iconst 1, 1) := by decide +kernel
theorem dX10_mayDo_100 : decode cX10_mayDo 100 = .ok (.goto 4, 3) := by decide +kernel
theorem dX10_mayDo_103 : decode cX10_mayDo 103 = .ok (.iconst 0, 1) := by decide +kernel
theorem dX10_mayDo_104 : decode cX10_mayDo 104 = .ok (.ireturn, 1) := by decide +kernel
theorem dX10_get_0 : decode cX10_get 0 = .ok (.iload_n 2, 1) := by decide +kernel
theorem dX10_get_1 : decode cX10_get 1 = .ok (.bipush 8, 2) := by decide +kernel
theorem dX10_get_3 : decode cX10_get 3 = .ok (.if_icmp .ge 23, 3) := by decide +kernel
theorem dX10_get_6 : decode cX10_get 6 = .ok (.aload_n 0, 1) := by decide +kernel
theorem dX10_get_7 : decode cX10_get 7 = .ok (.getfield 59, 3) := by decide +kernel
theorem dX10_get_10 : decode cX10_get 10 = .ok (.sipush 512, 3) := by decide +kernel
theorem dX10_get_13 : decode cX10_get 13 = .ok (.iload_n 1, 1) := by decide +kernel
theorem dX10_get_14 : decode cX10_get 14 = .ok (.imul, 1) := by decide +kernel
theorem dX10_get_15 : decode cX10_get 15 = .ok (.bipush 64, 2) := by decide +kernel
theorem dX10_get_17 : decode cX10_get 17 = .ok (.iload_n 2, 1) := by decide +kernel
theorem dX10_get_18 : decode cX10_get 18 = .ok (.imul, 1) := by decide +kernel
theorem dX10_get_19 : decode cX10_get 19 = .ok (.iadd, 1) := by decide +kernel
theorem dX10_get_20 : decode cX10_get 20 = .ok (.iload_n 3, 1) := by decide +kernel
theorem dX10_get_21 : decode cX10_get 21 = .ok (.iadd, 1) := by decide +kernel
theorem dX10_get_22 : decode cX10_get 22 = .ok (.iaload, 1) := by decide +kernel
theorem dX10_get_23 : decode cX10_get 23 = .ok (.goto 25, 3) := by decide +kernel
theorem dX10_get_26 : decode cX10_get 26 = .ok (.aload_n 0, 1) := by decide +kernel
theorem dX10_get_27 : decode cX10_get 27 = .ok (.getfield 31, 3) := by decide +kernel
theorem dX10_get_30 : decode cX10_get 30 = .ok (.sipush 256, 3) := by decide +kernel
theorem dX10_get_33 : decode cX10_get 33 = .ok (.aload_n 0, 1) := by decide +kernel
theorem dX10_get_34 : decode cX10_get 34 = .ok (.getfield 62, 3) := by decide +kernel
theorem dX10_get_37 : decode cX10_get 37 = .ok (.bipush 40, 2) := by decide +kernel
theorem dX10_get_39 : decode cX10_get 39 = .ok (.iload_n 1, 1) := by decide +kernel
theorem dX10_get_40 : decode cX10_get 40 = .ok (.imul, 1) := by decide +kernel
theorem dX10_get_41 : decode cX10_get 41 = .ok (.iload_n 2, 1) := by decide +kernel
theorem dX10_get_42 : decode cX10_get 42 = .ok (.iadd, 1) := by decide +kernel
theorem dX10_get_43 : decode cX10_get 43 = .ok (.iaload, 1) := by decide +kernel
theorem dX10_get_44 : decode cX10_get 44 = .ok (.imul, 1) := by decide +kernel
theorem dX10_get_45 : decode cX10_get 45 = .ok (.iload_n 3, 1) := by decide +kernel
theorem dX10_get_46 : decode cX10_get 46 = .ok (.iadd, 1) := by decide +kernel
theorem dX10_get_47 : decode cX10_get 47 = .ok (.iaload, 1) := by decide +kernel
theorem dX10_get_48 : decode cX10_get 48 = .ok (.ireturn, 1) := by decide +kernel
theorem dX10_put_0 : decode cX10_put 0 = .ok (.iload_n 2, 1) := by decide +kernel
theorem dX10_put_1 : decode cX10_put 1 = .ok (.bipush 8, 2) := by decide +kernel
theorem dX10_put_3 : decode cX10_put 3 = .ok (.if_icmp .ge 25, 3) := by decide +kernel
theorem dX10_put_6 : decode cX10_put 6 = .ok (.aload_n 0, 1) := by decide +kernel
theorem dX10_put_7 : decode cX10_put 7 = .ok (.getfield 59, 3) := by decide +kernel
theorem dX10_put_10 : decode cX10_put 10 = .ok (.sipush 512, 3) := by decide +kernel
theorem dX10_put_13 : decode cX10_put 13 = .ok (.iload_n 1, 1) := by decide +kernel
theorem dX10_put_14 : decode cX10_put 14 = .ok (.imul, 1) := by decide +kernel
theorem dX10_put_15 : decode cX10_put 15 = .ok (.bipush 64, 2) := by decide +kernel
theorem dX10_put_17 : decode cX10_put 17 = .ok (.iload_n 2, 1) := by decide +kernel
theorem dX10_put_18 : decode cX10_put 18 = .ok (.imul, 1) := by decide +kernel
theorem dX10_put_19 : decode cX10_put 19 = .ok (.iadd, 1) := by decide +kernel
theorem dX10_put_20 : decode cX10_put 20 = .ok (.iload_n 3, 1) := by decide +kernel
theorem dX10_put_21 : decode cX10_put 21 = .ok (.iadd, 1) := by decide +kernel
theorem dX10_put_22 : decode cX10_put 22 = .ok (.iload 4, 2) := by decide +kernel
theorem dX10_put_24 : decode cX10_put 24 = .ok (.iastore, 1) := by decide +kernel
theorem dX10_put_25 : decode cX10_put 25 = .ok (.goto 27, 3) := by decide +kernel
theorem dX10_put_28 : decode cX10_put 28 = .ok (.aload_n 0, 1) := by decide +kernel
theorem dX10_put_29 : decode cX10_put 29 = .ok (.getfield 31, 3) := by decide +kernel
theorem dX10_put_32 : decode cX10_put 32 = .ok (.sipush 256, 3) := by decide +kernel
theorem dX10_put_35 : decode cX10_put 35 = .ok (.aload_n 0, 1) := by decide +kernel
theorem dX10_put_36 : decode cX10_put 36 = .ok (.getfield 62, 3) := by decide +kernel
theorem dX10_put_39 : decode cX10_put 39 = .ok (.bipush 40, 2) := by decide +kernel
theorem dX10_put_41 : decode cX10_put 41 = .ok (.iload_n 1, 1) := by decide +kernel
theorem dX10_put_42 : decode cX10_put 42 = .ok (.imul, 1) := by decide +kernel
theorem dX10_put_43 : decode cX10_put 43 = .ok (.iload_n 2, 1) := by decide +kernel
theorem dX10_put_44 : decode cX10_put 44 = .ok (.iadd, 1) := by decide +kernel
theorem dX10_put_45 : decode cX10_put 45 = .ok (.iaload, 1) := by decide +kernel
theorem dX10_put_46 : decode cX10_put 46 = .ok (.imul, 1) := by decide +kernel
theorem dX10_put_47 : decode cX10_put 47 = .ok (.iload_n 3, 1) := by decide +kernel
theorem dX10_put_48 : decode cX10_put 48 = .ok (.iadd, 1) := by decide +kernel
theorem dX10_put_49 : decode cX10_put 49 = .ok (.iload 4, 2) := by decide +kernel
theorem dX10_put_51 : decode cX10_put 51 = .ok (.iastore, 1) := by decide +kernel
theorem dX10_put_52 : decode cX10_put 52 = .ok (.return_, 1) := by decide +kernel
theorem dX10_fails_0 : decode cX10_fails 0 = .ok (.aload_n 0, 1) := by decide +kernel
theorem dX10_fails_1 : decode cX10_fails 1 = .ok (.iload_n 1, 1) := by decide +kernel
theorem dX10_fails_2 : decode cX10_fails 2 = .ok (.putfield 107, 3) := by decide +kernel
theorem dX10_fails_5 : decode cX10_fails 5 = .ok (.aload_n 0, 1) := by decide +kernel
theorem dX10_fails_6 : decode cX10_fails 6 = .ok (.iload_n 2, 1) := by decide +kernel
theorem dX10_fails_7 : decode cX10_fails 7 = .ok (.putfield 110, 3) := by decide +kernel
theorem dX10_fails_10 : decode cX10_fails 10 = .ok (.aload_n 0, 1) := by decide +kernel
theorem dX10_fails_11 : decode cX10_fails 11 = .ok (.iload_n 3, 1) := by decide +kernel
theorem dX10_fails_12 : decode cX10_fails 12 = .ok (.putfield 113, 3) := by decide +kernel
theorem dX10_fails_15 : decode cX10_fails 15 = .ok (.aload_n 0, 1) := by decide +kernel
theorem dX10_fails_16 : decode cX10_fails 16 = .ok (.iload 4, 2) := by decide +kernel
theorem dX10_fails_18 : decode cX10_fails 18 = .ok (.putfield 116, 3) := by decide +kernel
theorem dX10_fails_21 : decode cX10_fails 21 = .ok (.iconst 0, 1) := by decide +kernel
theorem dX10_fails_22 : decode cX10_fails 22 = .ok (.ireturn, 1) := by decide +kernel
theorem dX10_failsHere_0 : decode cX10_failsHere 0 = .ok (.aload_n 0, 1) := by decide +kernel
theorem dX10_failsHere_1 : decode cX10_failsHere 1 = .ok (.iload_n 2, 1) := by decide +kernel
theorem dX10_failsHere_2 : decode cX10_failsHere 2 = .ok (.aload_n 0, 1) := by decide +kernel
theorem dX10_failsHere_3 : decode cX10_failsHere 3 = .ok (.getfield 53, 3) := by decide +kernel
theorem dX10_failsHere_6 : decode cX10_failsHere 6 = .ok (.bipush 30, 2) := by decide +kernel
theorem dX10_failsHere_8 : decode cX10_failsHere 8 = .ok (.iload_n 1, 1) := by decide +kernel
theorem dX10_failsHere_9 : decode cX10_failsHere 9 = .ok (.imul, 1) := by decide +kernel
theorem dX10_failsHere_10 : decode cX10_failsHere 10 = .ok (.iconst 1, 1) := by decide +kernel
theorem dX10_failsHere_11 : decode cX10_failsHere 11 = .ok (.iadd, 1) := by decide +kernel
theorem dX10_failsHere_12 : decode cX10_failsHere 12 = .ok (.iaload, 1) := by decide +kernel
theorem dX10_failsHere_13 : decode cX10_failsHere 13 = .ok (.aload_n 0, 1) := by decide +kernel
theorem dX10_failsHere_14 : decode cX10_failsHere 14 = .ok (.getfield 53, 3) := by decide +kernel
theorem dX10_failsHere_17 : decode cX10_failsHere 17 = .ok (.bipush 30, 2) := by decide +kernel
theorem dX10_failsHere_19 : decode cX10_failsHere 19 = .ok (.iload_n 1, 1) := by decide +kernel
theorem dX10_failsHere_20 : decode cX10_failsHere 20 = .ok (.imul, 1) := by decide +kernel
theorem dX10_failsHere_21 : decode cX10_failsHere 21 = .ok (.iconst 2, 1) := by decide +kernel
theorem dX10_failsHere_22 : decode cX10_failsHere 22 = .ok (.iadd, 1) := by decide +kernel
theorem dX10_failsHere_23 : decode cX10_failsHere 23 = .ok (.iaload, 1) := by decide +kernel
theorem dX10_failsHere_24 : decode cX10_failsHere 24 = .ok (.aload_n 0, 1) := by decide +kernel
theorem dX10_failsHere_25 : decode cX10_failsHere 25 = .ok (.getfield 53, 3) := by decide +kernel
theorem dX10_failsHere_28 : decode cX10_failsHere 28 = .ok (.bipush 30, 2) := by decide +kernel
theorem dX10_failsHere_30 : decode cX10_failsHere 30 = .ok (.iload_n 1, 1) := by decide +kernel
theorem dX10_failsHere_31 : decode cX10_failsHere 31 = .ok (.imul, 1) := by decide +kernel
theorem dX10_failsHere_32 : decode cX10_failsHere 32 = .ok (.iconst 3, 1) := by decide +kernel
theorem dX10_failsHere_33 : decode cX10_failsHere 33 = .ok (.iadd, 1) := by decide +kernel
theorem dX10_failsHere_34 : decode cX10_failsHere 34 = .ok (.iaload, 1) := by decide +kernel
theorem dX10_failsHere_35 : decode cX10_failsHere 35 = .ok (.invokevirtual 119, 3) := by decide +kernel
theorem dX10_failsHere_38 : decode cX10_failsHere 38 = .ok (.ireturn, 1) := by decide +kernel
theorem dX10_can_0 : decode cX10_can 0 = .ok (.aload_n 0, 1) := by decide +kernel
theorem dX10_can_1 : decode cX10_can 1 = .ok (.iload_n 1, 1) := by decide +kernel
theorem dX10_can_2 : decode cX10_can 2 = .ok (.iload_n 3, 1) := by decide +kernel
theorem dX10_can_3 : decode cX10_can 3 = .ok (.invokevirtual 123, 3) := by decide +kernel
theorem dX10_can_6 : decode cX10_can 6 = .ok (.ifCond .ne 13, 3) := by decide +kernel
theorem dX10_can_9 : decode cX10_can 9 = .ok (.aload_n 0, 1) := by decide +kernel
theorem dX10_can_10 : decode cX10_can 10 = .ok (.iconst 1, 1) := by decide +kernel
theorem dX10_can_11 : decode cX10_can 11 = .ok (.iload_n 2, 1) := by decide +kernel
theorem dX10_can_12 : decode cX10_can 12 = .ok (.iload_n 3, 1) := by decide +kernel
theorem dX10_can_13 : decode cX10_can 13 = .ok (.iload 4, 2) := by decide +kernel
theorem dX10_can_15 : decode cX10_can 15 = .ok (.invokevirtual 119, 3) := by decide +kernel
theorem dX10_can_18 : decode cX10_can 18 = .ok (.ireturn, 1) := by decide +kernel
theorem dX10_can_19 : decode cX10_can 19 = .ok (.iload 4, 2) := by decide +kernel
theorem dX10_can_21 : decode cX10_can 21 = .ok (.iconst 0, 1) := by decide +kernel
theorem dX10_can_22 : decode cX10_can 22 = .ok (.aload_n 0, 1) := by decide +kernel
theorem dX10_can_23 : decode cX10_can 23 = .ok (.iload_n 1, 1) := by decide +kernel
theorem dX10_can_24 : decode cX10_can 24 = .ok (.iload_n 3, 1) := by decide +kernel
theorem dX10_can_25 : decode cX10_can 25 = .ok (.invokevirtual 127, 3) := by decide +kernel
theorem dX10_can_28 : decode cX10_can 28 = .ok (.iconst 1, 1) := by decide +kernel
theorem dX10_can_29 : decode cX10_can 29 = .ok (.isub, 1) := by decide +kernel
theorem dX10_can_30 : decode cX10_can 30 = .ok (.invokestatic 81, 3) := by decide +kernel
theorem dX10_can_33 : decode cX10_can 33 = .ok (.ifCond .ne 13, 3) := by decide +kernel
theorem dX10_can_36 : decode cX10_can 36 = .ok (.aload_n 0, 1) := by decide +kernel
theorem dX10_can_37 : decode cX10_can 37 = .ok (.iconst 2, 1) := by decide +kernel
theorem dX10_can_38 : decode cX10_can 38 = .ok (.iload_n 2, 1) := by decide +kernel
theorem dX10_can_39 : decode cX10_can 39 = .ok (.iload_n 3, 1) := by decide +kernel
theorem dX10_can_40 : decode cX10_can 40 = .ok (.iload 4, 2) := by decide +kernel
theorem dX10_can_42 : decode cX10_can 42 = .ok (.invokevirtual 119, 3) := by decide +kernel
theorem dX10_can_45 : decode cX10_can 45 = .ok (.ireturn, 1) := by decide +kernel
theorem dX10_can_46 : decode cX10_can 46 = .ok (.aload_n 0, 1) := by decide +kernel
theorem dX10_can_47 : decode cX10_can 47 = .ok (.iload_n 1, 1) := by decide +kernel
theorem dX10_can_48 : decode cX10_can 48 = .ok (.iload_n 2, 1) := by decide +kernel
theorem dX10_can_49 : decode cX10_can 49 = .ok (.iload_n 3, 1) := by decide +kernel
theorem dX10_can_50 : decode cX10_can 50 = .ok (.iload 5, 2) := by decide +kernel
theorem dX10_can_52 : decode cX10_can 52 = .ok (.invokevirtual 130, 3) := by decide +kernel
theorem dX10_can_55 : decode cX10_can 55 = .ok (.ifCond .ne 16, 3) := by decide +kernel
theorem dX10_can_58 : decode cX10_can 58 = .ok (.aload_n 0, 1) := by decide +kernel
theorem dX10_can_59 : decode cX10_can 59 = .ok (.iconst 3, 1) := by decide +kernel
theorem dX10_can_60 : decode cX10_can 60 = .ok (.iload 5, 2) := by decide +kernel
theorem dX10_can_62 : decode cX10_can 62 = .ok (.iadd, 1) := by decide +kernel
theorem dX10_can_63 : decode cX10_can 63 = .ok (.iload_n 2, 1) := by decide +kernel
theorem dX10_can_64 : decode cX10_can 64 = .ok (.iload_n 3, 1) := by decide +kernel
theorem dX10_can_65 : decode cX10_can 65 = .ok (.iload 4, 2) := by decide +kernel
theorem dX10_can_67 : decode cX10_can 67 = .ok (.invokevirtual 119, 3) := by decide +kernel
theorem dX10_can_70 : decode cX10_can 70 = .ok (.ireturn, 1) := by decide +kernel
theorem dX10_can_71 : decode cX10_can 71 = .ok (.iconst 1, 1) := by decide +kernel
theorem dX10_can_72 : decode cX10_can 72 = .ok (.ireturn, 1) := by decide +kernel
theorem dX10_linked_0 : decode cX10_linked 0 = .ok (.bipush 30, 2) := by decide +kernel
theorem dX10_linked_2 : decode cX10_linked 2 = .ok (.iload_n 1, 1) := by decide +kernel
theorem dX10_linked_3 : decode cX10_linked 3 = .ok (.imul, 1) := by decide +kernel
theorem dX10_linked_4 : decode cX10_linked 4 = .ok (.istore_n 3, 1) := by decide +kernel
theorem dX10_linked_5 : decode cX10_linked 5 = .ok (.aload_n 0, 1) := by decide +kernel
theorem dX10_linked_6 : decode cX10_linked 6 = .ok (.getfield 53, 3) := by decide +kernel
theorem dX10_linked_9 : decode cX10_linked 9 = .ok (.iload_n 3, 1) := by decide +kernel
theorem dX10_linked_10 : decode cX10_linked 10 = .ok (.iconst 2, 1) := by decide +kernel
theorem dX10_linked_11 : decode cX10_linked 11 = .ok (.iadd, 1) := by decide +kernel
theorem dX10_linked_12 : decode cX10_linked 12 = .ok (.iaload, 1) := by decide +kernel
theorem dX10_linked_13 : decode cX10_linked 13 = .ok (.istore 4, 2) := by decide +kernel
theorem dX10_linked_15 : decode cX10_linked 15 = .ok (.iload 4, 2) := by decide +kernel
theorem dX10_linked_17 : decode cX10_linked 17 = .ok (.bipush 8, 2) := by decide +kernel
theorem dX10_linked_19 : decode cX10_linked 19 = .ok (.if_icmp .lt 219, 3) := by decide +kernel
theorem dX10_linked_22 : decode cX10_linked 22 = .ok (.iload_n 2, 1) := by decide +kernel
theorem dX10_linked_23 : decode cX10_linked 23 = .ok (.iconst 0, 1) := by decide +kernel
theorem dX10_linked_24 : decode cX10_linked 24 = .ok (.bipush 15, 2) := by decide +kernel
theorem dX10_linked_26 : decode cX10_linked 26 = .ok (.invokestatic 81, 3) := by decide +kernel
theorem dX10_linked_29 : decode cX10_linked 29 = .ok (.ifCond .eq 209, 3) := by decide +kernel
theorem dX10_linked_32 : decode cX10_linked 32 = .ok (.aload_n 0, 1) := by decide +kernel
theorem dX10_linked_33 : decode cX10_linked 33 = .ok (.getfield 62, 3) := by decide +kernel
theorem dX10_linked_36 : decode cX10_linked 36 = .ok (.bipush 40, 2) := by decide +kernel
theorem dX10_linked_38 : decode cX10_linked 38 = .ok (.iload_n 1, 1) := by decide +kernel
theorem dX10_linked_39 : decode cX10_linked 39 = .ok (.imul, 1) := by decide +kernel
theorem dX10_linked_40 : decode cX10_linked 40 = .ok (.iload 4, 2) := by decide +kernel
theorem dX10_linked_42 : decode cX10_linked 42 = .ok (.iadd, 1) := by decide +kernel
theorem dX10_linked_43 : decode cX10_linked 43 = .ok (.iaload, 1) := by decide +kernel
theorem dX10_linked_44 : decode cX10_linked 44 = .ok (.istore 5, 2) := by decide +kernel
theorem dX10_linked_46 : decode cX10_linked 46 = .ok (.sipush 512, 3) := by decide +kernel
theorem dX10_linked_49 : decode cX10_linked 49 = .ok (.iload_n 1, 1) := by decide +kernel
theorem dX10_linked_50 : decode cX10_linked 50 = .ok (.imul, 1) := by decide +kernel
theorem dX10_linked_51 : decode cX10_linked 51 = .ok (.bipush 16, 2) := by decide +kernel
theorem dX10_linked_53 : decode cX10_linked 53 = .ok (.iload 5, 2) := by decide +kernel
theorem dX10_linked_55 : decode cX10_linked 55 = .ok (.imul, 1) := by decide +kernel
theorem dX10_linked_56 : decode cX10_linked 56 = .ok (.iadd, 1) := by decide +kernel
theorem dX10_linked_57 : decode cX10_linked 57 = .ok (.iload_n 2, 1) := by decide +kernel
theorem dX10_linked_58 : decode cX10_linked 58 = .ok (.iadd, 1) := by decide +kernel
theorem dX10_linked_59 : decode cX10_linked 59 = .ok (.istore 6, 2) := by decide +kernel
theorem dX10_linked_61 : decode cX10_linked 61 = .ok (.aload_n 0, 1) := by decide +kernel
theorem dX10_linked_62 : decode cX10_linked 62 = .ok (.getfield 65, 3) := by decide +kernel
theorem dX10_linked_65 : decode cX10_linked 65 = .ok (.iload 6, 2) := by decide +kernel
theorem dX10_linked_67 : decode cX10_linked 67 = .ok (.iaload, 1) := by decide +kernel
theorem dX10_linked_68 : decode cX10_linked 68 = .ok (.ifCond .ne 136, 3) := by decide +kernel
theorem dX10_linked_71 : decode cX10_linked 71 = .ok (.aload_n 0, 1) := by decide +kernel
theorem dX10_linked_72 : decode cX10_linked 72 = .ok (.getfield 49, 3) := by decide +kernel
theorem dX10_linked_75 : decode cX10_linked 75 = .ok (.bipush 16, 2) := by decide +kernel
theorem dX10_linked_77 : decode cX10_linked 77 = .ok (.iload 5, 2) := by decide +kernel
theorem dX10_linked_79 : decode cX10_linked 79 = .ok (.imul, 1) := by decide +kernel
theorem dX10_linked_80 : decode cX10_linked 80 = .ok (.iload_n 2, 1) := by decide +kernel
theorem dX10_linked_81 : decode cX10_linked 81 = .ok (.iadd, 1) := by decide +kernel
theorem dX10_linked_82 : decode cX10_linked 82 = .ok (.baload, 1) := by decide +kernel
theorem dX10_linked_83 : decode cX10_linked 83 = .ok (.ifCond .eq 121, 3) := by decide +kernel
theorem dX10_linked_86 : decode cX10_linked 86 = .ok (.iconst (-1), 1) := by decide +kernel
theorem dX10_linked_87 : decode cX10_linked 87 = .ok (.istore 7, 2) := by decide +kernel
theorem dX10_linked_89 : decode cX10_linked 89 = .ok (.iconst 0, 1) := by decide +kernel
theorem dX10_linked_90 : decode cX10_linked 90 = .ok (.istore 8, 2) := by decide +kernel
theorem dX10_linked_92 : decode cX10_linked 92 = .ok (.iload 8, 2) := by decide +kernel
theorem dX10_linked_94 : decode cX10_linked 94 = .ok (.aload_n 0, 1) := by decide +kernel
theorem dX10_linked_95 : decode cX10_linked 95 = .ok (.getfield 77, 3) := by decide +kernel
theorem dX10_linked_98 : decode cX10_linked 98 = .ok (.if_icmp .ge 49, 3) := by decide +kernel
theorem dX10_linked_101 : decode cX10_linked 101 = .ok (.aload_n 0, 1) := by decide +kernel
theorem dX10_linked_102 : decode cX10_linked 102 = .ok (.getfield 7, 3) := by decide +kernel
theorem dX10_linked_105 : decode cX10_linked 105 = .ok (.iload 8, 2) := by decide +kernel
theorem dX10_linked_107 : decode cX10_linked 107 = .ok (.iaload, 1) := by decide +kernel
theorem dX10_linked_108 : decode cX10_linked 108 = .ok (.aload_n 0, 1) := by decide +kernel
theorem dX10_linked_109 : decode cX10_linked 109 = .ok (.getfield 43, 3) := by decide +kernel
theorem dX10_linked_112 : decode cX10_linked 112 = .ok (.bipush 16, 2) := by decide +kernel
theorem dX10_linked_114 : decode cX10_linked 114 = .ok (.iload 5, 2) := by decide +kernel
theorem dX10_linked_116 : decode cX10_linked 116 = .ok (.imul, 1) := by decide +kernel
theorem dX10_linked_117 : decode cX10_linked 117 = .ok (.iload_n 2, 1) := by decide +kernel
theorem dX10_linked_118 : decode cX10_linked 118 = .ok (.iadd, 1) := by decide +kernel
theorem dX10_linked_119 : decode cX10_linked 119 = .ok (.iaload, 1) := by decide +kernel
theorem dX10_linked_120 : decode cX10_linked 120 = .ok (.if_icmp .ne 21, 3) := by decide +kernel
theorem dX10_linked_123 : decode cX10_linked 123 = .ok (.aload_n 0, 1) := by decide +kernel
theorem dX10_linked_124 : decode cX10_linked 124 = .ok (.getfield 28, 3) := by decide +kernel
theorem dX10_linked_127 : decode cX10_linked 127 = .ok (.iconst 4, 1) := by decide +kernel
theorem dX10_linked_128 : decode cX10_linked 128 = .ok (.iload 8, 2) := by decide +kernel
theorem dX10_linked_130 : decode cX10_linked 130 = .ok (.imul, 1) := by decide +kernel
theorem dX10_linked_131 : decode cX10_linked 131 = .ok (.iload_n 1, 1) := by decide +kernel
theorem dX10_linked_132 : decode cX10_linked 132 = .ok (.iadd, 1) := by decide +kernel
theorem dX10_linked_133 : decode cX10_linked 133 = .ok (.iaload, 1) := by decide +kernel
theorem dX10_linked_134 : decode cX10_linked 134 = .ok (.ifCond .eq 7, 3) := by decide +kernel
theorem dX10_linked_137 : decode cX10_linked 137 = .ok (.iload 8, 2) := by decide +kernel
theorem dX10_linked_139 : decode cX10_linked 139 = .ok (.istore 7, 2) := by decide +kernel
theorem dX10_linked_141 : decode cX10_linked 141 = .ok (.iinc 8 1, 3) := by decide +kernel
theorem dX10_linked_144 : decode cX10_linked 144 = .ok (.goto (-52), 3) := by decide +kernel
theorem dX10_linked_147 : decode cX10_linked 147 = .ok (.iload 7, 2) := by decide +kernel
theorem dX10_linked_149 : decode cX10_linked 149 = .ok (.ifCond .ge 7, 3) := by decide +kernel
theorem dX10_linked_152 : decode cX10_linked 152 = .ok (.iconst (-1), 1) := by decide +kernel
theorem dX10_linked_153 : decode cX10_linked 153 = .ok (.goto 21, 3) := by decide +kernel
theorem dX10_linked_156 : decode cX10_linked 156 = .ok (.aload_n 0, 1) := by decide +kernel
theorem dX10_linked_157 : decode cX10_linked 157 = .ok (.iload 7, 2) := by decide +kernel
theorem dX10_linked_159 : decode cX10_linked 159 = .ok (.aload_n 0, 1) := by decide +kernel
theorem dX10_linked_160 : decode cX10_linked 160 = .ok (.getfield 46, 3) := by decide +kernel
theorem dX10_linked_163 : decode cX10_linked 163 = .ok (.bipush 16, 2) := by decide +kernel
theorem dX10_linked_165 : decode cX10_linked 165 = .ok (.iload 5, 2) := by decide +kernel
theorem dX10_linked_167 : decode cX10_linked 167 = .ok (.imul, 1) := by decide +kernel
theorem dX10_linked_168 : decode cX10_linked 168 = .ok (.iload_n 2, 1) := by decide +kernel
theorem dX10_linked_169 : decode cX10_linked 169 = .ok (.iadd, 1) := by decide +kernel
theorem dX10_linked_170 : decode cX10_linked 170 = .ok (.iaload, 1) := by decide +kernel
theorem dX10_linked_171 : decode cX10_linked 171 = .ok (.invokevirtual 89, 3) := by decide +kernel
theorem dX10_linked_174 : decode cX10_linked 174 = .ok (.istore 8, 2) := by decide +kernel
theorem dX10_linked_176 : decode cX10_linked 176 = .ok (.iload 8, 2) := by decide +kernel
theorem dX10_linked_178 : decode cX10_linked 178 = .ok (.ifCond .lt 26, 3) := by decide +kernel
theorem dX10_linked_181 : decode cX10_linked 181 = .ok (.aload_n 0, 1) := by decide +kernel
theorem dX10_linked_182 : decode cX10_linked 182 = .ok (.getfield 65, 3) := by decide +kernel
theorem dX10_linked_185 : decode cX10_linked 185 = .ok (.iload 6, 2) := by decide +kernel
theorem dX10_linked_187 : decode cX10_linked 187 = .ok (.aload_n 0, 1) := by decide +kernel
theorem dX10_linked_188 : decode cX10_linked 188 = .ok (.iload_n 1, 1) := by decide +kernel
theorem dX10_linked_189 : decode cX10_linked 189 = .ok (.iload 7, 2) := by decide +kernel
theorem dX10_linked_191 : decode cX10_linked 191 = .ok (.invokevirtual 97, 3) := by decide +kernel
theorem dX10_linked_194 : decode cX10_linked 194 = .ok (.iastore, 1) := by decide +kernel
theorem dX10_linked_195 : decode cX10_linked 195 = .ok (.aload_n 0, 1) := by decide +kernel
theorem dX10_linked_196 : decode cX10_linked 196 = .ok (.getfield 68, 3) := by decide +kernel
theorem dX10_linked_199 : decode cX10_linked 199 = .ok (.iload 6, 2) := by decide +kernel
theorem dX10_linked_201 : decode cX10_linked 201 = .ok (.iload 8, 2) := by decide +kernel
theorem dX10_linked_203 : decode cX10_linked 203 = .ok (.iastore, 1) := by decide +kernel
theorem dX10_linked_204 : decode cX10_linked 204 = .ok (.aload_n 0, 1) := by decide +kernel
theorem dX10_linked_205 : decode cX10_linked 205 = .ok (.getfield 65, 3) := by decide +kernel
theorem dX10_linked_208 : decode cX10_linked 208 = .ok (.iload 6, 2) := by decide +kernel
theorem dX10_linked_210 : decode cX10_linked 210 = .ok (.iaload, 1) := by decide +kernel
theorem dX10_linked_211 : decode cX10_linked 211 = .ok (.ifCond .le 27, 3) := by decide +kernel
theorem dX10_linked_214 : decode cX10_linked 214 = .ok (.aload_n 0, 1) := by decide +kernel
theorem dX10_linked_215 : decode cX10_linked 215 = .ok (.aload_n 0, 1) := by decide +kernel
theorem dX10_linked_216 : decode cX10_linked 216 = .ok (.getfield 65, 3) := by decide +kernel
theorem dX10_linked_219 : decode cX10_linked 219 = .ok (.iload 6, 2) := by decide +kernel
theorem dX10_linked_221 : decode cX10_linked 221 = .ok (.iaload, 1) := by decide +kernel
theorem dX10_linked_222 : decode cX10_linked 222 = .ok (.putfield 133, 3) := by decide +kernel
theorem dX10_linked_225 : decode cX10_linked 225 = .ok (.aload_n 0, 1) := by decide +kernel
theorem dX10_linked_226 : decode cX10_linked 226 = .ok (.aload_n 0, 1) := by decide +kernel
theorem dX10_linked_227 : decode cX10_linked 227 = .ok (.getfield 68, 3) := by decide +kernel
theorem dX10_linked_230 : decode cX10_linked 230 = .ok (.iload 6, 2) := by decide +kernel
theorem dX10_linked_232 : decode cX10_linked 232 = .ok (.iaload, 1) := by decide +kernel
theorem dX10_linked_233 : decode cX10_linked 233 = .ok (.putfield 136, 3) := by decide +kernel
theorem dX10_linked_236 : decode cX10_linked 236 = .ok (.iconst 1, 1) := by decide +kernel
theorem dX10_linked_237 : decode cX10_linked 237 = .ok (.ireturn, 1) := by decide +kernel
theorem dX10_linked_238 : decode cX10_linked 238 = .ok (.aload_n 0, 1) := by decide +kernel
theorem dX10_linked_239 : decode cX10_linked 239 = .ok (.bipush 12, 2) := by decide +kernel
theorem dX10_linked_241 : decode cX10_linked 241 = .ok (.aload_n 0, 1) := by decide +kernel
theorem dX10_linked_242 : decode cX10_linked 242 = .ok (.getfield 53, 3) := by decide +kernel
theorem dX10_linked_245 : decode cX10_linked 245 = .ok (.iload_n 3, 1) := by decide +kernel
theorem dX10_linked_246 : decode cX10_linked 246 = .ok (.iconst 1, 1) := by decide +kernel
theorem dX10_linked_247 : decode cX10_linked 247 = .ok (.iadd, 1) := by decide +kernel
theorem dX10_linked_248 : decode cX10_linked 248 = .ok (.iaload, 1) := by decide +kernel
theorem dX10_linked_249 : decode cX10_linked 249 = .ok (.iload 4, 2) := by decide +kernel
theorem dX10_linked_251 : decode cX10_linked 251 = .ok (.iload_n 2, 1) := by decide +kernel
theorem dX10_linked_252 : decode cX10_linked 252 = .ok (.invokevirtual 119, 3) := by decide +kernel
theorem dX10_linked_255 : decode cX10_linked 255 = .ok (.ireturn, 1) := by decide +kernel
theorem dX10_address_0 : decode cX10_address 0 = .ok (.bipush 30, 2) := by decide +kernel
theorem dX10_address_2 : decode cX10_address 2 = .ok (.iload_n 1, 1) := by decide +kernel
theorem dX10_address_3 : decode cX10_address 3 = .ok (.imul, 1) := by decide +kernel
theorem dX10_address_4 : decode cX10_address 4 = .ok (.istore_n 3, 1) := by decide +kernel
theorem dX10_address_5 : decode cX10_address 5 = .ok (.iload_n 2, 1) := by decide +kernel
theorem dX10_address_6 : decode cX10_address 6 = .ok (.bipush 24, 2) := by decide +kernel
theorem dX10_address_8 : decode cX10_address 8 = .ok (.ishr, 1) := by decide +kernel
theorem dX10_address_9 : decode cX10_address 9 = .ok (.iconst 3, 1) := by decide +kernel
theorem dX10_address_10 : decode cX10_address 10 = .ok (.iand, 1) := by decide +kernel
theorem dX10_address_11 : decode cX10_address 11 = .ok (.istore 4, 2) := by decide +kernel
theorem dX10_address_13 : decode cX10_address 13 = .ok (.iload_n 2, 1) := by decide +kernel
theorem dX10_address_14 : decode cX10_address 14 = .ok (.i2s, 1) := by decide +kernel
theorem dX10_address_15 : decode cX10_address 15 = .ok (.istore 5, 2) := by decide +kernel
theorem dX10_address_17 : decode cX10_address 17 = .ok (.iload_n 2, 1) := by decide +kernel
theorem dX10_address_18 : decode cX10_address 18 = .ok (.bipush 19, 2) := by decide +kernel
theorem dX10_address_20 : decode cX10_address 20 = .ok (.ishr, 1) := by decide +kernel
theorem dX10_address_21 : decode cX10_address 21 = .ok (.iconst 3, 1) := by decide +kernel
theorem dX10_address_22 : decode cX10_address 22 = .ok (.iand, 1) := by decide +kernel
theorem dX10_address_23 : decode cX10_address 23 = .ok (.istore 6, 2) := by decide +kernel
theorem dX10_address_25 : decode cX10_address 25 = .ok (.iload_n 2, 1) := by decide +kernel
theorem dX10_address_26 : decode cX10_address 26 = .ok (.bipush 21, 2) := by decide +kernel
theorem dX10_address_28 : decode cX10_address 28 = .ok (.ishr, 1) := by decide +kernel
theorem dX10_address_29 : decode cX10_address 29 = .ok (.bipush 7, 2) := by decide +kernel
theorem dX10_address_31 : decode cX10_address 31 = .ok (.iand, 1) := by decide +kernel
theorem dX10_address_32 : decode cX10_address 32 = .ok (.istore 7, 2) := by decide +kernel
theorem dX10_address_34 : decode cX10_address 34 = .ok (.iload_n 2, 1) := by decide +kernel
theorem dX10_address_35 : decode cX10_address 35 = .ok (.bipush 26, 2) := by decide +kernel
theorem dX10_address_37 : decode cX10_address 37 = .ok (.ishr, 1) := by decide +kernel
theorem dX10_address_38 : decode cX10_address 38 = .ok (.iconst 1, 1) := by decide +kernel
theorem dX10_address_39 : decode cX10_address 39 = .ok (.iand, 1) := by decide +kernel
theorem dX10_address_40 : decode cX10_address 40 = .ok (.iconst 1, 1) := by decide +kernel
theorem dX10_address_41 : decode cX10_address 41 = .ok (.if_icmp .ne 7, 3) := by decide +kernel
theorem dX10_address_44 : decode cX10_address 44 = .ok (.iconst 1, 1) := by decide +kernel
theorem dX10_address_45 : decode cX10_address 45 = .ok (.goto 4, 3) := by decide +kernel
theorem dX10_address_48 : decode cX10_address 48 = .ok (.iconst 0, 1) := by decide +kernel
theorem dX10_address_49 : decode cX10_address 49 = .ok (.istore 8, 2) := by decide +kernel
theorem dX10_address_51 : decode cX10_address 51 = .ok (.aload_n 0, 1) := by decide +kernel
theorem dX10_address_52 : decode cX10_address 52 = .ok (.aload_n 0, 1) := by decide +kernel
theorem dX10_address_53 : decode cX10_address 53 = .ok (.getfield 53, 3) := by decide +kernel
theorem dX10_address_56 : decode cX10_address 56 = .ok (.iload_n 3, 1) := by decide +kernel
theorem dX10_address_57 : decode cX10_address 57 = .ok (.iconst 1, 1) := by decide +kernel
theorem dX10_address_58 : decode cX10_address 58 = .ok (.iadd, 1) := by decide +kernel
theorem dX10_address_59 : decode cX10_address 59 = .ok (.iaload, 1) := by decide +kernel
theorem dX10_address_60 : decode cX10_address 60 = .ok (.putfield 139, 3) := by decide +kernel
theorem dX10_address_63 : decode cX10_address 63 = .ok (.iload 4, 2) := by decide +kernel
theorem dX10_address_65 : decode cX10_address 65 = .ok (.iconst 3, 1) := by decide +kernel
theorem dX10_address_66 : decode cX10_address 66 = .ok (.if_icmp .ne 45, 3) := by decide +kernel
theorem dX10_address_69 : decode cX10_address 69 = .ok (.iload 8, 2) := by decide +kernel
theorem dX10_address_71 : decode cX10_address 71 = .ok (.ifCond .eq 11, 3) := by decide +kernel
theorem dX10_address_74 : decode cX10_address 74 = .ok (.aload_n 0, 1) := by decide +kernel
theorem dX10_address_75 : decode cX10_address 75 = .ok (.iload_n 1, 1) := by decide +kernel
theorem dX10_address_76 : decode cX10_address 76 = .ok (.bipush 13, 2) := by decide +kernel
theorem dX10_address_78 : decode cX10_address 78 = .ok (.invokevirtual 142, 3) := by decide +kernel
theorem dX10_address_81 : decode cX10_address 81 = .ok (.ireturn, 1) := by decide +kernel
theorem dX10_address_82 : decode cX10_address 82 = .ok (.aload_n 0, 1) := by decide +kernel
theorem dX10_address_83 : decode cX10_address 83 = .ok (.iload 5, 2) := by decide +kernel
theorem dX10_address_85 : decode cX10_address 85 = .ok (.iload 6, 2) := by decide +kernel
theorem dX10_address_87 : decode cX10_address 87 = .ok (.ifCond .ne 7, 3) := by decide +kernel
theorem dX10_address_90 : decode cX10_address 90 = .ok (.iconst 0, 1) := by decide +kernel
theorem dX10_address_91 : decode cX10_address 91 = .ok (.goto 14, 3) := by decide +kernel
theorem dX10_address_94 : decode cX10_address 94 = .ok (.aload_n 0, 1) := by decide +kernel
theorem dX10_address_95 : decode cX10_address 95 = .ok (.getfield 53, 3) := by decide +kernel
theorem dX10_address_98 : decode cX10_address 98 = .ok (.iload_n 3, 1) := by decide +kernel
theorem dX10_address_99 : decode cX10_address 99 = .ok (.iconst 4, 1) := by decide +kernel
theorem dX10_address_100 : decode cX10_address 100 = .ok (.iadd, 1) := by decide +kernel
theorem dX10_address_101 : decode cX10_address 101 = .ok (.iload 6, 2) := by decide +kernel
theorem dX10_address_103 : decode cX10_address 103 = .ok (.iadd, 1) := by decide +kernel
theorem dX10_address_104 : decode cX10_address 104 = .ok (.iaload, 1) := by decide +kernel
theorem dX10_address_105 : decode cX10_address 105 = .ok (.iadd, 1) := by decide +kernel
theorem dX10_address_106 : decode cX10_address 106 = .ok (.putfield 136, 3) := by decide +kernel
theorem dX10_address_109 : decode cX10_address 109 = .ok (.iconst 1, 1) := by decide +kernel
theorem dX10_address_110 : decode cX10_address 110 = .ok (.ireturn, 1) := by decide +kernel
theorem dX10_address_111 : decode cX10_address 111 = .ok (.iload 4, 2) := by decide +kernel
theorem dX10_address_113 : decode cX10_address 113 = .ok (.ifCond .ne 24, 3) := by decide +kernel
theorem dX10_address_116 : decode cX10_address 116 = .ok (.aload_n 0, 1) := by decide +kernel
theorem dX10_address_117 : decode cX10_address 117 = .ok (.aload_n 0, 1) := by decide +kernel
theorem dX10_address_118 : decode cX10_address 118 = .ok (.getfield 53, 3) := by decide +kernel
theorem dX10_address_121 : decode cX10_address 121 = .ok (.iload_n 3, 1) := by decide +kernel
theorem dX10_address_122 : decode cX10_address 122 = .ok (.iconst 2, 1) := by decide +kernel
theorem dX10_address_123 : decode cX10_address 123 = .ok (.iadd, 1) := by decide +kernel
theorem dX10_address_124 : decode cX10_address 124 = .ok (.iaload, 1) := by decide +kernel
theorem dX10_address_125 : decode cX10_address 125 = .ok (.putfield 133, 3) := by decide +kernel
theorem dX10_address_128 : decode cX10_address 128 = .ok (.aload_n 0, 1) := by decide +kernel
theorem dX10_address_129 : decode cX10_address 129 = .ok (.iload 5, 2) := by decide +kernel
theorem dX10_address_131 : decode cX10_address 131 = .ok (.putfield 136, 3) := by decide +kernel
theorem dX10_address_134 : decode cX10_address 134 = .ok (.goto 96, 3) := by decide +kernel
theorem dX10_address_137 : decode cX10_address 137 = .ok (.iload 4, 2) := by decide +kernel
theorem dX10_address_139 : decode cX10_address 139 = .ok (.iconst 1, 1) := by decide +kernel
theorem dX10_address_140 : decode cX10_address 140 = .ok (.if_icmp .ne 78, 3) := by decide +kernel
theorem dX10_address_143 : decode cX10_address 143 = .ok (.bipush 24, 2) := by decide +kernel
theorem dX10_address_145 : decode cX10_address 145 = .ok (.iload_n 1, 1) := by decide +kernel
theorem dX10_address_146 : decode cX10_address 146 = .ok (.imul, 1) := by decide +kernel
theorem dX10_address_147 : decode cX10_address 147 = .ok (.iconst 3, 1) := by decide +kernel
theorem dX10_address_148 : decode cX10_address 148 = .ok (.iload 7, 2) := by decide +kernel
theorem dX10_address_150 : decode cX10_address 150 = .ok (.imul, 1) := by decide +kernel
theorem dX10_address_151 : decode cX10_address 151 = .ok (.iadd, 1) := by decide +kernel
theorem dX10_address_152 : decode cX10_address 152 = .ok (.istore 9, 2) := by decide +kernel
theorem dX10_address_154 : decode cX10_address 154 = .ok (.aload_n 0, 1) := by decide +kernel
theorem dX10_address_155 : decode cX10_address 155 = .ok (.aload_n 0, 1) := by decide +kernel
theorem dX10_address_156 : decode cX10_address 156 = .ok (.getfield 56, 3) := by decide +kernel
theorem dX10_address_159 : decode cX10_address 159 = .ok (.iload 9, 2) := by decide +kernel
theorem dX10_address_161 : decode cX10_address 161 = .ok (.iconst 1, 1) := by decide +kernel
theorem dX10_address_162 : decode cX10_address 162 = .ok (.iadd, 1) := by decide +kernel
theorem dX10_address_163 : decode cX10_address 163 = .ok (.iaload, 1) := by decide +kernel
theorem dX10_address_164 : decode cX10_address 164 = .ok (.putfield 133, 3) := by decide +kernel
theorem dX10_address_167 : decode cX10_address 167 = .ok (.aload_n 0, 1) := by decide +kernel
theorem dX10_address_168 : decode cX10_address 168 = .ok (.aload_n 0, 1) := by decide +kernel
theorem dX10_address_169 : decode cX10_address 169 = .ok (.getfield 56, 3) := by decide +kernel
theorem dX10_address_172 : decode cX10_address 172 = .ok (.iload 9, 2) := by decide +kernel
theorem dX10_address_174 : decode cX10_address 174 = .ok (.iconst 2, 1) := by decide +kernel
