theorem dX5_obey_260 : decode cX5_obey 260 = .ok (.ireturn, 1) := by decide +kernel
theorem dX5_obey_261 : decode cX5_obey 261 = .ok (.aload_n 0, 1) := by decide +kernel
theorem dX5_obey_262 : decode cX5_obey 262 = .ok (.aload_n 1, 1) := by decide +kernel
theorem dX5_obey_263 : decode cX5_obey 263 = .ok (.iconst 1, 1) := by decide +kernel
theorem dX5_obey_264 : decode cX5_obey 264 = .ok (.invokevirtual 246, 3) := by decide +kernel
theorem dX5_obey_267 : decode cX5_obey 267 = .ok (.ireturn, 1) := by decide +kernel
theorem dX5_obey_268 : decode cX5_obey 268 = .ok (.aload_n 0, 1) := by decide +kernel
theorem dX5_obey_269 : decode cX5_obey 269 = .ok (.aload_n 1, 1) := by decide +kernel
theorem dX5_obey_270 : decode cX5_obey 270 = .ok (.invokevirtual 249, 3) := by decide +kernel
theorem dX5_obey_273 : decode cX5_obey 273 = .ok (.ireturn, 1) := by decide +kernel
theorem dX5_obey_274 : decode cX5_obey 274 = .ok (.aload_n 0, 1) := by decide +kernel
theorem dX5_obey_275 : decode cX5_obey 275 = .ok (.aload_n 1, 1) := by decide +kernel
theorem dX5_obey_276 : decode cX5_obey 276 = .ok (.invokevirtual 252, 3) := by decide +kernel
theorem dX5_obey_279 : decode cX5_obey 279 = .ok (.ireturn, 1) := by decide +kernel
theorem dX5_obey_280 : decode cX5_obey 280 = .ok (.aload_n 0, 1) := by decide +kernel
theorem dX5_obey_281 : decode cX5_obey 281 = .ok (.aload_n 1, 1) := by decide +kernel
theorem dX5_obey_282 : decode cX5_obey 282 = .ok (.invokevirtual 255, 3) := by decide +kernel
theorem dX5_obey_285 : decode cX5_obey 285 = .ok (.ireturn, 1) := by decide +kernel
theorem dX5_halt_0 : decode cX5_halt 0 = .ok (.aload_n 1, 1) := by decide +kernel
theorem dX5_halt_1 : decode cX5_halt 1 = .ok (.iconst 2, 1) := by decide +kernel
theorem dX5_halt_2 : decode cX5_halt 2 = .ok (.putfield 258, 3) := by decide +kernel
theorem dX5_halt_5 : decode cX5_halt 5 = .ok (.aload_n 0, 1) := by decide +kernel
theorem dX5_halt_6 : decode cX5_halt 6 = .ok (.getfield 25, 3) := by decide +kernel
theorem dX5_halt_9 : decode cX5_halt 9 = .ok (.aload_n 1, 1) := by decide +kernel
theorem dX5_halt_10 : decode cX5_halt 10 = .ok (.getfield 42, 3) := by decide +kernel
theorem dX5_halt_13 : decode cX5_halt 13 = .ok (.getfield 46, 3) := by decide +kernel
theorem dX5_halt_16 : decode cX5_halt 16 = .ok (.invokevirtual 78, 3) := by decide +kernel
theorem dX5_halt_19 : decode cX5_halt 19 = .ok (.iconst 0, 1) := by decide +kernel
theorem dX5_halt_20 : decode cX5_halt 20 = .ok (.ireturn, 1) := by decide +kernel
theorem dX5_write_0 : decode cX5_write 0 = .ok (.aload_n 0, 1) := by decide +kernel
theorem dX5_write_1 : decode cX5_write 1 = .ok (.aload_n 1, 1) := by decide +kernel
theorem dX5_write_2 : decode cX5_write 2 = .ok (.iconst 1, 1) := by decide +kernel
theorem dX5_write_3 : decode cX5_write 3 = .ok (.invokevirtual 86, 3) := by decide +kernel
theorem dX5_write_6 : decode cX5_write 6 = .ok (.istore_n 3, 1) := by decide +kernel
theorem dX5_write_7 : decode cX5_write 7 = .ok (.aload_n 1, 1) := by decide +kernel
theorem dX5_write_8 : decode cX5_write 8 = .ok (.aload_n 0, 1) := by decide +kernel
theorem dX5_write_9 : decode cX5_write 9 = .ok (.getfield 21, 3) := by decide +kernel
theorem dX5_write_12 : decode cX5_write 12 = .ok (.getfield 54, 3) := by decide +kernel
theorem dX5_write_15 : decode cX5_write 15 = .ok (.invokevirtual 100, 3) := by decide +kernel
theorem dX5_write_18 : decode cX5_write 18 = .ok (.astore 4, 2) := by decide +kernel
theorem dX5_write_20 : decode cX5_write 20 = .ok (.iload_n 3, 1) := by decide +kernel
theorem dX5_write_21 : decode cX5_write 21 = .ok (.ifCond .ne 22, 3) := by decide +kernel
theorem dX5_write_24 : decode cX5_write 24 = .ok (.aload 4, 2) := by decide +kernel
theorem dX5_write_26 : decode cX5_write 26 = .ok (.ifnull 17, 3) := by decide +kernel
theorem dX5_write_29 : decode cX5_write 29 = .ok (.aload 4, 2) := by decide +kernel
theorem dX5_write_31 : decode cX5_write 31 = .ok (.aload_n 0, 1) := by decide +kernel
theorem dX5_write_32 : decode cX5_write 32 = .ok (.getfield 21, 3) := by decide +kernel
theorem dX5_write_35 : decode cX5_write 35 = .ok (.getfield 57, 3) := by decide +kernel
theorem dX5_write_38 : decode cX5_write 38 = .ok (.iload_n 2, 1) := by decide +kernel
theorem dX5_write_39 : decode cX5_write 39 = .ok (.invokevirtual 261, 3) := by decide +kernel
theorem dX5_write_42 : decode cX5_write 42 = .ok (.pop, 1) := by decide +kernel
theorem dX5_write_43 : decode cX5_write 43 = .ok (.iload_n 3, 1) := by decide +kernel
theorem dX5_write_44 : decode cX5_write 44 = .ok (.ireturn, 1) := by decide +kernel
theorem dX5_takeOperand_0 : decode cX5_takeOperand 0 = .ok (.aload_n 0, 1) := by decide +kernel
theorem dX5_takeOperand_1 : decode cX5_takeOperand 1 = .ok (.getfield 12, 3) := by decide +kernel
theorem dX5_takeOperand_4 : decode cX5_takeOperand 4 = .ok (.getfield 121, 3) := by decide +kernel
theorem dX5_takeOperand_7 : decode cX5_takeOperand 7 = .ok (.iconst 3, 1) := by decide +kernel
theorem dX5_takeOperand_8 : decode cX5_takeOperand 8 = .ok (.if_icmp .ne 20, 3) := by decide +kernel
theorem dX5_takeOperand_11 : decode cX5_takeOperand 11 = .ok (.aload_n 0, 1) := by decide +kernel
theorem dX5_takeOperand_12 : decode cX5_takeOperand 12 = .ok (.aload_n 1, 1) := by decide +kernel
theorem dX5_takeOperand_13 : decode cX5_takeOperand 13 = .ok (.getfield 42, 3) := by decide +kernel
theorem dX5_takeOperand_16 : decode cX5_takeOperand 16 = .ok (.aload_n 0, 1) := by decide +kernel
theorem dX5_takeOperand_17 : decode cX5_takeOperand 17 = .ok (.getfield 21, 3) := by decide +kernel
theorem dX5_takeOperand_20 : decode cX5_takeOperand 20 = .ok (.getfield 57, 3) := by decide +kernel
theorem dX5_takeOperand_23 : decode cX5_takeOperand 23 = .ok (.invokevirtual 263, 3) := by decide +kernel
theorem dX5_takeOperand_26 : decode cX5_takeOperand 26 = .ok (.iconst 0, 1) := by decide +kernel
theorem dX5_takeOperand_27 : decode cX5_takeOperand 27 = .ok (.ireturn, 1) := by decide +kernel
theorem dX5_takeOperand_28 : decode cX5_takeOperand 28 = .ok (.aload_n 0, 1) := by decide +kernel
theorem dX5_takeOperand_29 : decode cX5_takeOperand 29 = .ok (.aload_n 1, 1) := by decide +kernel
theorem dX5_takeOperand_30 : decode cX5_takeOperand 30 = .ok (.iconst 0, 1) := by decide +kernel
theorem dX5_takeOperand_31 : decode cX5_takeOperand 31 = .ok (.invokevirtual 86, 3) := by decide +kernel
theorem dX5_takeOperand_34 : decode cX5_takeOperand 34 = .ok (.istore_n 2, 1) := by decide +kernel
theorem dX5_takeOperand_35 : decode cX5_takeOperand 35 = .ok (.iload_n 2, 1) := by decide +kernel
theorem dX5_takeOperand_36 : decode cX5_takeOperand 36 = .ok (.ifCond .ne 16, 3) := by decide +kernel
theorem dX5_takeOperand_39 : decode cX5_takeOperand 39 = .ok (.aload_n 0, 1) := by decide +kernel
theorem dX5_takeOperand_40 : decode cX5_takeOperand 40 = .ok (.aload_n 1, 1) := by decide +kernel
theorem dX5_takeOperand_41 : decode cX5_takeOperand 41 = .ok (.getfield 42, 3) := by decide +kernel
theorem dX5_takeOperand_44 : decode cX5_takeOperand 44 = .ok (.aload_n 0, 1) := by decide +kernel
theorem dX5_takeOperand_45 : decode cX5_takeOperand 45 = .ok (.aload_n 1, 1) := by decide +kernel
theorem dX5_takeOperand_46 : decode cX5_takeOperand 46 = .ok (.invokevirtual 90, 3) := by decide +kernel
theorem dX5_takeOperand_49 : decode cX5_takeOperand 49 = .ok (.invokevirtual 263, 3) := by decide +kernel
theorem dX5_takeOperand_52 : decode cX5_takeOperand 52 = .ok (.iload_n 2, 1) := by decide +kernel
theorem dX5_takeOperand_53 : decode cX5_takeOperand 53 = .ok (.ireturn, 1) := by decide +kernel
theorem dX5_useOperand_0 : decode cX5_useOperand 0 = .ok (.aload_n 0, 1) := by decide +kernel
theorem dX5_useOperand_1 : decode cX5_useOperand 1 = .ok (.getfield 12, 3) := by decide +kernel
theorem dX5_useOperand_4 : decode cX5_useOperand 4 = .ok (.getfield 209, 3) := by decide +kernel
theorem dX5_useOperand_7 : decode cX5_useOperand 7 = .ok (.tableswitch 207 1 15 #[73, 207, 81, 94, 107, 120, 133, 146, 159, 207, 207, 207, 207, 207, 191], 73) := by decide +kernel
theorem dX5_useOperand_80 : decode cX5_useOperand 80 = .ok (.aload_n 1, 1) := by decide +kernel
theorem dX5_useOperand_81 : decode cX5_useOperand 81 = .ok (.iload_n 2, 1) := by decide +kernel
theorem dX5_useOperand_82 : decode cX5_useOperand 82 = .ok (.putfield 215, 3) := by decide +kernel
theorem dX5_useOperand_85 : decode cX5_useOperand 85 = .ok (.goto 129, 3) := by decide +kernel
theorem dX5_useOperand_88 : decode cX5_useOperand 88 = .ok (.aload_n 1, 1) := by decide +kernel
theorem dX5_useOperand_89 : decode cX5_useOperand 89 = .ok (.dup, 1) := by decide +kernel
theorem dX5_useOperand_90 : decode cX5_useOperand 90 = .ok (.getfield 215, 3) := by decide +kernel
theorem dX5_useOperand_93 : decode cX5_useOperand 93 = .ok (.iload_n 2, 1) := by decide +kernel
theorem dX5_useOperand_94 : decode cX5_useOperand 94 = .ok (.iadd, 1) := by decide +kernel
theorem dX5_useOperand_95 : decode cX5_useOperand 95 = .ok (.putfield 215, 3) := by decide +kernel
theorem dX5_useOperand_98 : decode cX5_useOperand 98 = .ok (.goto 116, 3) := by decide +kernel
theorem dX5_useOperand_101 : decode cX5_useOperand 101 = .ok (.aload_n 1, 1) := by decide +kernel
theorem dX5_useOperand_102 : decode cX5_useOperand 102 = .ok (.dup, 1) := by decide +kernel
theorem dX5_useOperand_103 : decode cX5_useOperand 103 = .ok (.getfield 215, 3) := by decide +kernel
theorem dX5_useOperand_106 : decode cX5_useOperand 106 = .ok (.iload_n 2, 1) := by decide +kernel
theorem dX5_useOperand_107 : decode cX5_useOperand 107 = .ok (.isub, 1) := by decide +kernel
theorem dX5_useOperand_108 : decode cX5_useOperand 108 = .ok (.putfield 215, 3) := by decide +kernel
theorem dX5_useOperand_111 : decode cX5_useOperand 111 = .ok (.goto 103, 3) := by decide +kernel
theorem dX5_useOperand_114 : decode cX5_useOperand 114 = .ok (.aload_n 1, 1) := by decide +kernel
theorem dX5_useOperand_115 : decode cX5_useOperand 115 = .ok (.dup, 1) := by decide +kernel
theorem dX5_useOperand_116 : decode cX5_useOperand 116 = .ok (.getfield 215, 3) := by decide +kernel
theorem dX5_useOperand_119 : decode cX5_useOperand 119 = .ok (.iload_n 2, 1) := by decide +kernel
theorem dX5_useOperand_120 : decode cX5_useOperand 120 = .ok (.imul, 1) := by decide +kernel
theorem dX5_useOperand_121 : decode cX5_useOperand 121 = .ok (.putfield 215, 3) := by decide +kernel
theorem dX5_useOperand_124 : decode cX5_useOperand 124 = .ok (.goto 90, 3) := by decide +kernel
theorem dX5_useOperand_127 : decode cX5_useOperand 127 = .ok (.aload_n 1, 1) := by decide +kernel
theorem dX5_useOperand_128 : decode cX5_useOperand 128 = .ok (.dup, 1) := by decide +kernel
theorem dX5_useOperand_129 : decode cX5_useOperand 129 = .ok (.getfield 215, 3) := by decide +kernel
theorem dX5_useOperand_132 : decode cX5_useOperand 132 = .ok (.iload_n 2, 1) := by decide +kernel
theorem dX5_useOperand_133 : decode cX5_useOperand 133 = .ok (.iand, 1) := by decide +kernel
theorem dX5_useOperand_134 : decode cX5_useOperand 134 = .ok (.putfield 215, 3) := by decide +kernel
theorem dX5_useOperand_137 : decode cX5_useOperand 137 = .ok (.goto 77, 3) := by decide +kernel
theorem dX5_useOperand_140 : decode cX5_useOperand 140 = .ok (.aload_n 1, 1) := by decide +kernel
theorem dX5_useOperand_141 : decode cX5_useOperand 141 = .ok (.dup, 1) := by decide +kernel
theorem dX5_useOperand_142 : decode cX5_useOperand 142 = .ok (.getfield 215, 3) := by decide +kernel
theorem dX5_useOperand_145 : decode cX5_useOperand 145 = .ok (.iload_n 2, 1) := by decide +kernel
theorem dX5_useOperand_146 : decode cX5_useOperand 146 = .ok (.ior, 1) := by decide +kernel
theorem dX5_useOperand_147 : decode cX5_useOperand 147 = .ok (.putfield 215, 3) := by decide +kernel
theorem dX5_useOperand_150 : decode cX5_useOperand 150 = .ok (.goto 64, 3) := by decide +kernel
theorem dX5_useOperand_153 : decode cX5_useOperand 153 = .ok (.aload_n 1, 1) := by decide +kernel
theorem dX5_useOperand_154 : decode cX5_useOperand 154 = .ok (.dup, 1) := by decide +kernel
theorem dX5_useOperand_155 : decode cX5_useOperand 155 = .ok (.getfield 215, 3) := by decide +kernel
theorem dX5_useOperand_158 : decode cX5_useOperand 158 = .ok (.iload_n 2, 1) := by decide +kernel
theorem dX5_useOperand_159 : decode cX5_useOperand 159 = .ok (.ixor, 1) := by decide +kernel
theorem dX5_useOperand_160 : decode cX5_useOperand 160 = .ok (.putfield 215, 3) := by decide +kernel
theorem dX5_useOperand_163 : decode cX5_useOperand 163 = .ok (.goto 51, 3) := by decide +kernel
theorem dX5_useOperand_166 : decode cX5_useOperand 166 = .ok (.aload_n 1, 1) := by decide +kernel
theorem dX5_useOperand_167 : decode cX5_useOperand 167 = .ok (.aload_n 1, 1) := by decide +kernel
theorem dX5_useOperand_168 : decode cX5_useOperand 168 = .ok (.getfield 215, 3) := by decide +kernel
theorem dX5_useOperand_171 : decode cX5_useOperand 171 = .ok (.iload_n 2, 1) := by decide +kernel
theorem dX5_useOperand_172 : decode cX5_useOperand 172 = .ok (.if_icmp .ge 7, 3) := by decide +kernel
theorem dX5_useOperand_175 : decode cX5_useOperand 175 = .ok (.iconst (-1), 1) := by decide +kernel
theorem dX5_useOperand_176 : decode cX5_useOperand 176 = .ok (.goto 16, 3) := by decide +kernel
theorem dX5_useOperand_179 : decode cX5_useOperand 179 = .ok (.aload_n 1, 1) := by decide +kernel
theorem dX5_useOperand_180 : decode cX5_useOperand 180 = .ok (.getfield 215, 3) := by decide +kernel
theorem dX5_useOperand_183 : decode cX5_useOperand 183 = .ok (.iload_n 2, 1) := by decide +kernel
theorem dX5_useOperand_184 : decode cX5_useOperand 184 = .ok (.if_icmp .le 7, 3) := by decide +kernel
theorem dX5_useOperand_187 : decode cX5_useOperand 187 = .ok (.iconst 1, 1) := by decide +kernel
theorem dX5_useOperand_188 : decode cX5_useOperand 188 = .ok (.goto 4, 3) := by decide +kernel
theorem dX5_useOperand_191 : decode cX5_useOperand 191 = .ok (.iconst 0, 1) := by decide +kernel
theorem dX5_useOperand_192 : decode cX5_useOperand 192 = .ok (.putfield 228, 3) := by decide +kernel
theorem dX5_useOperand_195 : decode cX5_useOperand 195 = .ok (.goto 19, 3) := by decide +kernel
theorem dX5_useOperand_198 : decode cX5_useOperand 198 = .ok (.aload_n 1, 1) := by decide +kernel
theorem dX5_useOperand_199 : decode cX5_useOperand 199 = .ok (.getfield 144, 3) := by decide +kernel
theorem dX5_useOperand_202 : decode cX5_useOperand 202 = .ok (.aload_n 0, 1) := by decide +kernel
theorem dX5_useOperand_203 : decode cX5_useOperand 203 = .ok (.getfield 12, 3) := by decide +kernel
theorem dX5_useOperand_206 : decode cX5_useOperand 206 = .ok (.getfield 221, 3) := by decide +kernel
theorem dX5_useOperand_209 : decode cX5_useOperand 209 = .ok (.iload_n 2, 1) := by decide +kernel
theorem dX5_useOperand_210 : decode cX5_useOperand 210 = .ok (.iastore, 1) := by decide +kernel
theorem dX5_useOperand_211 : decode cX5_useOperand 211 = .ok (.goto 3, 3) := by decide +kernel
theorem dX5_useOperand_214 : decode cX5_useOperand 214 = .ok (.return_, 1) := by decide +kernel
theorem dX5_goes_0 : decode cX5_goes 0 = .ok (.aload_n 0, 1) := by decide +kernel
theorem dX5_goes_1 : decode cX5_goes 1 = .ok (.getfield 12, 3) := by decide +kernel
theorem dX5_goes_4 : decode cX5_goes 4 = .ok (.getfield 209, 3) := by decide +kernel
theorem dX5_goes_7 : decode cX5_goes 7 = .ok (.tableswitch 71 11 14 #[29, 39, 49, 60], 29) := by decide +kernel
theorem dX5_goes_36 : decode cX5_goes 36 = .ok (.iload_n 1, 1) := by decide +kernel
theorem dX5_goes_37 : decode cX5_goes 37 = .ok (.ifCond .ne 7, 3) := by decide +kernel
theorem dX5_goes_40 : decode cX5_goes 40 = .ok (.iconst 1, 1) := by decide +kernel
theorem dX5_goes_41 : decode cX5_goes 41 = .ok (.goto 4, 3) := by decide +kernel
theorem dX5_goes_44 : decode cX5_goes 44 = .ok (.iconst 0, 1) := by decide +kernel
theorem dX5_goes_45 : decode cX5_goes 45 = .ok (.ireturn, 1) := by decide +kernel
theorem dX5_goes_46 : decode cX5_goes 46 = .ok (.iload_n 1, 1) := by decide +kernel
theorem dX5_goes_47 : decode cX5_goes 47 = .ok (.ifCond .eq 7, 3) := by decide +kernel
theorem dX5_goes_50 : decode cX5_goes 50 = .ok (.iconst 1, 1) := by decide +kernel
theorem dX5_goes_51 : decode cX5_goes 51 = .ok (.goto 4, 3) := by decide +kernel
theorem dX5_goes_54 : decode cX5_goes 54 = .ok (.iconst 0, 1) := by decide +kernel
theorem dX5_goes_55 : decode cX5_goes 55 = .ok (.ireturn, 1) := by decide +kernel
theorem dX5_goes_56 : decode cX5_goes 56 = .ok (.iload_n 1, 1) := by decide +kernel
theorem dX5_goes_57 : decode cX5_goes 57 = .ok (.iconst (-1), 1) := by decide +kernel
theorem dX5_goes_58 : decode cX5_goes 58 = .ok (.if_icmp .ne 7, 3) := by decide +kernel
theorem dX5_goes_61 : decode cX5_goes 61 = .ok (.iconst 1, 1) := by decide +kernel
theorem dX5_goes_62 : decode cX5_goes 62 = .ok (.goto 4, 3) := by decide +kernel
theorem dX5_goes_65 : decode cX5_goes 65 = .ok (.iconst 0, 1) := by decide +kernel
theorem dX5_goes_66 : decode cX5_goes 66 = .ok (.ireturn, 1) := by decide +kernel
theorem dX5_goes_67 : decode cX5_goes 67 = .ok (.iload_n 1, 1) := by decide +kernel
theorem dX5_goes_68 : decode cX5_goes 68 = .ok (.iconst (-1), 1) := by decide +kernel
theorem dX5_goes_69 : decode cX5_goes 69 = .ok (.if_icmp .eq 7, 3) := by decide +kernel
theorem dX5_goes_72 : decode cX5_goes 72 = .ok (.iconst 1, 1) := by decide +kernel
theorem dX5_goes_73 : decode cX5_goes 73 = .ok (.goto 4, 3) := by decide +kernel
theorem dX5_goes_76 : decode cX5_goes 76 = .ok (.iconst 0, 1) := by decide +kernel
theorem dX5_goes_77 : decode cX5_goes 77 = .ok (.ireturn, 1) := by decide +kernel
theorem dX5_goes_78 : decode cX5_goes 78 = .ok (.iconst 1, 1) := by decide +kernel
theorem dX5_goes_79 : decode cX5_goes 79 = .ok (.ireturn, 1) := by decide +kernel
theorem dX5_go_0 : decode cX5_go 0 = .ok (.aload_n 0, 1) := by decide +kernel
theorem dX5_go_1 : decode cX5_go 1 = .ok (.aload_n 1, 1) := by decide +kernel
theorem dX5_go_2 : decode cX5_go 2 = .ok (.iconst 2, 1) := by decide +kernel
theorem dX5_go_3 : decode cX5_go 3 = .ok (.invokevirtual 86, 3) := by decide +kernel
theorem dX5_go_6 : decode cX5_go 6 = .ok (.istore_n 2, 1) := by decide +kernel
theorem dX5_go_7 : decode cX5_go 7 = .ok (.iload_n 2, 1) := by decide +kernel
theorem dX5_go_8 : decode cX5_go 8 = .ok (.ifCond .eq 5, 3) := by decide +kernel
theorem dX5_go_11 : decode cX5_go 11 = .ok (.iload_n 2, 1) := by decide +kernel
theorem dX5_go_12 : decode cX5_go 12 = .ok (.ireturn, 1) := by decide +kernel
theorem dX5_go_13 : decode cX5_go 13 = .ok (.aload_n 0, 1) := by decide +kernel
theorem dX5_go_14 : decode cX5_go 14 = .ok (.getfield 21, 3) := by decide +kernel
theorem dX5_go_17 : decode cX5_go 17 = .ok (.getfield 51, 3) := by decide +kernel
theorem dX5_go_20 : decode cX5_go 20 = .ok (.aload_n 1, 1) := by decide +kernel
theorem dX5_go_21 : decode cX5_go 21 = .ok (.getfield 42, 3) := by decide +kernel
theorem dX5_go_24 : decode cX5_go 24 = .ok (.getfield 46, 3) := by decide +kernel
theorem dX5_go_27 : decode cX5_go 27 = .ok (.getfield 51, 3) := by decide +kernel
theorem dX5_go_30 : decode cX5_go 30 = .ok (.if_icmp .eq 6, 3) := by decide +kernel
theorem dX5_go_33 : decode cX5_go 33 = .ok (.bipush 9, 2) := by decide +kernel
theorem dX5_go_35 : decode cX5_go 35 = .ok (.ireturn, 1) := by decide +kernel
theorem dX5_go_36 : decode cX5_go 36 = .ok (.aload_n 0, 1) := by decide +kernel
theorem dX5_go_37 : decode cX5_go 37 = .ok (.getfield 25, 3) := by decide +kernel
theorem dX5_go_40 : decode cX5_go 40 = .ok (.aload_n 0, 1) := by decide +kernel
theorem dX5_go_41 : decode cX5_go 41 = .ok (.getfield 21, 3) := by decide +kernel
theorem dX5_go_44 : decode cX5_go 44 = .ok (.invokevirtual 78, 3) := by decide +kernel
theorem dX5_go_47 : decode cX5_go 47 = .ok (.iconst 0, 1) := by decide +kernel
theorem dX5_go_48 : decode cX5_go 48 = .ok (.ireturn, 1) := by decide +kernel
theorem dX5_point_0 : decode cX5_point 0 = .ok (.aload_n 0, 1) := by decide +kernel
theorem dX5_point_1 : decode cX5_point 1 = .ok (.getfield 21, 3) := by decide +kernel
theorem dX5_point_4 : decode cX5_point 4 = .ok (.getfield 57, 3) := by decide +kernel
theorem dX5_point_7 : decode cX5_point 7 = .ok (.invokestatic 267, 3) := by decide +kernel
theorem dX5_point_10 : decode cX5_point 10 = .ok (.ifCond .ne 5, 3) := by decide +kernel
theorem dX5_point_13 : decode cX5_point 13 = .ok (.iconst 2, 1) := by decide +kernel
theorem dX5_point_14 : decode cX5_point 14 = .ok (.ireturn, 1) := by decide +kernel
theorem dX5_point_15 : decode cX5_point 15 = .ok (.aload_n 1, 1) := by decide +kernel
theorem dX5_point_16 : decode cX5_point 16 = .ok (.getfield 42, 3) := by decide +kernel
theorem dX5_point_19 : decode cX5_point 19 = .ok (.getfield 124, 3) := by decide +kernel
theorem dX5_point_22 : decode cX5_point 22 = .ok (.aload_n 0, 1) := by decide +kernel
theorem dX5_point_23 : decode cX5_point 23 = .ok (.getfield 12, 3) := by decide +kernel
theorem dX5_point_26 : decode cX5_point 26 = .ok (.getfield 221, 3) := by decide +kernel
theorem dX5_point_29 : decode cX5_point 29 = .ok (.aaload, 1) := by decide +kernel
theorem dX5_point_30 : decode cX5_point 30 = .ok (.aload_n 0, 1) := by decide +kernel
theorem dX5_point_31 : decode cX5_point 31 = .ok (.getfield 21, 3) := by decide +kernel
theorem dX5_point_34 : decode cX5_point 34 = .ok (.invokevirtual 78, 3) := by decide +kernel
theorem dX5_point_37 : decode cX5_point 37 = .ok (.iconst 0, 1) := by decide +kernel
theorem dX5_point_38 : decode cX5_point 38 = .ok (.ireturn, 1) := by decide +kernel
theorem dX5_enter_0 : decode cX5_enter 0 = .ok (.aload_n 1, 1) := by decide +kernel
theorem dX5_enter_1 : decode cX5_enter 1 = .ok (.aload_n 0, 1) := by decide +kernel
theorem dX5_enter_2 : decode cX5_enter 2 = .ok (.getfield 21, 3) := by decide +kernel
theorem dX5_enter_5 : decode cX5_enter 5 = .ok (.getfield 54, 3) := by decide +kernel
theorem dX5_enter_8 : decode cX5_enter 8 = .ok (.invokevirtual 100, 3) := by decide +kernel
theorem dX5_enter_11 : decode cX5_enter 11 = .ok (.astore_n 2, 1) := by decide +kernel
theorem dX5_enter_12 : decode cX5_enter 12 = .ok (.aload_n 2, 1) := by decide +kernel
theorem dX5_enter_13 : decode cX5_enter 13 = .ok (.ifnonnull 5, 3) := by decide +kernel
theorem dX5_enter_16 : decode cX5_enter 16 = .ok (.iconst 1, 1) := by decide +kernel
theorem dX5_enter_17 : decode cX5_enter 17 = .ok (.ireturn, 1) := by decide +kernel
theorem dX5_enter_18 : decode cX5_enter 18 = .ok (.aload_n 0, 1) := by decide +kernel
theorem dX5_enter_19 : decode cX5_enter 19 = .ok (.getfield 21, 3) := by decide +kernel
theorem dX5_enter_22 : decode cX5_enter 22 = .ok (.getfield 51, 3) := by decide +kernel
theorem dX5_enter_25 : decode cX5_enter 25 = .ok (.aload_n 2, 1) := by decide +kernel
theorem dX5_enter_26 : decode cX5_enter 26 = .ok (.getfield 270, 3) := by decide +kernel
theorem dX5_enter_29 : decode cX5_enter 29 = .ok (.invokestatic 273, 3) := by decide +kernel
theorem dX5_enter_32 : decode cX5_enter 32 = .ok (.istore_n 3, 1) := by decide +kernel
theorem dX5_enter_33 : decode cX5_enter 33 = .ok (.aload_n 0, 1) := by decide +kernel
theorem dX5_enter_34 : decode cX5_enter 34 = .ok (.aload_n 1, 1) := by decide +kernel
theorem dX5_enter_35 : decode cX5_enter 35 = .ok (.aload_n 2, 1) := by decide +kernel
theorem dX5_enter_36 : decode cX5_enter 36 = .ok (.iload_n 3, 1) := by decide +kernel
theorem dX5_enter_37 : decode cX5_enter 37 = .ok (.invokevirtual 276, 3) := by decide +kernel
theorem dX5_enter_40 : decode cX5_enter 40 = .ok (.istore 4, 2) := by decide +kernel
theorem dX5_enter_42 : decode cX5_enter 42 = .ok (.iload 4, 2) := by decide +kernel
theorem dX5_enter_44 : decode cX5_enter 44 = .ok (.ifCond .eq 6, 3) := by decide +kernel
theorem dX5_enter_47 : decode cX5_enter 47 = .ok (.iload 4, 2) := by decide +kernel
theorem dX5_enter_49 : decode cX5_enter 49 = .ok (.ireturn, 1) := by decide +kernel
theorem dX5_enter_50 : decode cX5_enter 50 = .ok (.aload_n 1, 1) := by decide +kernel
theorem dX5_enter_51 : decode cX5_enter 51 = .ok (.getfield 42, 3) := by decide +kernel
theorem dX5_enter_54 : decode cX5_enter 54 = .ok (.getfield 124, 3) := by decide +kernel
theorem dX5_enter_57 : decode cX5_enter 57 = .ok (.bipush 7, 2) := by decide +kernel
theorem dX5_enter_59 : decode cX5_enter 59 = .ok (.aaload, 1) := by decide +kernel
theorem dX5_enter_60 : decode cX5_enter 60 = .ok (.aload_n 0, 1) := by decide +kernel
theorem dX5_enter_61 : decode cX5_enter 61 = .ok (.getfield 25, 3) := by decide +kernel
theorem dX5_enter_64 : decode cX5_enter 64 = .ok (.invokevirtual 78, 3) := by decide +kernel
theorem dX5_enter_67 : decode cX5_enter 67 = .ok (.aload_n 1, 1) := by decide +kernel
theorem dX5_enter_68 : decode cX5_enter 68 = .ok (.getfield 42, 3) := by decide +kernel
theorem dX5_enter_71 : decode cX5_enter 71 = .ok (.getfield 124, 3) := by decide +kernel
theorem dX5_enter_74 : decode cX5_enter 74 = .ok (.iconst 0, 1) := by decide +kernel
theorem dX5_enter_75 : decode cX5_enter 75 = .ok (.aaload, 1) := by decide +kernel
theorem dX5_enter_76 : decode cX5_enter 76 = .ok (.iload_n 3, 1) := by decide +kernel
theorem dX5_enter_77 : decode cX5_enter 77 = .ok (.iload_n 3, 1) := by decide +kernel
theorem dX5_enter_78 : decode cX5_enter 78 = .ok (.iconst 0, 1) := by decide +kernel
theorem dX5_enter_79 : decode cX5_enter 79 = .ok (.invokevirtual 60, 3) := by decide +kernel
theorem dX5_enter_82 : decode cX5_enter 82 = .ok (.aload_n 0, 1) := by decide +kernel
theorem dX5_enter_83 : decode cX5_enter 83 = .ok (.getfield 25, 3) := by decide +kernel
theorem dX5_enter_86 : decode cX5_enter 86 = .ok (.iload_n 3, 1) := by decide +kernel
theorem dX5_enter_87 : decode cX5_enter 87 = .ok (.aload_n 0, 1) := by decide +kernel
theorem dX5_enter_88 : decode cX5_enter 88 = .ok (.getfield 21, 3) := by decide +kernel
theorem dX5_enter_91 : decode cX5_enter 91 = .ok (.getfield 54, 3) := by decide +kernel
theorem dX5_enter_94 : decode cX5_enter 94 = .ok (.aload_n 0, 1) := by decide +kernel
theorem dX5_enter_95 : decode cX5_enter 95 = .ok (.getfield 21, 3) := by decide +kernel
theorem dX5_enter_98 : decode cX5_enter 98 = .ok (.getfield 57, 3) := by decide +kernel
theorem dX5_enter_101 : decode cX5_enter 101 = .ok (.invokevirtual 60, 3) := by decide +kernel
theorem dX5_enter_104 : decode cX5_enter 104 = .ok (.aload_n 1, 1) := by decide +kernel
theorem dX5_enter_105 : decode cX5_enter 105 = .ok (.dup, 1) := by decide +kernel
theorem dX5_enter_106 : decode cX5_enter 106 = .ok (.getfield 280, 3) := by decide +kernel
theorem dX5_enter_109 : decode cX5_enter 109 = .ok (.iconst 1, 1) := by decide +kernel
theorem dX5_enter_110 : decode cX5_enter 110 = .ok (.iadd, 1) := by decide +kernel
theorem dX5_enter_111 : decode cX5_enter 111 = .ok (.putfield 280, 3) := by decide +kernel
theorem dX5_enter_114 : decode cX5_enter 114 = .ok (.iconst 0, 1) := by decide +kernel
theorem dX5_enter_115 : decode cX5_enter 115 = .ok (.ireturn, 1) := by decide +kernel
theorem dX5_askCall_0 : decode cX5_askCall 0 = .ok (.aload_n 2, 1) := by decide +kernel
theorem dX5_askCall_1 : decode cX5_askCall 1 = .ok (.aload_n 0, 1) := by decide +kernel
theorem dX5_askCall_2 : decode cX5_askCall 2 = .ok (.getfield 21, 3) := by decide +kernel
theorem dX5_askCall_5 : decode cX5_askCall 5 = .ok (.getfield 57, 3) := by decide +kernel
theorem dX5_askCall_8 : decode cX5_askCall 8 = .ok (.invokevirtual 104, 3) := by decide +kernel
theorem dX5_askCall_11 : decode cX5_askCall 11 = .ok (.ifCond .ne 5, 3) := by decide +kernel
theorem dX5_askCall_14 : decode cX5_askCall 14 = .ok (.iconst 2, 1) := by decide +kernel
theorem dX5_askCall_15 : decode cX5_askCall 15 = .ok (.ireturn, 1) := by decide +kernel
theorem dX5_askCall_16 : decode cX5_askCall 16 = .ok (.aload_n 2, 1) := by decide +kernel
theorem dX5_askCall_17 : decode cX5_askCall 17 = .ok (.aload_n 1, 1) := by decide +kernel
theorem dX5_askCall_18 : decode cX5_askCall 18 = .ok (.getfield 110, 3) := by decide +kernel
theorem dX5_askCall_21 : decode cX5_askCall 21 = .ok (.iconst 4, 1) := by decide +kernel
theorem dX5_askCall_22 : decode cX5_askCall 22 = .ok (.invokevirtual 185, 3) := by decide +kernel
theorem dX5_askCall_25 : decode cX5_askCall 25 = .ok (.ifCond .ne 5, 3) := by decide +kernel
theorem dX5_askCall_28 : decode cX5_askCall 28 = .ok (.iconst 5, 1) := by decide +kernel
theorem dX5_askCall_29 : decode cX5_askCall 29 = .ok (.ireturn, 1) := by decide +kernel
theorem dX5_askCall_30 : decode cX5_askCall 30 = .ok (.aload_n 0, 1) := by decide +kernel
theorem dX5_askCall_31 : decode cX5_askCall 31 = .ok (.getfield 21, 3) := by decide +kernel
theorem dX5_askCall_34 : decode cX5_askCall 34 = .ok (.getfield 54, 3) := by decide +kernel
theorem dX5_askCall_37 : decode cX5_askCall 37 = .ok (.aload_n 1, 1) := by decide +kernel
theorem dX5_askCall_38 : decode cX5_askCall 38 = .ok (.getfield 42, 3) := by decide +kernel
theorem dX5_askCall_41 : decode cX5_askCall 41 = .ok (.getfield 46, 3) := by decide +kernel
theorem dX5_askCall_44 : decode cX5_askCall 44 = .ok (.getfield 54, 3) := by decide +kernel
theorem dX5_askCall_47 : decode cX5_askCall 47 = .ok (.if_icmp .eq 20, 3) := by decide +kernel
theorem dX5_askCall_50 : decode cX5_askCall 50 = .ok (.aload_n 0, 1) := by decide +kernel
theorem dX5_askCall_51 : decode cX5_askCall 51 = .ok (.getfield 21, 3) := by decide +kernel
theorem dX5_askCall_54 : decode cX5_askCall 54 = .ok (.getfield 57, 3) := by decide +kernel
theorem dX5_askCall_57 : decode cX5_askCall 57 = .ok (.aload_n 2, 1) := by decide +kernel
theorem dX5_askCall_58 : decode cX5_askCall 58 = .ok (.getfield 283, 3) := by decide +kernel
theorem dX5_askCall_61 : decode cX5_askCall 61 = .ok (.if_icmp .lt 6, 3) := by decide +kernel
theorem dX5_askCall_64 : decode cX5_askCall 64 = .ok (.bipush 6, 2) := by decide +kernel
theorem dX5_askCall_66 : decode cX5_askCall 66 = .ok (.ireturn, 1) := by decide +kernel
theorem dX5_askCall_67 : decode cX5_askCall 67 = .ok (.aload_n 0, 1) := by decide +kernel
theorem dX5_askCall_68 : decode cX5_askCall 68 = .ok (.getfield 21, 3) := by decide +kernel
theorem dX5_askCall_71 : decode cX5_askCall 71 = .ok (.getfield 51, 3) := by decide +kernel
theorem dX5_askCall_74 : decode cX5_askCall 74 = .ok (.aload_n 2, 1) := by decide +kernel
theorem dX5_askCall_75 : decode cX5_askCall 75 = .ok (.getfield 199, 3) := by decide +kernel
theorem dX5_askCall_78 : decode cX5_askCall 78 = .ok (.if_icmp .ge 6, 3) := by decide +kernel
theorem dX5_askCall_81 : decode cX5_askCall 81 = .ok (.bipush 7, 2) := by decide +kernel
theorem dX5_askCall_83 : decode cX5_askCall 83 = .ok (.ireturn, 1) := by decide +kernel
theorem dX5_askCall_84 : decode cX5_askCall 84 = .ok (.aload_n 0, 1) := by decide +kernel
theorem dX5_askCall_85 : decode cX5_askCall 85 = .ok (.getfield 21, 3) := by decide +kernel
theorem dX5_askCall_88 : decode cX5_askCall 88 = .ok (.getfield 51, 3) := by decide +kernel
theorem dX5_askCall_91 : decode cX5_askCall 91 = .ok (.aload_n 2, 1) := by decide +kernel
theorem dX5_askCall_92 : decode cX5_askCall 92 = .ok (.getfield 286, 3) := by decide +kernel
theorem dX5_askCall_95 : decode cX5_askCall 95 = .ok (.if_icmp .le 6, 3) := by decide +kernel
theorem dX5_askCall_98 : decode cX5_askCall 98 = .ok (.bipush 8, 2) := by decide +kernel
theorem dX5_askCall_100 : decode cX5_askCall 100 = .ok (.ireturn, 1) := by decide +kernel
theorem dX5_askCall_101 : decode cX5_askCall 101 = .ok (.iload_n 3, 1) := by decide +kernel
theorem dX5_askCall_102 : decode cX5_askCall 102 = .ok (.aload_n 1, 1) := by decide +kernel
theorem dX5_askCall_103 : decode cX5_askCall 103 = .ok (.getfield 42, 3) := by decide +kernel
theorem dX5_askCall_106 : decode cX5_askCall 106 = .ok (.getfield 46, 3) := by decide +kernel
theorem dX5_askCall_109 : decode cX5_askCall 109 = .ok (.getfield 51, 3) := by decide +kernel
theorem dX5_askCall_112 : decode cX5_askCall 112 = .ok (.if_icmp .le 8, 3) := by decide +kernel
theorem dX5_askCall_115 : decode cX5_askCall 115 = .ok (.bipush 9, 2) := by decide +kernel
theorem dX5_askCall_117 : decode cX5_askCall 117 = .ok (.goto 4, 3) := by decide +kernel
theorem dX5_askCall_120 : decode cX5_askCall 120 = .ok (.iconst 0, 1) := by decide +kernel
theorem dX5_askCall_121 : decode cX5_askCall 121 = .ok (.ireturn, 1) := by decide +kernel
theorem dX5_leave_0 : decode cX5_leave 0 = .ok (.aload_n 0, 1) := by decide +kernel
theorem dX5_leave_1 : decode cX5_leave 1 = .ok (.aload_n 1, 1) := by decide +kernel
theorem dX5_leave_2 : decode cX5_leave 2 = .ok (.iconst 0, 1) := by decide +kernel
theorem dX5_leave_3 : decode cX5_leave 3 = .ok (.invokevirtual 86, 3) := by decide +kernel
theorem dX5_leave_6 : decode cX5_leave 6 = .ok (.istore_n 2, 1) := by decide +kernel
theorem dX5_leave_7 : decode cX5_leave 7 = .ok (.iload_n 2, 1) := by decide +kernel
theorem dX5_leave_8 : decode cX5_leave 8 = .ok (.ifCond .eq 5, 3) := by decide +kernel
theorem dX5_leave_11 : decode cX5_leave 11 = .ok (.iload_n 2, 1) := by decide +kernel
theorem dX5_leave_12 : decode cX5_leave 12 = .ok (.ireturn, 1) := by decide +kernel
theorem dX5_leave_13 : decode cX5_leave 13 = .ok (.aload_n 0, 1) := by decide +kernel
theorem dX5_leave_14 : decode cX5_leave 14 = .ok (.aload_n 1, 1) := by decide +kernel
theorem dX5_leave_15 : decode cX5_leave 15 = .ok (.invokevirtual 90, 3) := by decide +kernel
theorem dX5_leave_18 : decode cX5_leave 18 = .ok (.istore_n 3, 1) := by decide +kernel
theorem dX5_leave_19 : decode cX5_leave 19 = .ok (.iload_n 3, 1) := by decide +kernel
theorem dX5_leave_20 : decode cX5_leave 20 = .ok (.invokestatic 202, 3) := by decide +kernel
theorem dX5_leave_23 : decode cX5_leave 23 = .ok (.istore 4, 2) := by decide +kernel
theorem dX5_leave_25 : decode cX5_leave 25 = .ok (.iload 4, 2) := by decide +kernel
theorem dX5_leave_27 : decode cX5_leave 27 = .ok (.aload_n 1, 1) := by decide +kernel
theorem dX5_leave_28 : decode cX5_leave 28 = .ok (.getfield 42, 3) := by decide +kernel
theorem dX5_leave_31 : decode cX5_leave 31 = .ok (.getfield 46, 3) := by decide +kernel
theorem dX5_leave_34 : decode cX5_leave 34 = .ok (.getfield 51, 3) := by decide +kernel
theorem dX5_leave_37 : decode cX5_leave 37 = .ok (.if_icmp .ge 6, 3) := by decide +kernel
theorem dX5_leave_40 : decode cX5_leave 40 = .ok (.bipush 10, 2) := by decide +kernel
theorem dX5_leave_42 : decode cX5_leave 42 = .ok (.ireturn, 1) := by decide +kernel
theorem dX5_leave_43 : decode cX5_leave 43 = .ok (.aload_n 0, 1) := by decide +kernel
theorem dX5_leave_44 : decode cX5_leave 44 = .ok (.getfield 21, 3) := by decide +kernel
theorem dX5_leave_47 : decode cX5_leave 47 = .ok (.iload 4, 2) := by decide +kernel
theorem dX5_leave_49 : decode cX5_leave 49 = .ok (.iload_n 3, 1) := by decide +kernel
theorem dX5_leave_50 : decode cX5_leave 50 = .ok (.invokevirtual 205, 3) := by decide +kernel
theorem dX5_leave_53 : decode cX5_leave 53 = .ok (.aload_n 0, 1) := by decide +kernel
theorem dX5_leave_54 : decode cX5_leave 54 = .ok (.aload_n 1, 1) := by decide +kernel
theorem dX5_leave_55 : decode cX5_leave 55 = .ok (.iconst 2, 1) := by decide +kernel
theorem dX5_leave_56 : decode cX5_leave 56 = .ok (.invokevirtual 86, 3) := by decide +kernel
theorem dX5_leave_59 : decode cX5_leave 59 = .ok (.istore_n 2, 1) := by decide +kernel
theorem dX5_leave_60 : decode cX5_leave 60 = .ok (.iload_n 2, 1) := by decide +kernel
theorem dX5_leave_61 : decode cX5_leave 61 = .ok (.ifCond .eq 5, 3) := by decide +kernel
theorem dX5_leave_64 : decode cX5_leave 64 = .ok (.iload_n 2, 1) := by decide +kernel
theorem dX5_leave_65 : decode cX5_leave 65 = .ok (.ireturn, 1) := by decide +kernel
theorem dX5_leave_66 : decode cX5_leave 66 = .ok (.aload_n 0, 1) := by decide +kernel
theorem dX5_leave_67 : decode cX5_leave 67 = .ok (.getfield 25, 3) := by decide +kernel
theorem dX5_leave_70 : decode cX5_leave 70 = .ok (.aload_n 0, 1) := by decide +kernel
theorem dX5_leave_71 : decode cX5_leave 71 = .ok (.getfield 21, 3) := by decide +kernel
theorem dX5_leave_74 : decode cX5_leave 74 = .ok (.invokevirtual 78, 3) := by decide +kernel
theorem dX5_leave_77 : decode cX5_leave 77 = .ok (.aload_n 1, 1) := by decide +kernel
theorem dX5_leave_78 : decode cX5_leave 78 = .ok (.getfield 42, 3) := by decide +kernel
theorem dX5_leave_81 : decode cX5_leave 81 = .ok (.iload 4, 2) := by decide +kernel
theorem dX5_leave_83 : decode cX5_leave 83 = .ok (.invokevirtual 289, 3) := by decide +kernel
theorem dX5_leave_86 : decode cX5_leave 86 = .ok (.aload_n 1, 1) := by decide +kernel
theorem dX5_leave_87 : decode cX5_leave 87 = .ok (.dup, 1) := by decide +kernel
theorem dX5_leave_88 : decode cX5_leave 88 = .ok (.getfield 292, 3) := by decide +kernel
theorem dX5_leave_91 : decode cX5_leave 91 = .ok (.iconst 1, 1) := by decide +kernel
theorem dX5_leave_92 : decode cX5_leave 92 = .ok (.iadd, 1) := by decide +kernel
theorem dX5_leave_93 : decode cX5_leave 93 = .ok (.putfield 292, 3) := by decide +kernel
theorem dX5_leave_96 : decode cX5_leave 96 = .ok (.iconst 0, 1) := by decide +kernel
theorem dX5_leave_97 : decode cX5_leave 97 = .ok (.ireturn, 1) := by decide +kernel
theorem dX5_tryAccess_0 : decode cX5_tryAccess 0 = .ok (.aload_n 1, 1) := by decide +kernel
theorem dX5_tryAccess_1 : decode cX5_tryAccess 1 = .ok (.getfield 42, 3) := by decide +kernel
theorem dX5_tryAccess_4 : decode cX5_tryAccess 4 = .ok (.aload_n 0, 1) := by decide +kernel
theorem dX5_tryAccess_5 : decode cX5_tryAccess 5 = .ok (.aload_n 1, 1) := by decide +kernel
theorem dX5_tryAccess_6 : decode cX5_tryAccess 6 = .ok (.iload_n 2, 1) := by decide +kernel
theorem dX5_tryAccess_7 : decode cX5_tryAccess 7 = .ok (.invokevirtual 86, 3) := by decide +kernel
theorem dX5_tryAccess_10 : decode cX5_tryAccess 10 = .ok (.ifCond .ne 7, 3) := by decide +kernel
theorem dX5_tryAccess_13 : decode cX5_tryAccess 13 = .ok (.iconst 0, 1) := by decide +kernel
theorem dX5_tryAccess_14 : decode cX5_tryAccess 14 = .ok (.goto 4, 3) := by decide +kernel
theorem dX5_tryAccess_17 : decode cX5_tryAccess 17 = .ok (.iconst 1, 1) := by decide +kernel
theorem dX5_tryAccess_18 : decode cX5_tryAccess 18 = .ok (.putfield 228, 3) := by decide +kernel
theorem dX5_tryAccess_21 : decode cX5_tryAccess 21 = .ok (.iconst 0, 1) := by decide +kernel
theorem dX5_tryAccess_22 : decode cX5_tryAccess 22 = .ok (.ireturn, 1) := by decide +kernel
theorem dX5_say_0 : decode cX5_say 0 = .ok (.aload_n 1, 1) := by decide +kernel
theorem dX5_say_1 : decode cX5_say 1 = .ok (.getfield 42, 3) := by decide +kernel
theorem dX5_say_4 : decode cX5_say 4 = .ok (.getfield 46, 3) := by decide +kernel
theorem dX5_say_7 : decode cX5_say 7 = .ok (.getfield 51, 3) := by decide +kernel
theorem dX5_say_10 : decode cX5_say 10 = .ok (.ifCond .eq 6, 3) := by decide +kernel
theorem dX5_say_13 : decode cX5_say 13 = .ok (.bipush 14, 2) := by decide +kernel
theorem dX5_say_15 : decode cX5_say 15 = .ok (.ireturn, 1) := by decide +kernel
theorem dX5_say_16 : decode cX5_say 16 = .ok (.aload_n 0, 1) := by decide +kernel
theorem dX5_say_17 : decode cX5_say 17 = .ok (.getfield 32, 3) := by decide +kernel
theorem dX5_say_20 : decode cX5_say 20 = .ok (.aload_n 1, 1) := by decide +kernel
theorem dX5_say_21 : decode cX5_say 21 = .ok (.getfield 42, 3) := by decide +kernel
theorem dX5_say_24 : decode cX5_say 24 = .ok (.getfield 215, 3) := by decide +kernel
theorem dX5_say_27 : decode cX5_say 27 = .ok (.invokevirtual 295, 3) := by decide +kernel
theorem dX5_say_30 : decode cX5_say 30 = .ok (.iconst 0, 1) := by decide +kernel
theorem dX5_say_31 : decode cX5_say 31 = .ok (.ireturn, 1) := by decide +kernel
theorem dX5_resume_0 : decode cX5_resume 0 = .ok (.aload_n 1, 1) := by decide +kernel
theorem dX5_resume_1 : decode cX5_resume 1 = .ok (.getfield 42, 3) := by decide +kernel
theorem dX5_resume_4 : decode cX5_resume 4 = .ok (.getfield 46, 3) := by decide +kernel
theorem dX5_resume_7 : decode cX5_resume 7 = .ok (.getfield 51, 3) := by decide +kernel
theorem dX5_resume_10 : decode cX5_resume 10 = .ok (.ifCond .eq 6, 3) := by decide +kernel
theorem dX5_resume_13 : decode cX5_resume 13 = .ok (.bipush 14, 2) := by decide +kernel
theorem dX5_resume_15 : decode cX5_resume 15 = .ok (.ireturn, 1) := by decide +kernel
theorem dX5_resume_16 : decode cX5_resume 16 = .ok (.aload_n 1, 1) := by decide +kernel
theorem dX5_resume_17 : decode cX5_resume 17 = .ok (.getfield 300, 3) := by decide +kernel
theorem dX5_resume_20 : decode cX5_resume 20 = .ok (.ifCond .ne 6, 3) := by decide +kernel
theorem dX5_resume_23 : decode cX5_resume 23 = .ok (.bipush 13, 2) := by decide +kernel
theorem dX5_resume_25 : decode cX5_resume 25 = .ok (.ireturn, 1) := by decide +kernel
theorem dX5_resume_26 : decode cX5_resume 26 = .ok (.aload_n 1, 1) := by decide +kernel
theorem dX5_resume_27 : decode cX5_resume 27 = .ok (.getfield 42, 3) := by decide +kernel
theorem dX5_resume_30 : decode cX5_resume 30 = .ok (.getfield 144, 3) := by decide +kernel
theorem dX5_resume_33 : decode cX5_resume 33 = .ok (.iconst 1, 1) := by decide +kernel
theorem dX5_resume_34 : decode cX5_resume 34 = .ok (.iaload, 1) := by decide +kernel
theorem dX5_resume_35 : decode cX5_resume 35 = .ok (.ifCond .ne 7, 3) := by decide +kernel
theorem dX5_resume_38 : decode cX5_resume 38 = .ok (.iconst 0, 1) := by decide +kernel
theorem dX5_resume_39 : decode cX5_resume 39 = .ok (.goto 4, 3) := by decide +kernel
theorem dX5_resume_42 : decode cX5_resume 42 = .ok (.iconst 1, 1) := by decide +kernel
theorem dX5_resume_43 : decode cX5_resume 43 = .ok (.istore_n 2, 1) := by decide +kernel
theorem dX5_resume_44 : decode cX5_resume 44 = .ok (.aload_n 1, 1) := by decide +kernel
theorem dX5_resume_45 : decode cX5_resume 45 = .ok (.invokevirtual 303, 3) := by decide +kernel
theorem dX5_resume_48 : decode cX5_resume 48 = .ok (.aload_n 0, 1) := by decide +kernel
theorem dX5_resume_49 : decode cX5_resume 49 = .ok (.getfield 25, 3) := by decide +kernel
theorem dX5_resume_52 : decode cX5_resume 52 = .ok (.aload_n 1, 1) := by decide +kernel
theorem dX5_resume_53 : decode cX5_resume 53 = .ok (.getfield 42, 3) := by decide +kernel
theorem dX5_resume_56 : decode cX5_resume 56 = .ok (.getfield 46, 3) := by decide +kernel
theorem dX5_resume_59 : decode cX5_resume 59 = .ok (.invokevirtual 78, 3) := by decide +kernel
theorem dX5_resume_62 : decode cX5_resume 62 = .ok (.aload_n 0, 1) := by decide +kernel
theorem dX5_resume_63 : decode cX5_resume 63 = .ok (.getfield 25, 3) := by decide +kernel
theorem dX5_resume_66 : decode cX5_resume 66 = .ok (.dup, 1) := by decide +kernel
theorem dX5_resume_67 : decode cX5_resume 67 = .ok (.getfield 57, 3) := by decide +kernel
theorem dX5_resume_70 : decode cX5_resume 70 = .ok (.iload_n 2, 1) := by decide +kernel
theorem dX5_resume_71 : decode cX5_resume 71 = .ok (.iadd, 1) := by decide +kernel
theorem dX5_resume_72 : decode cX5_resume 72 = .ok (.putfield 57, 3) := by decide +kernel
theorem dX5_resume_75 : decode cX5_resume 75 = .ok (.iconst 0, 1) := by decide +kernel
theorem dX5_resume_76 : decode cX5_resume 76 = .ok (.ireturn, 1) := by decide +kernel
theorem dX6_init_0 : decode cX6_init 0 = .ok (.aload_n 0, 1) := by decide +kernel
theorem dX6_init_1 : decode cX6_init 1 = .ok (.invokespecial 3, 3) := by decide +kernel
theorem dX6_init_4 : decode cX6_init 4 = .ok (.aload_n 0, 1) := by decide +kernel
theorem dX6_init_5 : decode cX6_init 5 = .ok (.new 9, 3) := by decide +kernel
theorem dX6_init_8 : decode cX6_init 8 = .ok (.dup, 1) := by decide +kernel
theorem dX6_init_9 : decode cX6_init 9 = .ok (.invokespecial 11, 3) := by decide +kernel
theorem dX6_init_12 : decode cX6_init 12 = .ok (.putfield 12, 3) := by decide +kernel
theorem dX6_init_15 : decode cX6_init 15 = .ok (.aload_n 0, 1) := by decide +kernel
theorem dX6_init_16 : decode cX6_init 16 = .ok (.bipush 8, 2) := by decide +kernel
theorem dX6_init_18 : decode cX6_init 18 = .ok (.anewarray 9, 3) := by decide +kernel
theorem dX6_init_21 : decode cX6_init 21 = .ok (.putfield 18, 3) := by decide +kernel
theorem dX6_init_24 : decode cX6_init 24 = .ok (.aload_n 0, 1) := by decide +kernel
theorem dX6_init_25 : decode cX6_init 25 = .ok (.iconst 4, 1) := by decide +kernel
theorem dX6_init_26 : decode cX6_init 26 = .ok (.newarray .int, 2) := by decide +kernel
theorem dX6_init_28 : decode cX6_init 28 = .ok (.putfield 22, 3) := by decide +kernel
theorem dX6_init_31 : decode cX6_init 31 = .ok (.iconst 0, 1) := by decide +kernel
theorem dX6_init_32 : decode cX6_init 32 = .ok (.istore_n 1, 1) := by decide +kernel
theorem dX6_init_33 : decode cX6_init 33 = .ok (.iload_n 1, 1) := by decide +kernel
theorem dX6_init_34 : decode cX6_init 34 = .ok (.bipush 8, 2) := by decide +kernel
theorem dX6_init_36 : decode cX6_init 36 = .ok (.if_icmp .ge 22, 3) := by decide +kernel
theorem dX6_init_39 : decode cX6_init 39 = .ok (.aload_n 0, 1) := by decide +kernel
theorem dX6_init_40 : decode cX6_init 40 = .ok (.getfield 18, 3) := by decide +kernel
theorem dX6_init_43 : decode cX6_init 43 = .ok (.iload_n 1, 1) := by decide +kernel
theorem dX6_init_44 : decode cX6_init 44 = .ok (.new 9, 3) := by decide +kernel
theorem dX6_init_47 : decode cX6_init 47 = .ok (.dup, 1) := by decide +kernel
theorem dX6_init_48 : decode cX6_init 48 = .ok (.invokespecial 11, 3) := by decide +kernel
theorem dX6_init_51 : decode cX6_init 51 = .ok (.aastore, 1) := by decide +kernel
theorem dX6_init_52 : decode cX6_init 52 = .ok (.iinc 1 1, 3) := by decide +kernel
theorem dX6_init_55 : decode cX6_init 55 = .ok (.goto (-22), 3) := by decide +kernel
theorem dX6_init_58 : decode cX6_init 58 = .ok (.return_, 1) := by decide +kernel
theorem dX6_clear_0 : decode cX6_clear 0 = .ok (.aload_n 0, 1) := by decide +kernel
theorem dX6_clear_1 : decode cX6_clear 1 = .ok (.getfield 12, 3) := by decide +kernel
theorem dX6_clear_4 : decode cX6_clear 4 = .ok (.iload_n 1, 1) := by decide +kernel
theorem dX6_clear_5 : decode cX6_clear 5 = .ok (.iload_n 2, 1) := by decide +kernel
theorem dX6_clear_6 : decode cX6_clear 6 = .ok (.iload_n 3, 1) := by decide +kernel
theorem dX6_clear_7 : decode cX6_clear 7 = .ok (.invokevirtual 26, 3) := by decide +kernel
theorem dX6_clear_10 : decode cX6_clear 10 = .ok (.iconst 0, 1) := by decide +kernel
theorem dX6_clear_11 : decode cX6_clear 11 = .ok (.istore 4, 2) := by decide +kernel
theorem dX6_clear_13 : decode cX6_clear 13 = .ok (.iload 4, 2) := by decide +kernel
theorem dX6_clear_15 : decode cX6_clear 15 = .ok (.bipush 8, 2) := by decide +kernel
theorem dX6_clear_17 : decode cX6_clear 17 = .ok (.if_icmp .ge 22, 3) := by decide +kernel
theorem dX6_clear_20 : decode cX6_clear 20 = .ok (.aload_n 0, 1) := by decide +kernel
theorem dX6_clear_21 : decode cX6_clear 21 = .ok (.getfield 18, 3) := by decide +kernel
theorem dX6_clear_24 : decode cX6_clear 24 = .ok (.iload 4, 2) := by decide +kernel
theorem dX6_clear_26 : decode cX6_clear 26 = .ok (.aaload, 1) := by decide +kernel
theorem dX6_clear_27 : decode cX6_clear 27 = .ok (.iload_n 1, 1) := by decide +kernel
theorem dX6_clear_28 : decode cX6_clear 28 = .ok (.iconst 0, 1) := by decide +kernel
theorem dX6_clear_29 : decode cX6_clear 29 = .ok (.iconst 0, 1) := by decide +kernel
theorem dX6_clear_30 : decode cX6_clear 30 = .ok (.invokevirtual 26, 3) := by decide +kernel
theorem dX6_clear_33 : decode cX6_clear 33 = .ok (.iinc 4 1, 3) := by decide +kernel
theorem dX6_clear_36 : decode cX6_clear 36 = .ok (.goto (-23), 3) := by decide +kernel
theorem dX6_clear_39 : decode cX6_clear 39 = .ok (.aload_n 0, 1) := by decide +kernel
theorem dX6_clear_40 : decode cX6_clear 40 = .ok (.getfield 22, 3) := by decide +kernel
theorem dX6_clear_43 : decode cX6_clear 43 = .ok (.iconst 0, 1) := by decide +kernel
theorem dX6_clear_44 : decode cX6_clear 44 = .ok (.invokestatic 30, 3) := by decide +kernel
theorem dX6_clear_47 : decode cX6_clear 47 = .ok (.aload_n 0, 1) := by decide +kernel
theorem dX6_clear_48 : decode cX6_clear 48 = .ok (.iconst 0, 1) := by decide +kernel
theorem dX6_clear_49 : decode cX6_clear 49 = .ok (.putfield 36, 3) := by decide +kernel
theorem dX6_clear_52 : decode cX6_clear 52 = .ok (.aload_n 0, 1) := by decide +kernel
theorem dX6_clear_53 : decode cX6_clear 53 = .ok (.iconst 0, 1) := by decide +kernel
theorem dX6_clear_54 : decode cX6_clear 54 = .ok (.putfield 40, 3) := by decide +kernel
theorem dX6_clear_57 : decode cX6_clear 57 = .ok (.return_, 1) := by decide +kernel
theorem dX6_copy_0 : decode cX6_copy 0 = .ok (.aload_n 0, 1) := by decide +kernel
theorem dX6_copy_1 : decode cX6_copy 1 = .ok (.getfield 12, 3) := by decide +kernel
theorem dX6_copy_4 : decode cX6_copy 4 = .ok (.aload_n 1, 1) := by decide +kernel
theorem dX6_copy_5 : decode cX6_copy 5 = .ok (.getfield 12, 3) := by decide +kernel
theorem dX6_copy_8 : decode cX6_copy 8 = .ok (.invokevirtual 43, 3) := by decide +kernel
theorem dX6_copy_11 : decode cX6_copy 11 = .ok (.iconst 0, 1) := by decide +kernel
theorem dX6_copy_12 : decode cX6_copy 12 = .ok (.istore_n 2, 1) := by decide +kernel
theorem dX6_copy_13 : decode cX6_copy 13 = .ok (.iload_n 2, 1) := by decide +kernel
theorem dX6_copy_14 : decode cX6_copy 14 = .ok (.bipush 8, 2) := by decide +kernel
theorem dX6_copy_16 : decode cX6_copy 16 = .ok (.if_icmp .ge 24, 3) := by decide +kernel
theorem dX6_copy_19 : decode cX6_copy 19 = .ok (.aload_n 0, 1) := by decide +kernel
theorem dX6_copy_20 : decode cX6_copy 20 = .ok (.getfield 18, 3) := by decide +kernel
theorem dX6_copy_23 : decode cX6_copy 23 = .ok (.iload_n 2, 1) := by decide +kernel
theorem dX6_copy_24 : decode cX6_copy 24 = .ok (.aaload, 1) := by decide +kernel
theorem dX6_copy_25 : decode cX6_copy 25 = .ok (.aload_n 1, 1) := by decide +kernel
theorem dX6_copy_26 : decode cX6_copy 26 = .ok (.getfield 18, 3) := by decide +kernel
theorem dX6_copy_29 : decode cX6_copy 29 = .ok (.iload_n 2, 1) := by decide +kernel
theorem dX6_copy_30 : decode cX6_copy 30 = .ok (.aaload, 1) := by decide +kernel
theorem dX6_copy_31 : decode cX6_copy 31 = .ok (.invokevirtual 43, 3) := by decide +kernel
theorem dX6_copy_34 : decode cX6_copy 34 = .ok (.iinc 2 1, 3) := by decide +kernel
theorem dX6_copy_37 : decode cX6_copy 37 = .ok (.goto (-24), 3) := by decide +kernel
theorem dX6_copy_40 : decode cX6_copy 40 = .ok (.aload_n 1, 1) := by decide +kernel
theorem dX6_copy_41 : decode cX6_copy 41 = .ok (.getfield 22, 3) := by decide +kernel
theorem dX6_copy_44 : decode cX6_copy 44 = .ok (.iconst 0, 1) := by decide +kernel
theorem dX6_copy_45 : decode cX6_copy 45 = .ok (.aload_n 0, 1) := by decide +kernel
theorem dX6_copy_46 : decode cX6_copy 46 = .ok (.getfield 22, 3) := by decide +kernel
theorem dX6_copy_49 : decode cX6_copy 49 = .ok (.iconst 0, 1) := by decide +kernel
theorem dX6_copy_50 : decode cX6_copy 50 = .ok (.aload_n 0, 1) := by decide +kernel
theorem dX6_copy_51 : decode cX6_copy 51 = .ok (.getfield 22, 3) := by decide +kernel
theorem dX6_copy_54 : decode cX6_copy 54 = .ok (.arraylength, 1) := by decide +kernel
theorem dX6_copy_55 : decode cX6_copy 55 = .ok (.invokestatic 47, 3) := by decide +kernel
theorem dX6_copy_58 : decode cX6_copy 58 = .ok (.aload_n 0, 1) := by decide +kernel
theorem dX6_copy_59 : decode cX6_copy 59 = .ok (.aload_n 1, 1) := by decide +kernel
theorem dX6_copy_60 : decode cX6_copy 60 = .ok (.getfield 36, 3) := by decide +kernel
theorem dX6_copy_63 : decode cX6_copy 63 = .ok (.putfield 36, 3) := by decide +kernel
theorem dX6_copy_66 : decode cX6_copy 66 = .ok (.aload_n 0, 1) := by decide +kernel
theorem dX6_copy_67 : decode cX6_copy 67 = .ok (.aload_n 1, 1) := by decide +kernel
theorem dX6_copy_68 : decode cX6_copy 68 = .ok (.getfield 40, 3) := by decide +kernel
theorem dX6_copy_71 : decode cX6_copy 71 = .ok (.putfield 40, 3) := by decide +kernel
theorem dX6_copy_74 : decode cX6_copy 74 = .ok (.return_, 1) := by decide +kernel
theorem dX6_raisePointers_0 : decode cX6_raisePointers 0 = .ok (.iconst 0, 1) := by decide +kernel
theorem dX6_raisePointers_1 : decode cX6_raisePointers 1 = .ok (.istore_n 2, 1) := by decide +kernel
theorem dX6_raisePointers_2 : decode cX6_raisePointers 2 = .ok (.iload_n 2, 1) := by decide +kernel
theorem dX6_raisePointers_3 : decode cX6_raisePointers 3 = .ok (.bipush 8, 2) := by decide +kernel
theorem dX6_raisePointers_5 : decode cX6_raisePointers 5 = .ok (.if_icmp .ge 31, 3) := by decide +kernel
theorem dX6_raisePointers_8 : decode cX6_raisePointers 8 = .ok (.aload_n 0, 1) := by decide +kernel
theorem dX6_raisePointers_9 : decode cX6_raisePointers 9 = .ok (.getfield 18, 3) := by decide +kernel
theorem dX6_raisePointers_12 : decode cX6_raisePointers 12 = .ok (.iload_n 2, 1) := by decide +kernel
theorem dX6_raisePointers_13 : decode cX6_raisePointers 13 = .ok (.aaload, 1) := by decide +kernel
theorem dX6_raisePointers_14 : decode cX6_raisePointers 14 = .ok (.aload_n 0, 1) := by decide +kernel
theorem dX6_raisePointers_15 : decode cX6_raisePointers 15 = .ok (.getfield 18, 3) := by decide +kernel
theorem dX6_raisePointers_18 : decode cX6_raisePointers 18 = .ok (.iload_n 2, 1) := by decide +kernel
theorem dX6_raisePointers_19 : decode cX6_raisePointers 19 = .ok (.aaload, 1) := by decide +kernel
theorem dX6_raisePointers_20 : decode cX6_raisePointers 20 = .ok (.getfield 53, 3) := by decide +kernel
theorem dX6_raisePointers_23 : decode cX6_raisePointers 23 = .ok (.iload_n 1, 1) := by decide +kernel
theorem dX6_raisePointers_24 : decode cX6_raisePointers 24 = .ok (.invokestatic 56, 3) := by decide +kernel
theorem dX6_raisePointers_27 : decode cX6_raisePointers 27 = .ok (.putfield 53, 3) := by decide +kernel
theorem dX6_raisePointers_30 : decode cX6_raisePointers 30 = .ok (.iinc 2 1, 3) := by decide +kernel
theorem dX6_raisePointers_33 : decode cX6_raisePointers 33 = .ok (.goto (-31), 3) := by decide +kernel
theorem dX6_raisePointers_36 : decode cX6_raisePointers 36 = .ok (.return_, 1) := by decide +kernel
theorem dX7_init_0 : decode cX7_init 0 = .ok (.aload_n 0, 1) := by decide +kernel
theorem dX7_init_1 : decode cX7_init 1 = .ok (.invokespecial 3, 3) := by decide +kernel
theorem dX7_init_4 : decode cX7_init 4 = .ok (.aload_n 0, 1) := by decide +kernel
theorem dX7_init_5 : decode cX7_init 5 = .ok (.sipush 200, 3) := by decide +kernel
theorem dX7_init_8 : decode cX7_init 8 = .ok (.newarray .int, 2) := by decide +kernel
theorem dX7_init_10 : decode cX7_init 10 = .ok (.putfield 9, 3) := by decide +kernel
theorem dX7_init_13 : decode cX7_init 13 = .ok (.return_, 1) := by decide +kernel
theorem dX7_add_0 : decode cX7_add 0 = .ok (.aload_n 0, 1) := by decide +kernel
theorem dX7_add_1 : decode cX7_add 1 = .ok (.getfield 15, 3) := by decide +kernel
theorem dX7_add_4 : decode cX7_add 4 = .ok (.sipush 200, 3) := by decide +kernel
theorem dX7_add_7 : decode cX7_add 7 = .ok (.if_icmp .ge 13, 3) := by decide +kernel
theorem dX7_add_10 : decode cX7_add 10 = .ok (.aload_n 0, 1) := by decide +kernel
theorem dX7_add_11 : decode cX7_add 11 = .ok (.getfield 9, 3) := by decide +kernel
theorem dX7_add_14 : decode cX7_add 14 = .ok (.aload_n 0, 1) := by decide +kernel
theorem dX7_add_15 : decode cX7_add 15 = .ok (.getfield 15, 3) := by decide +kernel
theorem dX7_add_18 : decode cX7_add 18 = .ok (.iload_n 1, 1) := by decide +kernel
theorem dX7_add_19 : decode cX7_add 19 = .ok (.iastore, 1) := by decide +kernel
theorem dX7_add_20 : decode cX7_add 20 = .ok (.aload_n 0, 1) := by decide +kernel
theorem dX7_add_21 : decode cX7_add 21 = .ok (.dup, 1) := by decide +kernel
theorem dX7_add_22 : decode cX7_add 22 = .ok (.getfield 15, 3) := by decide +kernel
theorem dX7_add_25 : decode cX7_add 25 = .ok (.iconst 1, 1) := by decide +kernel
theorem dX7_add_26 : decode cX7_add 26 = .ok (.iadd, 1) := by decide +kernel
theorem dX7_add_27 : decode cX7_add 27 = .ok (.putfield 15, 3) := by decide +kernel
theorem dX7_add_30 : decode cX7_add 30 = .ok (.return_, 1) := by decide +kernel
theorem dX7_at_0 : decode cX7_at 0 = .ok (.iload_n 1, 1) := by decide +kernel
theorem dX7_at_1 : decode cX7_at 1 = .ok (.sipush 200, 3) := by decide +kernel
theorem dX7_at_4 : decode cX7_at 4 = .ok (.invokestatic 19, 3) := by decide +kernel
theorem dX7_at_7 : decode cX7_at 7 = .ok (.ifCond .eq 12, 3) := by decide +kernel
theorem dX7_at_10 : decode cX7_at 10 = .ok (.aload_n 0, 1) := by decide +kernel
theorem dX7_at_11 : decode cX7_at 11 = .ok (.getfield 9, 3) := by decide +kernel
theorem dX7_at_14 : decode cX7_at 14 = .ok (.iload_n 1, 1) := by decide +kernel
theorem dX7_at_15 : decode cX7_at 15 = .ok (.iaload, 1) := by decide +kernel
theorem dX7_at_16 : decode cX7_at 16 = .ok (.goto 4, 3) := by decide +kernel
theorem dX7_at_19 : decode cX7_at 19 = .ok (.iconst 0, 1) := by decide +kernel
theorem dX7_at_20 : decode cX7_at 20 = .ok (.ireturn, 1) := by decide +kernel
theorem dX8_init_0 : decode cX8_init 0 = .ok (.aload_n 0, 1) := by decide +kernel
theorem dX8_init_1 : decode cX8_init 1 = .ok (.invokespecial 3, 3) := by decide +kernel
theorem dX8_init_4 : decode cX8_init 4 = .ok (.aload_n 0, 1) := by decide +kernel
theorem dX8_init_5 : decode cX8_init 5 = .ok (.iconst 4, 1) := by decide +kernel
theorem dX8_init_6 : decode cX8_init 6 = .ok (.newarray .int, 2) := by decide +kernel
theorem dX8_init_8 : decode cX8_init 8 = .ok (.putfield 9, 3) := by decide +kernel
theorem dX8_init_11 : decode cX8_init 11 = .ok (.aload_n 0, 1) := by decide +kernel
theorem dX8_init_12 : decode cX8_init 12 = .ok (.iload_n 1, 1) := by decide +kernel
theorem dX8_init_13 : decode cX8_init 13 = .ok (.putfield 15, 3) := by decide +kernel
theorem dX8_init_16 : decode cX8_init 16 = .ok (.aload_n 0, 1) := by decide +kernel
theorem dX8_init_17 : decode cX8_init 17 = .ok (.iload_n 2, 1) := by decide +kernel
theorem dX8_init_18 : decode cX8_init 18 = .ok (.putfield 19, 3) := by decide +kernel
theorem dX8_init_21 : decode cX8_init 21 = .ok (.aload_n 0, 1) := by decide +kernel
theorem dX8_init_22 : decode cX8_init 22 = .ok (.aload_n 3, 1) := by decide +kernel
theorem dX8_init_23 : decode cX8_init 23 = .ok (.putfield 22, 3) := by decide +kernel
theorem dX8_init_26 : decode cX8_init 26 = .ok (.aload_n 0, 1) := by decide +kernel
theorem dX8_init_27 : decode cX8_init 27 = .ok (.aload 4, 2) := by decide +kernel
theorem dX8_init_29 : decode cX8_init 29 = .ok (.putfield 25, 3) := by decide +kernel
theorem dX8_init_32 : decode cX8_init 32 = .ok (.return_, 1) := by decide +kernel
theorem dX8_hasWord_0 : decode cX8_hasWord 0 = .ok (.iload_n 1, 1) := by decide +kernel
theorem dX8_hasWord_1 : decode cX8_hasWord 1 = .ok (.aload_n 0, 1) := by decide +kernel
theorem dX8_hasWord_2 : decode cX8_hasWord 2 = .ok (.getfield 22, 3) := by decide +kernel
theorem dX8_hasWord_5 : decode cX8_hasWord 5 = .ok (.arraylength, 1) := by decide +kernel
theorem dX8_hasWord_6 : decode cX8_hasWord 6 = .ok (.invokestatic 29, 3) := by decide +kernel
theorem dX8_hasWord_9 : decode cX8_hasWord 9 = .ok (.ireturn, 1) := by decide +kernel
theorem dX8_read_0 : decode cX8_read 0 = .ok (.aload_n 0, 1) := by decide +kernel
theorem dX8_read_1 : decode cX8_read 1 = .ok (.iload_n 1, 1) := by decide +kernel
theorem dX8_read_2 : decode cX8_read 2 = .ok (.invokevirtual 33, 3) := by decide +kernel
theorem dX8_read_5 : decode cX8_read 5 = .ok (.ifCond .eq 12, 3) := by decide +kernel
theorem dX8_read_8 : decode cX8_read 8 = .ok (.aload_n 0, 1) := by decide +kernel
theorem dX8_read_9 : decode cX8_read 9 = .ok (.getfield 22, 3) := by decide +kernel
theorem dX8_read_12 : decode cX8_read 12 = .ok (.iload_n 1, 1) := by decide +kernel
theorem dX8_read_13 : decode cX8_read 13 = .ok (.iaload, 1) := by decide +kernel
theorem dX8_read_14 : decode cX8_read 14 = .ok (.goto 4, 3) := by decide +kernel
theorem dX8_read_17 : decode cX8_read 17 = .ok (.iconst 0, 1) := by decide +kernel
theorem dX8_read_18 : decode cX8_read 18 = .ok (.ireturn, 1) := by decide +kernel
theorem dX8_write_0 : decode cX8_write 0 = .ok (.aload_n 0, 1) := by decide +kernel
theorem dX8_write_1 : decode cX8_write 1 = .ok (.iload_n 1, 1) := by decide +kernel
theorem dX8_write_2 : decode cX8_write 2 = .ok (.invokevirtual 33, 3) := by decide +kernel
theorem dX8_write_5 : decode cX8_write 5 = .ok (.ifCond .ne 5, 3) := by decide +kernel
theorem dX8_write_8 : decode cX8_write 8 = .ok (.iconst 0, 1) := by decide +kernel
theorem dX8_write_9 : decode cX8_write 9 = .ok (.ireturn, 1) := by decide +kernel
theorem dX8_write_10 : decode cX8_write 10 = .ok (.aload_n 0, 1) := by decide +kernel
theorem dX8_write_11 : decode cX8_write 11 = .ok (.getfield 22, 3) := by decide +kernel
theorem dX8_write_14 : decode cX8_write 14 = .ok (.iload_n 1, 1) := by decide +kernel
theorem dX8_write_15 : decode cX8_write 15 = .ok (.iload_n 2, 1) := by decide +kernel
theorem dX8_write_16 : decode cX8_write 16 = .ok (.iastore, 1) := by decide +kernel
theorem dX8_write_17 : decode cX8_write 17 = .ok (.iconst 1, 1) := by decide +kernel
theorem dX8_write_18 : decode cX8_write 18 = .ok (.ireturn, 1) := by decide +kernel
theorem dX8_setBrackets_0 : decode cX8_setBrackets 0 = .ok (.iconst 0, 1) := by decide +kernel
theorem dX8_setBrackets_1 : decode cX8_setBrackets 1 = .ok (.iload_n 1, 1) := by decide +kernel
theorem dX8_setBrackets_2 : decode cX8_setBrackets 2 = .ok (.if_icmp .gt 23, 3) := by decide +kernel
theorem dX8_setBrackets_5 : decode cX8_setBrackets 5 = .ok (.iload_n 1, 1) := by decide +kernel
theorem dX8_setBrackets_6 : decode cX8_setBrackets 6 = .ok (.iload_n 2, 1) := by decide +kernel
theorem dX8_setBrackets_7 : decode cX8_setBrackets 7 = .ok (.if_icmp .gt 18, 3) := by decide +kernel
theorem dX8_setBrackets_10 : decode cX8_setBrackets 10 = .ok (.iload_n 2, 1) := by decide +kernel
theorem dX8_setBrackets_11 : decode cX8_setBrackets 11 = .ok (.iload_n 3, 1) := by decide +kernel
theorem dX8_setBrackets_12 : decode cX8_setBrackets 12 = .ok (.if_icmp .gt 13, 3) := by decide +kernel
theorem dX8_setBrackets_15 : decode cX8_setBrackets 15 = .ok (.iload_n 3, 1) := by decide +kernel
theorem dX8_setBrackets_16 : decode cX8_setBrackets 16 = .ok (.bipush 8, 2) := by decide +kernel
theorem dX8_setBrackets_18 : decode cX8_setBrackets 18 = .ok (.if_icmp .ge 7, 3) := by decide +kernel
theorem dX8_setBrackets_21 : decode cX8_setBrackets 21 = .ok (.iconst 1, 1) := by decide +kernel
theorem dX8_setBrackets_22 : decode cX8_setBrackets 22 = .ok (.goto 4, 3) := by decide +kernel
theorem dX8_setBrackets_25 : decode cX8_setBrackets 25 = .ok (.iconst 0, 1) := by decide +kernel
theorem dX8_setBrackets_26 : decode cX8_setBrackets 26 = .ok (.istore 5, 2) := by decide +kernel
theorem dX8_setBrackets_28 : decode cX8_setBrackets 28 = .ok (.iload 5, 2) := by decide +kernel
theorem dX8_setBrackets_30 : decode cX8_setBrackets 30 = .ok (.ifCond .eq 18, 3) := by decide +kernel
theorem dX8_setBrackets_33 : decode cX8_setBrackets 33 = .ok (.iload 4, 2) := by decide +kernel
theorem dX8_setBrackets_35 : decode cX8_setBrackets 35 = .ok (.ifCond .lt 13, 3) := by decide +kernel
theorem dX8_setBrackets_38 : decode cX8_setBrackets 38 = .ok (.iload 4, 2) := by decide +kernel
theorem dX8_setBrackets_40 : decode cX8_setBrackets 40 = .ok (.aload_n 0, 1) := by decide +kernel
theorem dX8_setBrackets_41 : decode cX8_setBrackets 41 = .ok (.getfield 22, 3) := by decide +kernel
theorem dX8_setBrackets_44 : decode cX8_setBrackets 44 = .ok (.arraylength, 1) := by decide +kernel
theorem dX8_setBrackets_45 : decode cX8_setBrackets 45 = .ok (.if_icmp .le 5, 3) := by decide +kernel
theorem dX8_setBrackets_48 : decode cX8_setBrackets 48 = .ok (.iconst 0, 1) := by decide +kernel
theorem dX8_setBrackets_49 : decode cX8_setBrackets 49 = .ok (.ireturn, 1) := by decide +kernel
theorem dX8_setBrackets_50 : decode cX8_setBrackets 50 = .ok (.aload_n 0, 1) := by decide +kernel
theorem dX8_setBrackets_51 : decode cX8_setBrackets 51 = .ok (.iload_n 1, 1) := by decide +kernel
theorem dX8_setBrackets_52 : decode cX8_setBrackets 52 = .ok (.putfield 37, 3) := by decide +kernel
theorem dX8_setBrackets_55 : decode cX8_setBrackets 55 = .ok (.aload_n 0, 1) := by decide +kernel
theorem dX8_setBrackets_56 : decode cX8_setBrackets 56 = .ok (.iload_n 2, 1) := by decide +kernel
theorem dX8_setBrackets_57 : decode cX8_setBrackets 57 = .ok (.putfield 40, 3) := by decide +kernel
theorem dX8_setBrackets_60 : decode cX8_setBrackets 60 = .ok (.aload_n 0, 1) := by decide +kernel
theorem dX8_setBrackets_61 : decode cX8_setBrackets 61 = .ok (.iload_n 3, 1) := by decide +kernel
theorem dX8_setBrackets_62 : decode cX8_setBrackets 62 = .ok (.putfield 43, 3) := by decide +kernel
theorem dX8_setBrackets_65 : decode cX8_setBrackets 65 = .ok (.aload_n 0, 1) := by decide +kernel
theorem dX8_setBrackets_66 : decode cX8_setBrackets 66 = .ok (.iload 4, 2) := by decide +kernel
theorem dX8_setBrackets_68 : decode cX8_setBrackets 68 = .ok (.putfield 46, 3) := by decide +kernel
theorem dX8_setBrackets_71 : decode cX8_setBrackets 71 = .ok (.iconst 1, 1) := by decide +kernel
theorem dX8_setBrackets_72 : decode cX8_setBrackets 72 = .ok (.ireturn, 1) := by decide +kernel
theorem dX8_setFlags_0 : decode cX8_setFlags 0 = .ok (.iload_n 1, 1) := by decide +kernel
theorem dX8_setFlags_1 : decode cX8_setFlags 1 = .ok (.iconst 4, 1) := by decide +kernel
theorem dX8_setFlags_2 : decode cX8_setFlags 2 = .ok (.invokestatic 29, 3) := by decide +kernel
theorem dX8_setFlags_5 : decode cX8_setFlags 5 = .ok (.ifCond .eq 13, 3) := by decide +kernel
theorem dX8_setFlags_8 : decode cX8_setFlags 8 = .ok (.iload_n 2, 1) := by decide +kernel
theorem dX8_setFlags_9 : decode cX8_setFlags 9 = .ok (.ifCond .lt 9, 3) := by decide +kernel
theorem dX8_setFlags_12 : decode cX8_setFlags 12 = .ok (.iload_n 2, 1) := by decide +kernel
theorem dX8_setFlags_13 : decode cX8_setFlags 13 = .ok (.bipush 7, 2) := by decide +kernel
theorem dX8_setFlags_15 : decode cX8_setFlags 15 = .ok (.if_icmp .le 5, 3) := by decide +kernel
theorem dX8_setFlags_18 : decode cX8_setFlags 18 = .ok (.iconst 0, 1) := by decide +kernel
theorem dX8_setFlags_19 : decode cX8_setFlags 19 = .ok (.ireturn, 1) := by decide +kernel
theorem dX8_setFlags_20 : decode cX8_setFlags 20 = .ok (.aload_n 0, 1) := by decide +kernel
theorem dX8_setFlags_21 : decode cX8_setFlags 21 = .ok (.getfield 9, 3) := by decide +kernel
theorem dX8_setFlags_24 : decode cX8_setFlags 24 = .ok (.iload_n 1, 1) := by decide +kernel
theorem dX8_setFlags_25 : decode cX8_setFlags 25 = .ok (.iload_n 2, 1) := by decide +kernel
theorem dX8_setFlags_26 : decode cX8_setFlags 26 = .ok (.iastore, 1) := by decide +kernel
theorem dX8_setFlags_27 : decode cX8_setFlags 27 = .ok (.iconst 1, 1) := by decide +kernel
theorem dX8_setFlags_28 : decode cX8_setFlags 28 = .ok (.ireturn, 1) := by decide +kernel
theorem dX8_hasFlag_0 : decode cX8_hasFlag 0 = .ok (.iload_n 1, 1) := by decide +kernel
theorem dX8_hasFlag_1 : decode cX8_hasFlag 1 = .ok (.ifCond .lt 23, 3) := by decide +kernel
theorem dX8_hasFlag_4 : decode cX8_hasFlag 4 = .ok (.iload_n 1, 1) := by decide +kernel
theorem dX8_hasFlag_5 : decode cX8_hasFlag 5 = .ok (.iconst 4, 1) := by decide +kernel
theorem dX8_hasFlag_6 : decode cX8_hasFlag 6 = .ok (.if_icmp .ge 18, 3) := by decide +kernel
theorem dX8_hasFlag_9 : decode cX8_hasFlag 9 = .ok (.aload_n 0, 1) := by decide +kernel
theorem dX8_hasFlag_10 : decode cX8_hasFlag 10 = .ok (.getfield 9, 3) := by decide +kernel
theorem dX8_hasFlag_13 : decode cX8_hasFlag 13 = .ok (.iload_n 1, 1) := by decide +kernel
theorem dX8_hasFlag_14 : decode cX8_hasFlag 14 = .ok (.iaload, 1) := by decide +kernel
theorem dX8_hasFlag_15 : decode cX8_hasFlag 15 = .ok (.iload_n 2, 1) := by decide +kernel
theorem dX8_hasFlag_16 : decode cX8_hasFlag 16 = .ok (.iand, 1) := by decide +kernel
theorem dX8_hasFlag_17 : decode cX8_hasFlag 17 = .ok (.ifCond .eq 7, 3) := by decide +kernel
theorem dX8_hasFlag_20 : decode cX8_hasFlag 20 = .ok (.iconst 1, 1) := by decide +kernel
theorem dX8_hasFlag_21 : decode cX8_hasFlag 21 = .ok (.goto 4, 3) := by decide +kernel
theorem dX8_hasFlag_24 : decode cX8_hasFlag 24 = .ok (.iconst 0, 1) := by decide +kernel
theorem dX8_hasFlag_25 : decode cX8_hasFlag 25 = .ok (.ireturn, 1) := by decide +kernel
theorem dX8_allows_0 : decode cX8_allows 0 = .ok (.iload_n 3, 1) := by decide +kernel
theorem dX8_allows_1 : decode cX8_allows 1 = .ok (.lookupswitch 73 #[(0, 27), (1, 50)], 27) := by decide +kernel
theorem dX8_allows_28 : decode cX8_allows 28 = .ok (.aload_n 0, 1) := by decide +kernel
theorem dX8_allows_29 : decode cX8_allows 29 = .ok (.iload_n 1, 1) := by decide +kernel
theorem dX8_allows_30 : decode cX8_allows 30 = .ok (.iconst 1, 1) := by decide +kernel
theorem dX8_allows_31 : decode cX8_allows 31 = .ok (.invokevirtual 49, 3) := by decide +kernel
theorem dX8_allows_34 : decode cX8_allows 34 = .ok (.ifCond .eq 15, 3) := by decide +kernel
theorem dX8_allows_37 : decode cX8_allows 37 = .ok (.iload_n 2, 1) := by decide +kernel
theorem dX8_allows_38 : decode cX8_allows 38 = .ok (.aload_n 0, 1) := by decide +kernel
theorem dX8_allows_39 : decode cX8_allows 39 = .ok (.getfield 40, 3) := by decide +kernel
theorem dX8_allows_42 : decode cX8_allows 42 = .ok (.if_icmp .gt 7, 3) := by decide +kernel
theorem dX8_allows_45 : decode cX8_allows 45 = .ok (.iconst 1, 1) := by decide +kernel
theorem dX8_allows_46 : decode cX8_allows 46 = .ok (.goto 4, 3) := by decide +kernel
theorem dX8_allows_49 : decode cX8_allows 49 = .ok (.iconst 0, 1) := by decide +kernel
theorem dX8_allows_50 : decode cX8_allows 50 = .ok (.ireturn, 1) := by decide +kernel
theorem dX8_allows_51 : decode cX8_allows 51 = .ok (.aload_n 0, 1) := by decide +kernel
theorem dX8_allows_52 : decode cX8_allows 52 = .ok (.iload_n 1, 1) := by decide +kernel
theorem dX8_allows_53 : decode cX8_allows 53 = .ok (.iconst 2, 1) := by decide +kernel
theorem dX8_allows_54 : decode cX8_allows 54 = .ok (.invokevirtual 49, 3) := by decide +kernel
theorem dX8_allows_57 : decode cX8_allows 57 = .ok (.ifCond .eq 15, 3) := by decide +kernel
theorem dX8_allows_60 : decode cX8_allows 60 = .ok (.iload_n 2, 1) := by decide +kernel
theorem dX8_allows_61 : decode cX8_allows 61 = .ok (.aload_n 0, 1) := by decide +kernel
theorem dX8_allows_62 : decode cX8_allows 62 = .ok (.getfield 37, 3) := by decide +kernel
theorem dX8_allows_65 : decode cX8_allows 65 = .ok (.if_icmp .gt 7, 3) := by decide +kernel
theorem dX8_allows_68 : decode cX8_allows 68 = .ok (.iconst 1, 1) := by decide +kernel
theorem dX8_allows_69 : decode cX8_allows 69 = .ok (.goto 4, 3) := by decide +kernel
theorem dX8_allows_72 : decode cX8_allows 72 = .ok (.iconst 0, 1) := by decide +kernel
theorem dX8_allows_73 : decode cX8_allows 73 = .ok (.ireturn, 1) := by decide +kernel
theorem dX8_allows_74 : decode cX8_allows 74 = .ok (.aload_n 0, 1) := by decide +kernel
theorem dX8_allows_75 : decode cX8_allows 75 = .ok (.iload_n 1, 1) := by decide +kernel
theorem dX8_allows_76 : decode cX8_allows 76 = .ok (.iconst 4, 1) := by decide +kernel
theorem dX8_allows_77 : decode cX8_allows 77 = .ok (.invokevirtual 49, 3) := by decide +kernel
theorem dX8_allows_80 : decode cX8_allows 80 = .ok (.ifCond .eq 23, 3) := by decide +kernel
theorem dX8_allows_83 : decode cX8_allows 83 = .ok (.iload_n 2, 1) := by decide +kernel
theorem dX8_allows_84 : decode cX8_allows 84 = .ok (.aload_n 0, 1) := by decide +kernel
theorem dX8_allows_85 : decode cX8_allows 85 = .ok (.getfield 37, 3) := by decide +kernel
theorem dX8_allows_88 : decode cX8_allows 88 = .ok (.if_icmp .lt 15, 3) := by decide +kernel
theorem dX8_allows_91 : decode cX8_allows 91 = .ok (.iload_n 2, 1) := by decide +kernel
theorem dX8_allows_92 : decode cX8_allows 92 = .ok (.aload_n 0, 1) := by decide +kernel
theorem dX8_allows_93 : decode cX8_allows 93 = .ok (.getfield 40, 3) := by decide +kernel
theorem dX8_allows_96 : decode cX8_allows 96 = .ok (.if_icmp .gt 7, 3) := by decide +kernel
theorem dX8_allows_99 : decode cX8_allows 99 = .ok (.iconst 1, 1) := by decide +kernel
theorem dX8_allows_100 : decode cX8_allows 100 = .ok (.goto 4, 3) := by decide +kernel
theorem dX8_allows_103 : decode cX8_allows 103 = .ok (.iconst 0, 1) := by decide +kernel
theorem dX8_allows_104 : decode cX8_allows 104 = .ok (.ireturn, 1) := by decide +kernel
theorem dX9_init_0 : decode cX9_init 0 = .ok (.aload_n 0, 1) := by decide +kernel
theorem dX9_init_1 : decode cX9_init 1 = .ok (.invokespecial 1, 3) := by decide +kernel
theorem dX9_init_4 : decode cX9_init 4 = .ok (.aload_n 0, 1) := by decide +kernel
theorem dX9_init_5 : decode cX9_init 5 = .ok (.new 7, 3) := by decide +kernel
theorem dX9_init_8 : decode cX9_init 8 = .ok (.dup, 1) := by decide +kernel
theorem dX9_init_9 : decode cX9_init 9 = .ok (.invokespecial 9, 3) := by decide +kernel
theorem dX9_init_12 : decode cX9_init 12 = .ok (.putfield 10, 3) := by decide +kernel
theorem dX9_init_15 : decode cX9_init 15 = .ok (.aload_n 0, 1) := by decide +kernel
theorem dX9_init_16 : decode cX9_init 16 = .ok (.new 16, 3) := by decide +kernel
theorem dX9_init_19 : decode cX9_init 19 = .ok (.dup, 1) := by decide +kernel
theorem dX9_init_20 : decode cX9_init 20 = .ok (.invokespecial 18, 3) := by decide +kernel
theorem dX9_init_23 : decode cX9_init 23 = .ok (.putfield 19, 3) := by decide +kernel
theorem dX9_init_26 : decode cX9_init 26 = .ok (.aload_n 0, 1) := by decide +kernel
theorem dX9_init_27 : decode cX9_init 27 = .ok (.new 23, 3) := by decide +kernel
theorem dX9_init_30 : decode cX9_init 30 = .ok (.dup, 1) := by decide +kernel
theorem dX9_init_31 : decode cX9_init 31 = .ok (.aload_n 0, 1) := by decide +kernel
theorem dX9_init_32 : decode cX9_init 32 = .ok (.getfield 10, 3) := by decide +kernel
theorem dX9_init_35 : decode cX9_init 35 = .ok (.aload_n 0, 1) := by decide +kernel
theorem dX9_init_36 : decode cX9_init 36 = .ok (.getfield 19, 3) := by decide +kernel
theorem dX9_init_39 : decode cX9_init 39 = .ok (.invokespecial 25, 3) := by decide +kernel
theorem dX9_init_42 : decode cX9_init 42 = .ok (.putfield 28, 3) := by decide +kernel
theorem dX9_init_45 : decode cX9_init 45 = .ok (.aload_n 0, 1) := by decide +kernel
theorem dX9_init_46 : decode cX9_init 46 = .ok (.iconst 4, 1) := by decide +kernel
theorem dX9_init_47 : decode cX9_init 47 = .ok (.anewarray 32, 3) := by decide +kernel
theorem dX9_init_50 : decode cX9_init 50 = .ok (.putfield 34, 3) := by decide +kernel
theorem dX9_init_53 : decode cX9_init 53 = .ok (.return_, 1) := by decide +kernel
theorem dX9_segment_0 : decode cX9_segment 0 = .ok (.aload_n 0, 1) := by decide +kernel
theorem dX9_segment_1 : decode cX9_segment 1 = .ok (.getfield 10, 3) := by decide +kernel
theorem dX9_segment_4 : decode cX9_segment 4 = .ok (.iload_n 1, 1) := by decide +kernel
theorem dX9_segment_5 : decode cX9_segment 5 = .ok (.iload_n 2, 1) := by decide +kernel
theorem dX9_segment_6 : decode cX9_segment 6 = .ok (.invokevirtual 38, 3) := by decide +kernel
theorem dX9_segment_9 : decode cX9_segment 9 = .ok (.ireturn, 1) := by decide +kernel
theorem dX9_brackets_0 : decode cX9_brackets 0 = .ok (.aload_n 0, 1) := by decide +kernel
theorem dX9_brackets_1 : decode cX9_brackets 1 = .ok (.getfield 10, 3) := by decide +kernel
theorem dX9_brackets_4 : decode cX9_brackets 4 = .ok (.iload_n 1, 1) := by decide +kernel
theorem dX9_brackets_5 : decode cX9_brackets 5 = .ok (.invokevirtual 42, 3) := by decide +kernel
theorem dX9_brackets_8 : decode cX9_brackets 8 = .ok (.astore 6, 2) := by decide +kernel
theorem dX9_brackets_10 : decode cX9_brackets 10 = .ok (.aload 6, 2) := by decide +kernel
theorem dX9_brackets_12 : decode cX9_brackets 12 = .ok (.ifnull 21, 3) := by decide +kernel
theorem dX9_brackets_15 : decode cX9_brackets 15 = .ok (.aload 6, 2) := by decide +kernel
theorem dX9_brackets_17 : decode cX9_brackets 17 = .ok (.iload_n 2, 1) := by decide +kernel
theorem dX9_brackets_18 : decode cX9_brackets 18 = .ok (.iload_n 3, 1) := by decide +kernel
theorem dX9_brackets_19 : decode cX9_brackets 19 = .ok (.iload 4, 2) := by decide +kernel
theorem dX9_brackets_21 : decode cX9_brackets 21 = .ok (.iload 5, 2) := by decide +kernel
theorem dX9_brackets_23 : decode cX9_brackets 23 = .ok (.invokevirtual 46, 3) := by decide +kernel
theorem dX9_brackets_26 : decode cX9_brackets 26 = .ok (.ifCond .eq 7, 3) := by decide +kernel
theorem dX9_brackets_29 : decode cX9_brackets 29 = .ok (.iconst 1, 1) := by decide +kernel
theorem dX9_brackets_30 : decode cX9_brackets 30 = .ok (.goto 4, 3) := by decide +kernel
theorem dX9_brackets_33 : decode cX9_brackets 33 = .ok (.iconst 0, 1) := by decide +kernel
theorem dX9_brackets_34 : decode cX9_brackets 34 = .ok (.ireturn, 1) := by decide +kernel
theorem dX9_flags_0 : decode cX9_flags 0 = .ok (.aload_n 0, 1) := by decide +kernel
theorem dX9_flags_1 : decode cX9_flags 1 = .ok (.getfield 10, 3) := by decide +kernel
theorem dX9_flags_4 : decode cX9_flags 4 = .ok (.iload_n 1, 1) := by decide +kernel
theorem dX9_flags_5 : decode cX9_flags 5 = .ok (.invokevirtual 42, 3) := by decide +kernel
theorem dX9_flags_8 : decode cX9_flags 8 = .ok (.astore 4, 2) := by decide +kernel
theorem dX9_flags_10 : decode cX9_flags 10 = .ok (.aload 4, 2) := by decide +kernel
theorem dX9_flags_12 : decode cX9_flags 12 = .ok (.ifnull 17, 3) := by decide +kernel
theorem dX9_flags_15 : decode cX9_flags 15 = .ok (.aload 4, 2) := by decide +kernel
theorem dX9_flags_17 : decode cX9_flags 17 = .ok (.iload_n 2, 1) := by decide +kernel
theorem dX9_flags_18 : decode cX9_flags 18 = .ok (.iload_n 3, 1) := by decide +kernel
theorem dX9_flags_19 : decode cX9_flags 19 = .ok (.invokevirtual 52, 3) := by decide +kernel
theorem dX9_flags_22 : decode cX9_flags 22 = .ok (.ifCond .eq 7, 3) := by decide +kernel
theorem dX9_flags_25 : decode cX9_flags 25 = .ok (.iconst 1, 1) := by decide +kernel
theorem dX9_flags_26 : decode cX9_flags 26 = .ok (.goto 4, 3) := by decide +kernel
theorem dX9_flags_29 : decode cX9_flags 29 = .ok (.iconst 0, 1) := by decide +kernel
theorem dX9_flags_30 : decode cX9_flags 30 = .ok (.ireturn, 1) := by decide +kernel
theorem dX9_word_0 : decode cX9_word 0 = .ok (.aload_n 0, 1) := by decide +kernel
theorem dX9_word_1 : decode cX9_word 1 = .ok (.getfield 10, 3) := by decide +kernel
theorem dX9_word_4 : decode cX9_word 4 = .ok (.iload_n 1, 1) := by decide +kernel
theorem dX9_word_5 : decode cX9_word 5 = .ok (.invokevirtual 42, 3) := by decide +kernel
theorem dX9_word_8 : decode cX9_word 8 = .ok (.astore 4, 2) := by decide +kernel
theorem dX9_word_10 : decode cX9_word 10 = .ok (.aload 4, 2) := by decide +kernel
theorem dX9_word_12 : decode cX9_word 12 = .ok (.ifnull 17, 3) := by decide +kernel
theorem dX9_word_15 : decode cX9_word 15 = .ok (.aload 4, 2) := by decide +kernel
theorem dX9_word_17 : decode cX9_word 17 = .ok (.iload_n 2, 1) := by decide +kernel
theorem dX9_word_18 : decode cX9_word 18 = .ok (.iload_n 3, 1) := by decide +kernel
theorem dX9_word_19 : decode cX9_word 19 = .ok (.invokevirtual 56, 3) := by decide +kernel
theorem dX9_word_22 : decode cX9_word 22 = .ok (.ifCond .eq 7, 3) := by decide +kernel
theorem dX9_word_25 : decode cX9_word 25 = .ok (.iconst 1, 1) := by decide +kernel
theorem dX9_word_26 : decode cX9_word 26 = .ok (.goto 4, 3) := by decide +kernel
theorem dX9_word_29 : decode cX9_word 29 = .ok (.iconst 0, 1) := by decide +kernel
theorem dX9_word_30 : decode cX9_word 30 = .ok (.ireturn, 1) := by decide +kernel
theorem dX9_define_0 : decode cX9_define 0 = .ok (.aload_n 0, 1) := by decide +kernel
theorem dX9_define_1 : decode cX9_define 1 = .ok (.getfield 10, 3) := by decide +kernel
theorem dX9_define_4 : decode cX9_define 4 = .ok (.iload_n 1, 1) := by decide +kernel
theorem dX9_define_5 : decode cX9_define 5 = .ok (.invokevirtual 42, 3) := by decide +kernel
theorem dX9_define_8 : decode cX9_define 8 = .ok (.astore 4, 2) := by decide +kernel
theorem dX9_define_10 : decode cX9_define 10 = .ok (.aload 4, 2) := by decide +kernel
theorem dX9_define_12 : decode cX9_define 12 = .ok (.ifnull 29, 3) := by decide +kernel
theorem dX9_define_15 : decode cX9_define 15 = .ok (.aload 4, 2) := by decide +kernel
theorem dX9_define_17 : decode cX9_define 17 = .ok (.iload_n 3, 1) := by decide +kernel
theorem dX9_define_18 : decode cX9_define 18 = .ok (.invokevirtual 59, 3) := by decide +kernel
theorem dX9_define_21 : decode cX9_define 21 = .ok (.ifCond .eq 20, 3) := by decide +kernel
theorem dX9_define_24 : decode cX9_define 24 = .ok (.aload 4, 2) := by decide +kernel
theorem dX9_define_26 : decode cX9_define 26 = .ok (.getfield 63, 3) := by decide +kernel
theorem dX9_define_29 : decode cX9_define 29 = .ok (.iload_n 2, 1) := by decide +kernel
theorem dX9_define_30 : decode cX9_define 30 = .ok (.iload_n 3, 1) := by decide +kernel
theorem dX9_define_31 : decode cX9_define 31 = .ok (.invokevirtual 67, 3) := by decide +kernel
theorem dX9_define_34 : decode cX9_define 34 = .ok (.ifCond .eq 7, 3) := by decide +kernel
theorem dX9_define_37 : decode cX9_define 37 = .ok (.iconst 1, 1) := by decide +kernel
theorem dX9_define_38 : decode cX9_define 38 = .ok (.goto 4, 3) := by decide +kernel
theorem dX9_define_41 : decode cX9_define 41 = .ok (.iconst 0, 1) := by decide +kernel
theorem dX9_define_42 : decode cX9_define 42 = .ok (.ireturn, 1) := by decide +kernel
theorem dX9_link_0 : decode cX9_link 0 = .ok (.aload_n 0, 1) := by decide +kernel
theorem dX9_link_1 : decode cX9_link 1 = .ok (.getfield 10, 3) := by decide +kernel
theorem dX9_link_4 : decode cX9_link 4 = .ok (.iload_n 1, 1) := by decide +kernel
theorem dX9_link_5 : decode cX9_link 5 = .ok (.invokevirtual 42, 3) := by decide +kernel
theorem dX9_link_8 : decode cX9_link 8 = .ok (.astore 5, 2) := by decide +kernel
theorem dX9_link_10 : decode cX9_link 10 = .ok (.aload 5, 2) := by decide +kernel
theorem dX9_link_12 : decode cX9_link 12 = .ok (.ifnull 22, 3) := by decide +kernel
theorem dX9_link_15 : decode cX9_link 15 = .ok (.aload 5, 2) := by decide +kernel
theorem dX9_link_17 : decode cX9_link 17 = .ok (.getfield 63, 3) := by decide +kernel
theorem dX9_link_20 : decode cX9_link 20 = .ok (.iload_n 2, 1) := by decide +kernel
theorem dX9_link_21 : decode cX9_link 21 = .ok (.iload_n 3, 1) := by decide +kernel
theorem dX9_link_22 : decode cX9_link 22 = .ok (.iload 4, 2) := by decide +kernel
theorem dX9_link_24 : decode cX9_link 24 = .ok (.invokevirtual 72, 3) := by decide +kernel
theorem dX9_link_27 : decode cX9_link 27 = .ok (.ifCond .eq 7, 3) := by decide +kernel
theorem dX9_link_30 : decode cX9_link 30 = .ok (.iconst 1, 1) := by decide +kernel
theorem dX9_link_31 : decode cX9_link 31 = .ok (.goto 4, 3) := by decide +kernel
theorem dX9_link_34 : decode cX9_link 34 = .ok (.iconst 0, 1) := by decide +kernel
theorem dX9_link_35 : decode cX9_link 35 = .ok (.ireturn, 1) := by decide +kernel
theorem dX9_start_0 : decode cX9_start 0 = .ok (.aload_n 0, 1) := by decide +kernel
theorem dX9_start_1 : decode cX9_start 1 = .ok (.getfield 10, 3) := by decide +kernel
theorem dX9_start_4 : decode cX9_start 4 = .ok (.iload_n 2, 1) := by decide +kernel
theorem dX9_start_5 : decode cX9_start 5 = .ok (.invokevirtual 42, 3) := by decide +kernel
theorem dX9_start_8 : decode cX9_start 8 = .ok (.astore 5, 2) := by decide +kernel
theorem dX9_start_10 : decode cX9_start 10 = .ok (.iload_n 1, 1) := by decide +kernel
theorem dX9_start_11 : decode cX9_start 11 = .ok (.iconst 4, 1) := by decide +kernel
theorem dX9_start_12 : decode cX9_start 12 = .ok (.invokestatic 76, 3) := by decide +kernel
theorem dX9_start_15 : decode cX9_start 15 = .ok (.ifCond .eq 25, 3) := by decide +kernel
theorem dX9_start_18 : decode cX9_start 18 = .ok (.aload 5, 2) := by decide +kernel
theorem dX9_start_20 : decode cX9_start 20 = .ok (.ifnull 20, 3) := by decide +kernel
theorem dX9_start_23 : decode cX9_start 23 = .ok (.iload 4, 2) := by decide +kernel
theorem dX9_start_25 : decode cX9_start 25 = .ok (.bipush 8, 2) := by decide +kernel
theorem dX9_start_27 : decode cX9_start 27 = .ok (.invokestatic 76, 3) := by decide +kernel
theorem dX9_start_30 : decode cX9_start 30 = .ok (.ifCond .eq 10, 3) := by decide +kernel
theorem dX9_start_33 : decode cX9_start 33 = .ok (.iload_n 3, 1) := by decide +kernel
theorem dX9_start_34 : decode cX9_start 34 = .ok (.invokestatic 79, 3) := by decide +kernel
theorem dX9_start_37 : decode cX9_start 37 = .ok (.ifCond .ne 5, 3) := by decide +kernel
theorem dX9_start_40 : decode cX9_start 40 = .ok (.iconst 0, 1) := by decide +kernel
theorem dX9_start_41 : decode cX9_start 41 = .ok (.ireturn, 1) := by decide +kernel
theorem dX9_start_42 : decode cX9_start 42 = .ok (.aload_n 0, 1) := by decide +kernel
theorem dX9_start_43 : decode cX9_start 43 = .ok (.getfield 34, 3) := by decide +kernel
theorem dX9_start_46 : decode cX9_start 46 = .ok (.iload_n 1, 1) := by decide +kernel
theorem dX9_start_47 : decode cX9_start 47 = .ok (.aaload, 1) := by decide +kernel
theorem dX9_start_48 : decode cX9_start 48 = .ok (.ifnonnull 17, 3) := by decide +kernel
theorem dX9_start_51 : decode cX9_start 51 = .ok (.aload_n 0, 1) := by decide +kernel
theorem dX9_start_52 : decode cX9_start 52 = .ok (.getfield 34, 3) := by decide +kernel
theorem dX9_start_55 : decode cX9_start 55 = .ok (.iload_n 1, 1) := by decide +kernel
theorem dX9_start_56 : decode cX9_start 56 = .ok (.new 32, 3) := by decide +kernel
theorem dX9_start_59 : decode cX9_start 59 = .ok (.dup, 1) := by decide +kernel
theorem dX9_start_60 : decode cX9_start 60 = .ok (.iload_n 1, 1) := by decide +kernel
theorem dX9_start_61 : decode cX9_start 61 = .ok (.invokespecial 82, 3) := by decide +kernel
theorem dX9_start_64 : decode cX9_start 64 = .ok (.aastore, 1) := by decide +kernel
theorem dX9_start_65 : decode cX9_start 65 = .ok (.aload_n 0, 1) := by decide +kernel
theorem dX9_start_66 : decode cX9_start 66 = .ok (.getfield 34, 3) := by decide +kernel
theorem dX9_start_69 : decode cX9_start 69 = .ok (.iload_n 1, 1) := by decide +kernel
theorem dX9_start_70 : decode cX9_start 70 = .ok (.aaload, 1) := by decide +kernel
theorem dX9_start_71 : decode cX9_start 71 = .ok (.aload 5, 2) := by decide +kernel
theorem dX9_start_73 : decode cX9_start 73 = .ok (.iload_n 3, 1) := by decide +kernel
theorem dX9_start_74 : decode cX9_start 74 = .ok (.iload 4, 2) := by decide +kernel
theorem dX9_start_76 : decode cX9_start 76 = .ok (.invokevirtual 85, 3) := by decide +kernel
theorem dX9_start_79 : decode cX9_start 79 = .ok (.iconst 1, 1) := by decide +kernel
theorem dX9_start_80 : decode cX9_start 80 = .ok (.ireturn, 1) := by decide +kernel
theorem dX9_handler_0 : decode cX9_handler 0 = .ok (.aload_n 0, 1) := by decide +kernel
theorem dX9_handler_1 : decode cX9_handler 1 = .ok (.iload_n 1, 1) := by decide +kernel
theorem dX9_handler_2 : decode cX9_handler 2 = .ok (.invokevirtual 89, 3) := by decide +kernel
theorem dX9_handler_5 : decode cX9_handler 5 = .ok (.astore 4, 2) := by decide +kernel
theorem dX9_handler_7 : decode cX9_handler 7 = .ok (.aload_n 0, 1) := by decide +kernel
theorem dX9_handler_8 : decode cX9_handler 8 = .ok (.getfield 10, 3) := by decide +kernel
theorem dX9_handler_11 : decode cX9_handler 11 = .ok (.iload_n 2, 1) := by decide +kernel
theorem dX9_handler_12 : decode cX9_handler 12 = .ok (.invokevirtual 42, 3) := by decide +kernel
theorem dX9_handler_15 : decode cX9_handler 15 = .ok (.astore 5, 2) := by decide +kernel
theorem dX9_handler_17 : decode cX9_handler 17 = .ok (.aload 4, 2) := by decide +kernel
theorem dX9_handler_19 : decode cX9_handler 19 = .ok (.ifnull 15, 3) := by decide +kernel
theorem dX9_handler_22 : decode cX9_handler 22 = .ok (.aload 5, 2) := by decide +kernel
theorem dX9_handler_24 : decode cX9_handler 24 = .ok (.ifnull 10, 3) := by decide +kernel
theorem dX9_handler_27 : decode cX9_handler 27 = .ok (.iload_n 3, 1) := by decide +kernel
theorem dX9_handler_28 : decode cX9_handler 28 = .ok (.invokestatic 79, 3) := by decide +kernel
theorem dX9_handler_31 : decode cX9_handler 31 = .ok (.ifCond .ne 5, 3) := by decide +kernel
theorem dX9_handler_34 : decode cX9_handler 34 = .ok (.iconst (-1), 1) := by decide +kernel
theorem dX9_handler_35 : decode cX9_handler 35 = .ok (.ireturn, 1) := by decide +kernel
theorem dX9_handler_36 : decode cX9_handler 36 = .ok (.aload 4, 2) := by decide +kernel
theorem dX9_handler_38 : decode cX9_handler 38 = .ok (.aload 5, 2) := by decide +kernel
theorem dX9_handler_40 : decode cX9_handler 40 = .ok (.iload_n 3, 1) := by decide +kernel
theorem dX9_handler_41 : decode cX9_handler 41 = .ok (.invokevirtual 93, 3) := by decide +kernel
theorem dX9_handler_44 : decode cX9_handler 44 = .ok (.ireturn, 1) := by decide +kernel
theorem dX9_run_0 : decode cX9_run 0 = .ok (.aload_n 0, 1) := by decide +kernel
theorem dX9_run_1 : decode cX9_run 1 = .ok (.iload_n 1, 1) := by decide +kernel
theorem dX9_run_2 : decode cX9_run 2 = .ok (.invokevirtual 89, 3) := by decide +kernel
theorem dX9_run_5 : decode cX9_run 5 = .ok (.astore_n 3, 1) := by decide +kernel
theorem dX9_run_6 : decode cX9_run 6 = .ok (.aload_n 3, 1) := by decide +kernel
theorem dX9_run_7 : decode cX9_run 7 = .ok (.ifnull 14, 3) := by decide +kernel
theorem dX9_run_10 : decode cX9_run 10 = .ok (.iload_n 2, 1) := by decide +kernel
theorem dX9_run_11 : decode cX9_run 11 = .ok (.ifCond .lt 10, 3) := by decide +kernel
theorem dX9_run_14 : decode cX9_run 14 = .ok (.iload_n 2, 1) := by decide +kernel
theorem dX9_run_15 : decode cX9_run 15 = .ok (.sipush 500, 3) := by decide +kernel
theorem dX9_run_18 : decode cX9_run 18 = .ok (.if_icmp .le 5, 3) := by decide +kernel
theorem dX9_run_21 : decode cX9_run 21 = .ok (.iconst (-1), 1) := by decide +kernel
theorem dX9_run_22 : decode cX9_run 22 = .ok (.ireturn, 1) := by decide +kernel
theorem dX9_run_23 : decode cX9_run 23 = .ok (.iconst 0, 1) := by decide +kernel
theorem dX9_run_24 : decode cX9_run 24 = .ok (.istore 4, 2) := by decide +kernel
theorem dX9_run_26 : decode cX9_run 26 = .ok (.iload 4, 2) := by decide +kernel
theorem dX9_run_28 : decode cX9_run 28 = .ok (.iload_n 2, 1) := by decide +kernel
theorem dX9_run_29 : decode cX9_run 29 = .ok (.if_icmp .ge 25, 3) := by decide +kernel
theorem dX9_run_32 : decode cX9_run 32 = .ok (.aload_n 3, 1) := by decide +kernel
theorem dX9_run_33 : decode cX9_run 33 = .ok (.getfield 97, 3) := by decide +kernel
theorem dX9_run_36 : decode cX9_run 36 = .ok (.iconst 1, 1) := by decide +kernel
theorem dX9_run_37 : decode cX9_run 37 = .ok (.if_icmp .ne 17, 3) := by decide +kernel
theorem dX9_run_40 : decode cX9_run 40 = .ok (.aload_n 0, 1) := by decide +kernel
theorem dX9_run_41 : decode cX9_run 41 = .ok (.getfield 28, 3) := by decide +kernel
theorem dX9_run_44 : decode cX9_run 44 = .ok (.aload_n 3, 1) := by decide +kernel
theorem dX9_run_45 : decode cX9_run 45 = .ok (.invokevirtual 101, 3) := by decide +kernel
theorem dX9_run_48 : decode cX9_run 48 = .ok (.iinc 4 1, 3) := by decide +kernel
theorem dX9_run_51 : decode cX9_run 51 = .ok (.goto (-25), 3) := by decide +kernel
theorem dX9_run_54 : decode cX9_run 54 = .ok (.iload 4, 2) := by decide +kernel
theorem dX9_run_56 : decode cX9_run 56 = .ok (.ireturn, 1) := by decide +kernel
theorem dX9_state_0 : decode cX9_state 0 = .ok (.aload_n 0, 1) := by decide +kernel
theorem dX9_state_1 : decode cX9_state 1 = .ok (.iload_n 1, 1) := by decide +kernel
theorem dX9_state_2 : decode cX9_state 2 = .ok (.invokevirtual 89, 3) := by decide +kernel
theorem dX9_state_5 : decode cX9_state 5 = .ok (.astore_n 3, 1) := by decide +kernel
theorem dX9_state_6 : decode cX9_state 6 = .ok (.aload_n 3, 1) := by decide +kernel
theorem dX9_state_7 : decode cX9_state 7 = .ok (.ifnonnull 7, 3) := by decide +kernel
theorem dX9_state_10 : decode cX9_state 10 = .ok (.iconst 0, 1) := by decide +kernel
theorem dX9_state_11 : decode cX9_state 11 = .ok (.goto 8, 3) := by decide +kernel
theorem dX9_state_14 : decode cX9_state 14 = .ok (.aload_n 3, 1) := by decide +kernel
theorem dX9_state_15 : decode cX9_state 15 = .ok (.iload_n 2, 1) := by decide +kernel
theorem dX9_state_16 : decode cX9_state 16 = .ok (.invokevirtual 105, 3) := by decide +kernel
theorem dX9_state_19 : decode cX9_state 19 = .ok (.ireturn, 1) := by decide +kernel
theorem dX9_pointer_0 : decode cX9_pointer 0 = .ok (.aload_n 0, 1) := by decide +kernel
theorem dX9_pointer_1 : decode cX9_pointer 1 = .ok (.iload_n 1, 1) := by decide +kernel
theorem dX9_pointer_2 : decode cX9_pointer 2 = .ok (.invokevirtual 89, 3) := by decide +kernel
theorem dX9_pointer_5 : decode cX9_pointer 5 = .ok (.astore 4, 2) := by decide +kernel
theorem dX9_pointer_7 : decode cX9_pointer 7 = .ok (.aload 4, 2) := by decide +kernel
theorem dX9_pointer_9 : decode cX9_pointer 9 = .ok (.ifnull 12, 3) := by decide +kernel
theorem dX9_pointer_12 : decode cX9_pointer 12 = .ok (.iload_n 2, 1) := by decide +kernel
theorem dX9_pointer_13 : decode cX9_pointer 13 = .ok (.bipush 8, 2) := by decide +kernel
theorem dX9_pointer_15 : decode cX9_pointer 15 = .ok (.invokestatic 76, 3) := by decide +kernel
theorem dX9_pointer_18 : decode cX9_pointer 18 = .ok (.ifCond .ne 5, 3) := by decide +kernel
theorem dX9_pointer_21 : decode cX9_pointer 21 = .ok (.iconst (-1), 1) := by decide +kernel
theorem dX9_pointer_22 : decode cX9_pointer 22 = .ok (.ireturn, 1) := by decide +kernel
theorem dX9_pointer_23 : decode cX9_pointer 23 = .ok (.aload 4, 2) := by decide +kernel
theorem dX9_pointer_25 : decode cX9_pointer 25 = .ok (.getfield 109, 3) := by decide +kernel
theorem dX9_pointer_28 : decode cX9_pointer 28 = .ok (.getfield 113, 3) := by decide +kernel
theorem dX9_pointer_31 : decode cX9_pointer 31 = .ok (.iload_n 2, 1) := by decide +kernel
theorem dX9_pointer_32 : decode cX9_pointer 32 = .ok (.aaload, 1) := by decide +kernel
theorem dX9_pointer_33 : decode cX9_pointer 33 = .ok (.astore 5, 2) := by decide +kernel
theorem dX9_pointer_35 : decode cX9_pointer 35 = .ok (.iload_n 3, 1) := by decide +kernel
theorem dX9_pointer_36 : decode cX9_pointer 36 = .ok (.tableswitch 46 0 2 #[28, 34, 40], 28) := by decide +kernel
theorem dX9_pointer_64 : decode cX9_pointer 64 = .ok (.aload 5, 2) := by decide +kernel
theorem dX9_pointer_66 : decode cX9_pointer 66 = .ok (.getfield 119, 3) := by decide +kernel
theorem dX9_pointer_69 : decode cX9_pointer 69 = .ok (.ireturn, 1) := by decide +kernel
theorem dX9_pointer_70 : decode cX9_pointer 70 = .ok (.aload 5, 2) := by decide +kernel
theorem dX9_pointer_72 : decode cX9_pointer 72 = .ok (.getfield 124, 3) := by decide +kernel
theorem dX9_pointer_75 : decode cX9_pointer 75 = .ok (.ireturn, 1) := by decide +kernel
theorem dX9_pointer_76 : decode cX9_pointer 76 = .ok (.aload 5, 2) := by decide +kernel
theorem dX9_pointer_78 : decode cX9_pointer 78 = .ok (.getfield 127, 3) := by decide +kernel
theorem dX9_pointer_81 : decode cX9_pointer 81 = .ok (.ireturn, 1) := by decide +kernel
theorem dX9_pointer_82 : decode cX9_pointer 82 = .ok (.iconst (-1), 1) := by decide +kernel
theorem dX9_pointer_83 : decode cX9_pointer 83 = .ok (.ireturn, 1) := by decide +kernel
theorem dX9_peek_0 : decode cX9_peek 0 = .ok (.aload_n 0, 1) := by decide +kernel
theorem dX9_peek_1 : decode cX9_peek 1 = .ok (.iload_n 1, 1) := by decide +kernel
theorem dX9_peek_2 : decode cX9_peek 2 = .ok (.invokevirtual 89, 3) := by decide +kernel
theorem dX9_peek_5 : decode cX9_peek 5 = .ok (.astore 4, 2) := by decide +kernel
theorem dX9_peek_7 : decode cX9_peek 7 = .ok (.aload 4, 2) := by decide +kernel
theorem dX9_peek_9 : decode cX9_peek 9 = .ok (.ifnonnull 7, 3) := by decide +kernel
theorem dX9_peek_12 : decode cX9_peek 12 = .ok (.aconst_null, 1) := by decide +kernel
theorem dX9_peek_13 : decode cX9_peek 13 = .ok (.goto 9, 3) := by decide +kernel
theorem dX9_peek_16 : decode cX9_peek 16 = .ok (.aload 4, 2) := by decide +kernel
theorem dX9_peek_18 : decode cX9_peek 18 = .ok (.iload_n 2, 1) := by decide +kernel
theorem dX9_peek_19 : decode cX9_peek 19 = .ok (.invokevirtual 130, 3) := by decide +kernel
theorem dX9_peek_22 : decode cX9_peek 22 = .ok (.astore 5, 2) := by decide +kernel
theorem dX9_peek_24 : decode cX9_peek 24 = .ok (.aload 5, 2) := by decide +kernel
theorem dX9_peek_26 : decode cX9_peek 26 = .ok (.ifnonnull 7, 3) := by decide +kernel
theorem dX9_peek_29 : decode cX9_peek 29 = .ok (.iconst 0, 1) := by decide +kernel
theorem dX9_peek_30 : decode cX9_peek 30 = .ok (.goto 9, 3) := by decide +kernel
theorem dX9_peek_33 : decode cX9_peek 33 = .ok (.aload 5, 2) := by decide +kernel
theorem dX9_peek_35 : decode cX9_peek 35 = .ok (.iload_n 3, 1) := by decide +kernel
theorem dX9_peek_36 : decode cX9_peek 36 = .ok (.invokevirtual 133, 3) := by decide +kernel
theorem dX9_peek_39 : decode cX9_peek 39 = .ok (.ireturn, 1) := by decide +kernel
theorem dX9_stored_0 : decode cX9_stored 0 = .ok (.aload_n 0, 1) := by decide +kernel
theorem dX9_stored_1 : decode cX9_stored 1 = .ok (.getfield 10, 3) := by decide +kernel
theorem dX9_stored_4 : decode cX9_stored 4 = .ok (.iload_n 1, 1) := by decide +kernel
theorem dX9_stored_5 : decode cX9_stored 5 = .ok (.invokevirtual 42, 3) := by decide +kernel
theorem dX9_stored_8 : decode cX9_stored 8 = .ok (.astore_n 3, 1) := by decide +kernel
theorem dX9_stored_9 : decode cX9_stored 9 = .ok (.aload_n 3, 1) := by decide +kernel
theorem dX9_stored_10 : decode cX9_stored 10 = .ok (.ifnonnull 7, 3) := by decide +kernel
theorem dX9_stored_13 : decode cX9_stored 13 = .ok (.iconst 0, 1) := by decide +kernel
theorem dX9_stored_14 : decode cX9_stored 14 = .ok (.goto 8, 3) := by decide +kernel
theorem dX9_stored_17 : decode cX9_stored 17 = .ok (.aload_n 3, 1) := by decide +kernel
theorem dX9_stored_18 : decode cX9_stored 18 = .ok (.iload_n 2, 1) := by decide +kernel
theorem dX9_stored_19 : decode cX9_stored 19 = .ok (.invokevirtual 133, 3) := by decide +kernel
theorem dX9_stored_22 : decode cX9_stored 22 = .ok (.ireturn, 1) := by decide +kernel
theorem dX9_known_0 : decode cX9_known 0 = .ok (.aload_n 0, 1) := by decide +kernel
theorem dX9_known_1 : decode cX9_known 1 = .ok (.iload_n 1, 1) := by decide +kernel
theorem dX9_known_2 : decode cX9_known 2 = .ok (.invokevirtual 89, 3) := by decide +kernel
theorem dX9_known_5 : decode cX9_known 5 = .ok (.astore_n 3, 1) := by decide +kernel
theorem dX9_known_6 : decode cX9_known 6 = .ok (.aload_n 3, 1) := by decide +kernel
theorem dX9_known_7 : decode cX9_known 7 = .ok (.ifnonnull 7, 3) := by decide +kernel
theorem dX9_known_10 : decode cX9_known 10 = .ok (.aconst_null, 1) := by decide +kernel
theorem dX9_known_11 : decode cX9_known 11 = .ok (.goto 8, 3) := by decide +kernel
theorem dX9_known_14 : decode cX9_known 14 = .ok (.aload_n 3, 1) := by decide +kernel
theorem dX9_known_15 : decode cX9_known 15 = .ok (.iload_n 2, 1) := by decide +kernel
theorem dX9_known_16 : decode cX9_known 16 = .ok (.invokevirtual 130, 3) := by decide +kernel
theorem dX9_known_19 : decode cX9_known 19 = .ok (.astore 4, 2) := by decide +kernel
theorem dX9_known_21 : decode cX9_known 21 = .ok (.aload 4, 2) := by decide +kernel
theorem dX9_known_23 : decode cX9_known 23 = .ok (.ifnonnull 7, 3) := by decide +kernel
theorem dX9_known_26 : decode cX9_known 26 = .ok (.iconst (-1), 1) := by decide +kernel
theorem dX9_known_27 : decode cX9_known 27 = .ok (.goto 8, 3) := by decide +kernel
theorem dX9_known_30 : decode cX9_known 30 = .ok (.aload 4, 2) := by decide +kernel
theorem dX9_known_32 : decode cX9_known 32 = .ok (.getfield 136, 3) := by decide +kernel
theorem dX9_known_35 : decode cX9_known 35 = .ok (.ireturn, 1) := by decide +kernel
theorem dX9_may_0 : decode cX9_may 0 = .ok (.aload_n 0, 1) := by decide +kernel
theorem dX9_may_1 : decode cX9_may 1 = .ok (.iload_n 1, 1) := by decide +kernel
theorem dX9_may_2 : decode cX9_may 2 = .ok (.invokevirtual 89, 3) := by decide +kernel
theorem dX9_may_5 : decode cX9_may 5 = .ok (.astore 5, 2) := by decide +kernel
theorem dX9_may_7 : decode cX9_may 7 = .ok (.aload 5, 2) := by decide +kernel
theorem dX9_may_9 : decode cX9_may 9 = .ok (.ifnonnull 7, 3) := by decide +kernel
theorem dX9_may_12 : decode cX9_may 12 = .ok (.aconst_null, 1) := by decide +kernel
theorem dX9_may_13 : decode cX9_may 13 = .ok (.goto 9, 3) := by decide +kernel
theorem dX9_may_16 : decode cX9_may 16 = .ok (.aload 5, 2) := by decide +kernel
theorem dX9_may_18 : decode cX9_may 18 = .ok (.iload_n 3, 1) := by decide +kernel
theorem dX9_may_19 : decode cX9_may 19 = .ok (.invokevirtual 130, 3) := by decide +kernel
theorem dX9_may_22 : decode cX9_may 22 = .ok (.astore 6, 2) := by decide +kernel
theorem dX9_may_24 : decode cX9_may 24 = .ok (.aload 6, 2) := by decide +kernel
theorem dX9_may_26 : decode cX9_may 26 = .ok (.ifnull 23, 3) := by decide +kernel
theorem dX9_may_29 : decode cX9_may 29 = .ok (.iload_n 2, 1) := by decide +kernel
theorem dX9_may_30 : decode cX9_may 30 = .ok (.bipush 8, 2) := by decide +kernel
theorem dX9_may_32 : decode cX9_may 32 = .ok (.invokestatic 76, 3) := by decide +kernel
theorem dX9_may_35 : decode cX9_may 35 = .ok (.ifCond .eq 14, 3) := by decide +kernel
theorem dX9_may_38 : decode cX9_may 38 = .ok (.iload 4, 2) := by decide +kernel
theorem dX9_may_40 : decode cX9_may 40 = .ok (.ifCond .lt 9, 3) := by decide +kernel
theorem dX9_may_43 : decode cX9_may 43 = .ok (.iload 4, 2) := by decide +kernel
theorem dX9_may_45 : decode cX9_may 45 = .ok (.iconst 2, 1) := by decide +kernel
theorem dX9_may_46 : decode cX9_may 46 = .ok (.if_icmp .le 5, 3) := by decide +kernel
theorem dX9_may_49 : decode cX9_may 49 = .ok (.iconst (-1), 1) := by decide +kernel
theorem dX9_may_50 : decode cX9_may 50 = .ok (.ireturn, 1) := by decide +kernel
theorem dX9_may_51 : decode cX9_may 51 = .ok (.aload 6, 2) := by decide +kernel
theorem dX9_may_53 : decode cX9_may 53 = .ok (.iload_n 1, 1) := by decide +kernel
theorem dX9_may_54 : decode cX9_may 54 = .ok (.iload_n 2, 1) := by decide +kernel
theorem dX9_may_55 : decode cX9_may 55 = .ok (.iload 4, 2) := by decide +kernel
theorem dX9_may_57 : decode cX9_may 57 = .ok (.invokevirtual 137, 3) := by decide +kernel
theorem dX9_may_60 : decode cX9_may 60 = .ok (.ifCond .eq 7, 3) := by decide +kernel
theorem dX9_may_63 : decode cX9_may 63 = .ok (.iconst 1, 1) := by decide +kernel
theorem dX9_may_64 : decode cX9_may 64 = .ok (.goto 4, 3) := by decide +kernel
theorem dX9_may_67 : decode cX9_may 67 = .ok (.iconst 0, 1) := by decide +kernel
theorem dX9_may_68 : decode cX9_may 68 = .ok (.ireturn, 1) := by decide +kernel
theorem dX9_said_0 : decode cX9_said 0 = .ok (.aload_n 0, 1) := by decide +kernel
theorem dX9_said_1 : decode cX9_said 1 = .ok (.getfield 19, 3) := by decide +kernel
theorem dX9_said_4 : decode cX9_said 4 = .ok (.iload_n 1, 1) := by decide +kernel
theorem dX9_said_5 : decode cX9_said 5 = .ok (.invokevirtual 140, 3) := by decide +kernel
theorem dX9_said_8 : decode cX9_said 8 = .ok (.ireturn, 1) := by decide +kernel
theorem dX9_sayings_0 : decode cX9_sayings 0 = .ok (.aload_n 0, 1) := by decide +kernel
theorem dX9_sayings_1 : decode cX9_sayings 1 = .ok (.getfield 19, 3) := by decide +kernel
theorem dX9_sayings_4 : decode cX9_sayings 4 = .ok (.getfield 143, 3) := by decide +kernel
theorem dX9_sayings_7 : decode cX9_sayings 7 = .ok (.ireturn, 1) := by decide +kernel
theorem dX9_processAt_0 : decode cX9_processAt 0 = .ok (.iload_n 1, 1) := by decide +kernel
theorem dX9_processAt_1 : decode cX9_processAt 1 = .ok (.iconst 4, 1) := by decide +kernel
theorem dX9_processAt_2 : decode cX9_processAt 2 = .ok (.invokestatic 76, 3) := by decide +kernel
theorem dX9_processAt_5 : decode cX9_processAt 5 = .ok (.ifCond .eq 12, 3) := by decide +kernel
theorem dX9_processAt_8 : decode cX9_processAt 8 = .ok (.aload_n 0, 1) := by decide +kernel
theorem dX9_processAt_9 : decode cX9_processAt 9 = .ok (.getfield 34, 3) := by decide +kernel
theorem dX9_processAt_12 : decode cX9_processAt 12 = .ok (.iload_n 1, 1) := by decide +kernel
theorem dX9_processAt_13 : decode cX9_processAt 13 = .ok (.aaload, 1) := by decide +kernel
theorem dX9_processAt_14 : decode cX9_processAt 14 = .ok (.goto 4, 3) := by decide +kernel
theorem dX9_processAt_17 : decode cX9_processAt 17 = .ok (.aconst_null, 1) := by decide +kernel
theorem dX9_processAt_18 : decode cX9_processAt 18 = .ok (.areturn, 1) := by decide +kernel
theorem dX9_isBelow_0 : decode cX9_isBelow 0 = .ok (.iload_n 0, 1) := by decide +kernel
theorem dX9_isBelow_1 : decode cX9_isBelow 1 = .ok (.ifCond .lt 12, 3) := by decide +kernel
theorem dX9_isBelow_4 : decode cX9_isBelow 4 = .ok (.iload_n 0, 1) := by decide +kernel
theorem dX9_isBelow_5 : decode cX9_isBelow 5 = .ok (.iload_n 1, 1) := by decide +kernel
theorem dX9_isBelow_6 : decode cX9_isBelow 6 = .ok (.if_icmp .ge 7, 3) := by decide +kernel
theorem dX9_isBelow_9 : decode cX9_isBelow 9 = .ok (.iconst 1, 1) := by decide +kernel
theorem dX9_isBelow_10 : decode cX9_isBelow 10 = .ok (.goto 4, 3) := by decide +kernel
theorem dX9_isBelow_13 : decode cX9_isBelow 13 = .ok (.iconst 0, 1) := by decide +kernel
theorem dX9_isBelow_14 : decode cX9_isBelow 14 = .ok (.ireturn, 1) := by decide +kernel
theorem dX9_fits16Bits_0 : decode cX9_fits16Bits 0 = .ok (.iload_n 0, 1) := by decide +kernel
theorem dX9_fits16Bits_1 : decode cX9_fits16Bits 1 = .ok (.ifCond .lt 13, 3) := by decide +kernel
theorem dX9_fits16Bits_4 : decode cX9_fits16Bits 4 = .ok (.iload_n 0, 1) := by decide +kernel
theorem dX9_fits16Bits_5 : decode cX9_fits16Bits 5 = .ok (.ldc 146, 2) := by decide +kernel
theorem dX9_fits16Bits_7 : decode cX9_fits16Bits 7 = .ok (.if_icmp .gt 7, 3) := by decide +kernel
theorem dX9_fits16Bits_10 : decode cX9_fits16Bits 10 = .ok (.iconst 1, 1) := by decide +kernel
theorem dX9_fits16Bits_11 : decode cX9_fits16Bits 11 = .ok (.goto 4, 3) := by decide +kernel
theorem dX9_fits16Bits_14 : decode cX9_fits16Bits 14 = .ok (.iconst 0, 1) := by decide +kernel
theorem dX9_fits16Bits_15 : decode cX9_fits16Bits 15 = .ok (.ireturn, 1) := by decide +kernel
theorem dX10_init_0 : decode cX10_init 0 = .ok (.aload_n 0, 1) := by decide +kernel
theorem dX10_init_1 : decode cX10_init 1 = .ok (.invokespecial 1, 3) := by decide +kernel
theorem dX10_init_4 : decode cX10_init 4 = .ok (.aload_n 0, 1) := by decide +kernel
theorem dX10_init_5 : decode cX10_init 5 = .ok (.bipush 32, 2) := by decide +kernel
theorem dX10_init_7 : decode cX10_init 7 = .ok (.newarray .int, 2) := by decide +kernel
theorem dX10_init_9 : decode cX10_init 9 = .ok (.putfield 7, 3) := by decide +kernel
theorem dX10_init_12 : decode cX10_init 12 = .ok (.aload_n 0, 1) := by decide +kernel
theorem dX10_init_13 : decode cX10_init 13 = .ok (.bipush 32, 2) := by decide +kernel
theorem dX10_init_15 : decode cX10_init 15 = .ok (.newarray .int, 2) := by decide +kernel
theorem dX10_init_17 : decode cX10_init 17 = .ok (.putfield 13, 3) := by decide +kernel
theorem dX10_init_20 : decode cX10_init 20 = .ok (.aload_n 0, 1) := by decide +kernel
theorem dX10_init_21 : decode cX10_init 21 = .ok (.bipush 32, 2) := by decide +kernel
