-- what each instruction decodes to (written by wip/whole/gen_nam.py)
theorem d_Mod_init_0 : decode M_Mod_init.2.1 0 = .ok (.aload_n 0, 1) := by decide +kernel
theorem d_Mod_init_1 : decode M_Mod_init.2.1 1 = .ok (.invokespecial 1, 3) := by decide +kernel
theorem d_Mod_init_4 : decode M_Mod_init.2.1 4 = .ok (.aload_n 0, 1) := by decide +kernel
theorem d_Mod_init_5 : decode M_Mod_init.2.1 5 = .ok (.sipush 512, 3) := by decide +kernel
theorem d_Mod_init_8 : decode M_Mod_init.2.1 8 = .ok (.newarray .int, 2) := by decide +kernel
theorem d_Mod_init_10 : decode M_Mod_init.2.1 10 = .ok (.putfield 7, 3) := by decide +kernel
theorem d_Mod_init_13 : decode M_Mod_init.2.1 13 = .ok (.aload_n 0, 1) := by decide +kernel
theorem d_Mod_init_14 : decode M_Mod_init.2.1 14 = .ok (.bipush 12, 2) := by decide +kernel
theorem d_Mod_init_16 : decode M_Mod_init.2.1 16 = .ok (.newarray .int, 2) := by decide +kernel
theorem d_Mod_init_18 : decode M_Mod_init.2.1 18 = .ok (.putfield 13, 3) := by decide +kernel
theorem d_Mod_init_21 : decode M_Mod_init.2.1 21 = .ok (.aload_n 0, 1) := by decide +kernel
theorem d_Mod_init_22 : decode M_Mod_init.2.1 22 = .ok (.bipush 12, 2) := by decide +kernel
theorem d_Mod_init_24 : decode M_Mod_init.2.1 24 = .ok (.newarray .int, 2) := by decide +kernel
theorem d_Mod_init_26 : decode M_Mod_init.2.1 26 = .ok (.putfield 16, 3) := by decide +kernel
theorem d_Mod_init_29 : decode M_Mod_init.2.1 29 = .ok (.aload_n 0, 1) := by decide +kernel
theorem d_Mod_init_30 : decode M_Mod_init.2.1 30 = .ok (.bipush 12, 2) := by decide +kernel
theorem d_Mod_init_32 : decode M_Mod_init.2.1 32 = .ok (.newarray .int, 2) := by decide +kernel
theorem d_Mod_init_34 : decode M_Mod_init.2.1 34 = .ok (.putfield 19, 3) := by decide +kernel
theorem d_Mod_init_37 : decode M_Mod_init.2.1 37 = .ok (.aload_n 0, 1) := by decide +kernel
theorem d_Mod_init_38 : decode M_Mod_init.2.1 38 = .ok (.bipush 12, 2) := by decide +kernel
theorem d_Mod_init_40 : decode M_Mod_init.2.1 40 = .ok (.newarray .int, 2) := by decide +kernel
theorem d_Mod_init_42 : decode M_Mod_init.2.1 42 = .ok (.putfield 22, 3) := by decide +kernel
theorem d_Mod_init_45 : decode M_Mod_init.2.1 45 = .ok (.aload_n 0, 1) := by decide +kernel
theorem d_Mod_init_46 : decode M_Mod_init.2.1 46 = .ok (.bipush 12, 2) := by decide +kernel
theorem d_Mod_init_48 : decode M_Mod_init.2.1 48 = .ok (.newarray .int, 2) := by decide +kernel
theorem d_Mod_init_50 : decode M_Mod_init.2.1 50 = .ok (.putfield 25, 3) := by decide +kernel
theorem d_Mod_init_53 : decode M_Mod_init.2.1 53 = .ok (.aload_n 0, 1) := by decide +kernel
theorem d_Mod_init_54 : decode M_Mod_init.2.1 54 = .ok (.bipush 12, 2) := by decide +kernel
theorem d_Mod_init_56 : decode M_Mod_init.2.1 56 = .ok (.newarray .int, 2) := by decide +kernel
theorem d_Mod_init_58 : decode M_Mod_init.2.1 58 = .ok (.putfield 28, 3) := by decide +kernel
theorem d_Mod_init_61 : decode M_Mod_init.2.1 61 = .ok (.aload_n 0, 1) := by decide +kernel
theorem d_Mod_init_62 : decode M_Mod_init.2.1 62 = .ok (.bipush 12, 2) := by decide +kernel
theorem d_Mod_init_64 : decode M_Mod_init.2.1 64 = .ok (.newarray .int, 2) := by decide +kernel
theorem d_Mod_init_66 : decode M_Mod_init.2.1 66 = .ok (.putfield 31, 3) := by decide +kernel
theorem d_Mod_init_69 : decode M_Mod_init.2.1 69 = .ok (.aload_n 0, 1) := by decide +kernel
theorem d_Mod_init_70 : decode M_Mod_init.2.1 70 = .ok (.bipush 12, 2) := by decide +kernel
theorem d_Mod_init_72 : decode M_Mod_init.2.1 72 = .ok (.newarray .int, 2) := by decide +kernel
theorem d_Mod_init_74 : decode M_Mod_init.2.1 74 = .ok (.putfield 34, 3) := by decide +kernel
theorem d_Mod_init_77 : decode M_Mod_init.2.1 77 = .ok (.aload_n 0, 1) := by decide +kernel
theorem d_Mod_init_78 : decode M_Mod_init.2.1 78 = .ok (.iconst 3, 1) := by decide +kernel
theorem d_Mod_init_79 : decode M_Mod_init.2.1 79 = .ok (.newarray .int, 2) := by decide +kernel
theorem d_Mod_init_81 : decode M_Mod_init.2.1 81 = .ok (.putfield 37, 3) := by decide +kernel
theorem d_Mod_init_84 : decode M_Mod_init.2.1 84 = .ok (.aload_n 0, 1) := by decide +kernel
theorem d_Mod_init_85 : decode M_Mod_init.2.1 85 = .ok (.iconst 3, 1) := by decide +kernel
theorem d_Mod_init_86 : decode M_Mod_init.2.1 86 = .ok (.newarray .int, 2) := by decide +kernel
theorem d_Mod_init_88 : decode M_Mod_init.2.1 88 = .ok (.putfield 40, 3) := by decide +kernel
theorem d_Mod_init_91 : decode M_Mod_init.2.1 91 = .ok (.aload_n 0, 1) := by decide +kernel
theorem d_Mod_init_92 : decode M_Mod_init.2.1 92 = .ok (.iconst 3, 1) := by decide +kernel
theorem d_Mod_init_93 : decode M_Mod_init.2.1 93 = .ok (.newarray .int, 2) := by decide +kernel
theorem d_Mod_init_95 : decode M_Mod_init.2.1 95 = .ok (.putfield 43, 3) := by decide +kernel
theorem d_Mod_init_98 : decode M_Mod_init.2.1 98 = .ok (.aload_n 0, 1) := by decide +kernel
theorem d_Mod_init_99 : decode M_Mod_init.2.1 99 = .ok (.iconst 3, 1) := by decide +kernel
theorem d_Mod_init_100 : decode M_Mod_init.2.1 100 = .ok (.newarray .int, 2) := by decide +kernel
theorem d_Mod_init_102 : decode M_Mod_init.2.1 102 = .ok (.putfield 46, 3) := by decide +kernel
theorem d_Mod_init_105 : decode M_Mod_init.2.1 105 = .ok (.aload_n 0, 1) := by decide +kernel
theorem d_Mod_init_106 : decode M_Mod_init.2.1 106 = .ok (.bipush 36, 2) := by decide +kernel
theorem d_Mod_init_108 : decode M_Mod_init.2.1 108 = .ok (.newarray .int, 2) := by decide +kernel
theorem d_Mod_init_110 : decode M_Mod_init.2.1 110 = .ok (.putfield 49, 3) := by decide +kernel
theorem d_Mod_init_113 : decode M_Mod_init.2.1 113 = .ok (.aload_n 0, 1) := by decide +kernel
theorem d_Mod_init_114 : decode M_Mod_init.2.1 114 = .ok (.iconst 3, 1) := by decide +kernel
theorem d_Mod_init_115 : decode M_Mod_init.2.1 115 = .ok (.newarray .int, 2) := by decide +kernel
theorem d_Mod_init_117 : decode M_Mod_init.2.1 117 = .ok (.putfield 52, 3) := by decide +kernel
theorem d_Mod_init_120 : decode M_Mod_init.2.1 120 = .ok (.aload_n 0, 1) := by decide +kernel
theorem d_Mod_init_121 : decode M_Mod_init.2.1 121 = .ok (.sipush 780, 3) := by decide +kernel
theorem d_Mod_init_124 : decode M_Mod_init.2.1 124 = .ok (.newarray .int, 2) := by decide +kernel
theorem d_Mod_init_126 : decode M_Mod_init.2.1 126 = .ok (.putfield 55, 3) := by decide +kernel
theorem d_Mod_init_129 : decode M_Mod_init.2.1 129 = .ok (.aload_n 0, 1) := by decide +kernel
theorem d_Mod_init_130 : decode M_Mod_init.2.1 130 = .ok (.bipush 39, 2) := by decide +kernel
theorem d_Mod_init_132 : decode M_Mod_init.2.1 132 = .ok (.newarray .int, 2) := by decide +kernel
theorem d_Mod_init_134 : decode M_Mod_init.2.1 134 = .ok (.putfield 58, 3) := by decide +kernel
theorem d_Mod_init_137 : decode M_Mod_init.2.1 137 = .ok (.aload_n 0, 1) := by decide +kernel
theorem d_Mod_init_138 : decode M_Mod_init.2.1 138 = .ok (.bipush 39, 2) := by decide +kernel
theorem d_Mod_init_140 : decode M_Mod_init.2.1 140 = .ok (.newarray .int, 2) := by decide +kernel
theorem d_Mod_init_142 : decode M_Mod_init.2.1 142 = .ok (.putfield 61, 3) := by decide +kernel
theorem d_Mod_init_145 : decode M_Mod_init.2.1 145 = .ok (.aload_n 0, 1) := by decide +kernel
theorem d_Mod_init_146 : decode M_Mod_init.2.1 146 = .ok (.bipush 9, 2) := by decide +kernel
theorem d_Mod_init_148 : decode M_Mod_init.2.1 148 = .ok (.newarray .int, 2) := by decide +kernel
theorem d_Mod_init_150 : decode M_Mod_init.2.1 150 = .ok (.putfield 64, 3) := by decide +kernel
theorem d_Mod_init_153 : decode M_Mod_init.2.1 153 = .ok (.aload_n 0, 1) := by decide +kernel
theorem d_Mod_init_154 : decode M_Mod_init.2.1 154 = .ok (.bipush 8, 2) := by decide +kernel
theorem d_Mod_init_156 : decode M_Mod_init.2.1 156 = .ok (.newarray .int, 2) := by decide +kernel
theorem d_Mod_init_158 : decode M_Mod_init.2.1 158 = .ok (.putfield 67, 3) := by decide +kernel
theorem d_Mod_init_161 : decode M_Mod_init.2.1 161 = .ok (.aload_n 0, 1) := by decide +kernel
theorem d_Mod_init_162 : decode M_Mod_init.2.1 162 = .ok (.bipush 8, 2) := by decide +kernel
theorem d_Mod_init_164 : decode M_Mod_init.2.1 164 = .ok (.newarray .boolean, 2) := by decide +kernel
theorem d_Mod_init_166 : decode M_Mod_init.2.1 166 = .ok (.putfield 70, 3) := by decide +kernel
theorem d_Mod_init_169 : decode M_Mod_init.2.1 169 = .ok (.aload_n 0, 1) := by decide +kernel
theorem d_Mod_init_170 : decode M_Mod_init.2.1 170 = .ok (.bipush 8, 2) := by decide +kernel
theorem d_Mod_init_172 : decode M_Mod_init.2.1 172 = .ok (.newarray .int, 2) := by decide +kernel
theorem d_Mod_init_174 : decode M_Mod_init.2.1 174 = .ok (.putfield 74, 3) := by decide +kernel
theorem d_Mod_init_177 : decode M_Mod_init.2.1 177 = .ok (.aload_n 0, 1) := by decide +kernel
theorem d_Mod_init_178 : decode M_Mod_init.2.1 178 = .ok (.bipush 12, 2) := by decide +kernel
theorem d_Mod_init_180 : decode M_Mod_init.2.1 180 = .ok (.newarray .int, 2) := by decide +kernel
theorem d_Mod_init_182 : decode M_Mod_init.2.1 182 = .ok (.putfield 77, 3) := by decide +kernel
theorem d_Mod_init_185 : decode M_Mod_init.2.1 185 = .ok (.aload_n 0, 1) := by decide +kernel
theorem d_Mod_init_186 : decode M_Mod_init.2.1 186 = .ok (.bipush 12, 2) := by decide +kernel
theorem d_Mod_init_188 : decode M_Mod_init.2.1 188 = .ok (.newarray .int, 2) := by decide +kernel
theorem d_Mod_init_190 : decode M_Mod_init.2.1 190 = .ok (.putfield 80, 3) := by decide +kernel
theorem d_Mod_init_193 : decode M_Mod_init.2.1 193 = .ok (.aload_n 0, 1) := by decide +kernel
theorem d_Mod_init_194 : decode M_Mod_init.2.1 194 = .ok (.bipush 12, 2) := by decide +kernel
theorem d_Mod_init_196 : decode M_Mod_init.2.1 196 = .ok (.newarray .int, 2) := by decide +kernel
theorem d_Mod_init_198 : decode M_Mod_init.2.1 198 = .ok (.putfield 83, 3) := by decide +kernel
theorem d_Mod_init_201 : decode M_Mod_init.2.1 201 = .ok (.aload_n 0, 1) := by decide +kernel
theorem d_Mod_init_202 : decode M_Mod_init.2.1 202 = .ok (.bipush 12, 2) := by decide +kernel
theorem d_Mod_init_204 : decode M_Mod_init.2.1 204 = .ok (.newarray .int, 2) := by decide +kernel
theorem d_Mod_init_206 : decode M_Mod_init.2.1 206 = .ok (.putfield 86, 3) := by decide +kernel
theorem d_Mod_init_209 : decode M_Mod_init.2.1 209 = .ok (.aload_n 0, 1) := by decide +kernel
theorem d_Mod_init_210 : decode M_Mod_init.2.1 210 = .ok (.iconst (-1), 1) := by decide +kernel
theorem d_Mod_init_211 : decode M_Mod_init.2.1 211 = .ok (.putfield 89, 3) := by decide +kernel
theorem d_Mod_init_214 : decode M_Mod_init.2.1 214 = .ok (.aload_n 0, 1) := by decide +kernel
theorem d_Mod_init_215 : decode M_Mod_init.2.1 215 = .ok (.bipush 12, 2) := by decide +kernel
theorem d_Mod_init_217 : decode M_Mod_init.2.1 217 = .ok (.newarray .int, 2) := by decide +kernel
theorem d_Mod_init_219 : decode M_Mod_init.2.1 219 = .ok (.putfield 93, 3) := by decide +kernel
theorem d_Mod_init_222 : decode M_Mod_init.2.1 222 = .ok (.aload_n 0, 1) := by decide +kernel
theorem d_Mod_init_223 : decode M_Mod_init.2.1 223 = .ok (.bipush 12, 2) := by decide +kernel
theorem d_Mod_init_225 : decode M_Mod_init.2.1 225 = .ok (.newarray .int, 2) := by decide +kernel
theorem d_Mod_init_227 : decode M_Mod_init.2.1 227 = .ok (.putfield 96, 3) := by decide +kernel
theorem d_Mod_init_230 : decode M_Mod_init.2.1 230 = .ok (.aload_n 0, 1) := by decide +kernel
theorem d_Mod_init_231 : decode M_Mod_init.2.1 231 = .ok (.iconst (-1), 1) := by decide +kernel
theorem d_Mod_init_232 : decode M_Mod_init.2.1 232 = .ok (.putfield 99, 3) := by decide +kernel
theorem d_Mod_init_235 : decode M_Mod_init.2.1 235 = .ok (.return_, 1) := by decide +kernel
theorem d_Mod_way_0 : decode M_Mod_way.2.1 0 = .ok (.iload_n 1, 1) := by decide +kernel
theorem d_Mod_way_1 : decode M_Mod_way.2.1 1 = .ok (.invokestatic 116, 3) := by decide +kernel
theorem d_Mod_way_4 : decode M_Mod_way.2.1 4 = .ok (.ifCond .eq 22, 3) := by decide +kernel
theorem d_Mod_way_7 : decode M_Mod_way.2.1 7 = .ok (.iload_n 2, 1) := by decide +kernel
theorem d_Mod_way_8 : decode M_Mod_way.2.1 8 = .ok (.invokestatic 116, 3) := by decide +kernel
theorem d_Mod_way_11 : decode M_Mod_way.2.1 11 = .ok (.ifCond .eq 15, 3) := by decide +kernel
theorem d_Mod_way_14 : decode M_Mod_way.2.1 14 = .ok (.iload_n 3, 1) := by decide +kernel
theorem d_Mod_way_15 : decode M_Mod_way.2.1 15 = .ok (.i2l, 1) := by decide +kernel
theorem d_Mod_way_16 : decode M_Mod_way.2.1 16 = .ok (.lconst 0, 1) := by decide +kernel
theorem d_Mod_way_17 : decode M_Mod_way.2.1 17 = .ok (.ldc2_w 120, 3) := by decide +kernel
theorem d_Mod_way_20 : decode M_Mod_way.2.1 20 = .ok (.invokestatic 122, 3) := by decide +kernel
theorem d_Mod_way_23 : decode M_Mod_way.2.1 23 = .ok (.ifCond .ne 10, 3) := by decide +kernel
theorem d_Mod_way_26 : decode M_Mod_way.2.1 26 = .ok (.aload_n 0, 1) := by decide +kernel
theorem d_Mod_way_27 : decode M_Mod_way.2.1 27 = .ok (.bipush (-3), 2) := by decide +kernel
theorem d_Mod_way_29 : decode M_Mod_way.2.1 29 = .ok (.invokevirtual 126, 3) := by decide +kernel
theorem d_Mod_way_32 : decode M_Mod_way.2.1 32 = .ok (.ireturn, 1) := by decide +kernel
theorem d_Mod_way_33 : decode M_Mod_way.2.1 33 = .ok (.aload_n 0, 1) := by decide +kernel
theorem d_Mod_way_34 : decode M_Mod_way.2.1 34 = .ok (.iload_n 1, 1) := by decide +kernel
theorem d_Mod_way_35 : decode M_Mod_way.2.1 35 = .ok (.iload_n 2, 1) := by decide +kernel
theorem d_Mod_way_36 : decode M_Mod_way.2.1 36 = .ok (.iload_n 3, 1) := by decide +kernel
theorem d_Mod_way_37 : decode M_Mod_way.2.1 37 = .ok (.invokevirtual 130, 3) := by decide +kernel
theorem d_Mod_way_40 : decode M_Mod_way.2.1 40 = .ok (.istore 4, 2) := by decide +kernel
theorem d_Mod_way_42 : decode M_Mod_way.2.1 42 = .ok (.iload 4, 2) := by decide +kernel
theorem d_Mod_way_44 : decode M_Mod_way.2.1 44 = .ok (.ldc 112, 2) := by decide +kernel
theorem d_Mod_way_46 : decode M_Mod_way.2.1 46 = .ok (.if_icmp .ge 8, 3) := by decide +kernel
theorem d_Mod_way_49 : decode M_Mod_way.2.1 49 = .ok (.iload 4, 2) := by decide +kernel
theorem d_Mod_way_51 : decode M_Mod_way.2.1 51 = .ok (.goto 4, 3) := by decide +kernel
theorem d_Mod_way_54 : decode M_Mod_way.2.1 54 = .ok (.iconst (-1), 1) := by decide +kernel
theorem d_Mod_way_55 : decode M_Mod_way.2.1 55 = .ok (.ireturn, 1) := by decide +kernel
theorem d_Mod_isPlace_0 : decode M_Mod_isPlace.2.1 0 = .ok (.iload_n 0, 1) := by decide +kernel
theorem d_Mod_isPlace_1 : decode M_Mod_isPlace.2.1 1 = .ok (.ifCond .lt 13, 3) := by decide +kernel
theorem d_Mod_isPlace_4 : decode M_Mod_isPlace.2.1 4 = .ok (.iload_n 0, 1) := by decide +kernel
theorem d_Mod_isPlace_5 : decode M_Mod_isPlace.2.1 5 = .ok (.bipush 8, 2) := by decide +kernel
theorem d_Mod_isPlace_7 : decode M_Mod_isPlace.2.1 7 = .ok (.if_icmp .ge 7, 3) := by decide +kernel
theorem d_Mod_isPlace_10 : decode M_Mod_isPlace.2.1 10 = .ok (.iconst 1, 1) := by decide +kernel
theorem d_Mod_isPlace_11 : decode M_Mod_isPlace.2.1 11 = .ok (.goto 4, 3) := by decide +kernel
theorem d_Mod_isPlace_14 : decode M_Mod_isPlace.2.1 14 = .ok (.iconst 0, 1) := by decide +kernel
theorem d_Mod_isPlace_15 : decode M_Mod_isPlace.2.1 15 = .ok (.ireturn, 1) := by decide +kernel
theorem d_Mod_isIn_0 : decode M_Mod_isIn.2.1 0 = .ok (.lload_n 0, 1) := by decide +kernel
theorem d_Mod_isIn_1 : decode M_Mod_isIn.2.1 1 = .ok (.lload_n 2, 1) := by decide +kernel
theorem d_Mod_isIn_2 : decode M_Mod_isIn.2.1 2 = .ok (.lcmp, 1) := by decide +kernel
theorem d_Mod_isIn_3 : decode M_Mod_isIn.2.1 3 = .ok (.ifCond .lt 14, 3) := by decide +kernel
theorem d_Mod_isIn_6 : decode M_Mod_isIn.2.1 6 = .ok (.lload_n 0, 1) := by decide +kernel
theorem d_Mod_isIn_7 : decode M_Mod_isIn.2.1 7 = .ok (.lload 4, 2) := by decide +kernel
theorem d_Mod_isIn_9 : decode M_Mod_isIn.2.1 9 = .ok (.lcmp, 1) := by decide +kernel
theorem d_Mod_isIn_10 : decode M_Mod_isIn.2.1 10 = .ok (.ifCond .gt 7, 3) := by decide +kernel
theorem d_Mod_isIn_13 : decode M_Mod_isIn.2.1 13 = .ok (.iconst 1, 1) := by decide +kernel
theorem d_Mod_isIn_14 : decode M_Mod_isIn.2.1 14 = .ok (.goto 4, 3) := by decide +kernel
theorem d_Mod_isIn_17 : decode M_Mod_isIn.2.1 17 = .ok (.iconst 0, 1) := by decide +kernel
theorem d_Mod_isIn_18 : decode M_Mod_isIn.2.1 18 = .ok (.ireturn, 1) := by decide +kernel
theorem d_Mod_no_0 : decode M_Mod_no.2.1 0 = .ok (.aload_n 0, 1) := by decide +kernel
theorem d_Mod_no_1 : decode M_Mod_no.2.1 1 = .ok (.getfield 64, 3) := by decide +kernel
theorem d_Mod_no_4 : decode M_Mod_no.2.1 4 = .ok (.iload_n 1, 1) := by decide +kernel
theorem d_Mod_no_5 : decode M_Mod_no.2.1 5 = .ok (.ineg, 1) := by decide +kernel
theorem d_Mod_no_6 : decode M_Mod_no.2.1 6 = .ok (.dup2, 1) := by decide +kernel
theorem d_Mod_no_7 : decode M_Mod_no.2.1 7 = .ok (.iaload, 1) := by decide +kernel
theorem d_Mod_no_8 : decode M_Mod_no.2.1 8 = .ok (.iconst 1, 1) := by decide +kernel
theorem d_Mod_no_9 : decode M_Mod_no.2.1 9 = .ok (.iadd, 1) := by decide +kernel
theorem d_Mod_no_10 : decode M_Mod_no.2.1 10 = .ok (.iastore, 1) := by decide +kernel
theorem d_Mod_no_11 : decode M_Mod_no.2.1 11 = .ok (.iload_n 1, 1) := by decide +kernel
theorem d_Mod_no_12 : decode M_Mod_no.2.1 12 = .ok (.ireturn, 1) := by decide +kernel
theorem d_Mod_wayOf_0 : decode M_Mod_wayOf.2.1 0 = .ok (.iconst 0, 1) := by decide +kernel
theorem d_Mod_wayOf_1 : decode M_Mod_wayOf.2.1 1 = .ok (.istore 4, 2) := by decide +kernel
theorem d_Mod_wayOf_3 : decode M_Mod_wayOf.2.1 3 = .ok (.iload 4, 2) := by decide +kernel
theorem d_Mod_wayOf_5 : decode M_Mod_wayOf.2.1 5 = .ok (.bipush 8, 2) := by decide +kernel
theorem d_Mod_wayOf_7 : decode M_Mod_wayOf.2.1 7 = .ok (.if_icmp .ge 36, 3) := by decide +kernel
theorem d_Mod_wayOf_10 : decode M_Mod_wayOf.2.1 10 = .ok (.aload_n 0, 1) := by decide +kernel
theorem d_Mod_wayOf_11 : decode M_Mod_wayOf.2.1 11 = .ok (.getfield 67, 3) := by decide +kernel
theorem d_Mod_wayOf_14 : decode M_Mod_wayOf.2.1 14 = .ok (.iload 4, 2) := by decide +kernel
theorem d_Mod_wayOf_16 : decode M_Mod_wayOf.2.1 16 = .ok (.iload 4, 2) := by decide +kernel
theorem d_Mod_wayOf_18 : decode M_Mod_wayOf.2.1 18 = .ok (.iload_n 1, 1) := by decide +kernel
theorem d_Mod_wayOf_19 : decode M_Mod_wayOf.2.1 19 = .ok (.if_icmp .ne 7, 3) := by decide +kernel
theorem d_Mod_wayOf_22 : decode M_Mod_wayOf.2.1 22 = .ok (.iload_n 3, 1) := by decide +kernel
theorem d_Mod_wayOf_23 : decode M_Mod_wayOf.2.1 23 = .ok (.goto 5, 3) := by decide +kernel
theorem d_Mod_wayOf_26 : decode M_Mod_wayOf.2.1 26 = .ok (.ldc 112, 2) := by decide +kernel
theorem d_Mod_wayOf_28 : decode M_Mod_wayOf.2.1 28 = .ok (.iastore, 1) := by decide +kernel
theorem d_Mod_wayOf_29 : decode M_Mod_wayOf.2.1 29 = .ok (.aload_n 0, 1) := by decide +kernel
theorem d_Mod_wayOf_30 : decode M_Mod_wayOf.2.1 30 = .ok (.getfield 70, 3) := by decide +kernel
theorem d_Mod_wayOf_33 : decode M_Mod_wayOf.2.1 33 = .ok (.iload 4, 2) := by decide +kernel
theorem d_Mod_wayOf_35 : decode M_Mod_wayOf.2.1 35 = .ok (.iconst 0, 1) := by decide +kernel
theorem d_Mod_wayOf_36 : decode M_Mod_wayOf.2.1 36 = .ok (.bastore, 1) := by decide +kernel
theorem d_Mod_wayOf_37 : decode M_Mod_wayOf.2.1 37 = .ok (.iinc 4 1, 3) := by decide +kernel
theorem d_Mod_wayOf_40 : decode M_Mod_wayOf.2.1 40 = .ok (.goto (-37), 3) := by decide +kernel
theorem d_Mod_wayOf_43 : decode M_Mod_wayOf.2.1 43 = .ok (.iconst 0, 1) := by decide +kernel
theorem d_Mod_wayOf_44 : decode M_Mod_wayOf.2.1 44 = .ok (.istore 4, 2) := by decide +kernel
theorem d_Mod_wayOf_46 : decode M_Mod_wayOf.2.1 46 = .ok (.iload 4, 2) := by decide +kernel
theorem d_Mod_wayOf_48 : decode M_Mod_wayOf.2.1 48 = .ok (.bipush 8, 2) := by decide +kernel
theorem d_Mod_wayOf_50 : decode M_Mod_wayOf.2.1 50 = .ok (.if_icmp .ge 150, 3) := by decide +kernel
theorem d_Mod_wayOf_53 : decode M_Mod_wayOf.2.1 53 = .ok (.iconst (-1), 1) := by decide +kernel
theorem d_Mod_wayOf_54 : decode M_Mod_wayOf.2.1 54 = .ok (.istore 5, 2) := by decide +kernel
theorem d_Mod_wayOf_56 : decode M_Mod_wayOf.2.1 56 = .ok (.iconst 0, 1) := by decide +kernel
theorem d_Mod_wayOf_57 : decode M_Mod_wayOf.2.1 57 = .ok (.istore 6, 2) := by decide +kernel
theorem d_Mod_wayOf_59 : decode M_Mod_wayOf.2.1 59 = .ok (.iload 6, 2) := by decide +kernel
theorem d_Mod_wayOf_61 : decode M_Mod_wayOf.2.1 61 = .ok (.bipush 8, 2) := by decide +kernel
theorem d_Mod_wayOf_63 : decode M_Mod_wayOf.2.1 63 = .ok (.if_icmp .ge 45, 3) := by decide +kernel
theorem d_Mod_wayOf_66 : decode M_Mod_wayOf.2.1 66 = .ok (.aload_n 0, 1) := by decide +kernel
theorem d_Mod_wayOf_67 : decode M_Mod_wayOf.2.1 67 = .ok (.getfield 70, 3) := by decide +kernel
theorem d_Mod_wayOf_70 : decode M_Mod_wayOf.2.1 70 = .ok (.iload 6, 2) := by decide +kernel
theorem d_Mod_wayOf_72 : decode M_Mod_wayOf.2.1 72 = .ok (.baload, 1) := by decide +kernel
theorem d_Mod_wayOf_73 : decode M_Mod_wayOf.2.1 73 = .ok (.ifCond .ne 29, 3) := by decide +kernel
theorem d_Mod_wayOf_76 : decode M_Mod_wayOf.2.1 76 = .ok (.iload 5, 2) := by decide +kernel
theorem d_Mod_wayOf_78 : decode M_Mod_wayOf.2.1 78 = .ok (.ifCond .lt 20, 3) := by decide +kernel
theorem d_Mod_wayOf_81 : decode M_Mod_wayOf.2.1 81 = .ok (.aload_n 0, 1) := by decide +kernel
theorem d_Mod_wayOf_82 : decode M_Mod_wayOf.2.1 82 = .ok (.getfield 67, 3) := by decide +kernel
theorem d_Mod_wayOf_85 : decode M_Mod_wayOf.2.1 85 = .ok (.iload 6, 2) := by decide +kernel
theorem d_Mod_wayOf_87 : decode M_Mod_wayOf.2.1 87 = .ok (.iaload, 1) := by decide +kernel
theorem d_Mod_wayOf_88 : decode M_Mod_wayOf.2.1 88 = .ok (.aload_n 0, 1) := by decide +kernel
theorem d_Mod_wayOf_89 : decode M_Mod_wayOf.2.1 89 = .ok (.getfield 67, 3) := by decide +kernel
theorem d_Mod_wayOf_92 : decode M_Mod_wayOf.2.1 92 = .ok (.iload 5, 2) := by decide +kernel
theorem d_Mod_wayOf_94 : decode M_Mod_wayOf.2.1 94 = .ok (.iaload, 1) := by decide +kernel
theorem d_Mod_wayOf_95 : decode M_Mod_wayOf.2.1 95 = .ok (.if_icmp .ge 7, 3) := by decide +kernel
theorem d_Mod_wayOf_98 : decode M_Mod_wayOf.2.1 98 = .ok (.iload 6, 2) := by decide +kernel
theorem d_Mod_wayOf_100 : decode M_Mod_wayOf.2.1 100 = .ok (.istore 5, 2) := by decide +kernel
theorem d_Mod_wayOf_102 : decode M_Mod_wayOf.2.1 102 = .ok (.iinc 6 1, 3) := by decide +kernel
theorem d_Mod_wayOf_105 : decode M_Mod_wayOf.2.1 105 = .ok (.goto (-46), 3) := by decide +kernel
theorem d_Mod_wayOf_108 : decode M_Mod_wayOf.2.1 108 = .ok (.aload_n 0, 1) := by decide +kernel
theorem d_Mod_wayOf_109 : decode M_Mod_wayOf.2.1 109 = .ok (.getfield 70, 3) := by decide +kernel
theorem d_Mod_wayOf_112 : decode M_Mod_wayOf.2.1 112 = .ok (.iload 5, 2) := by decide +kernel
theorem d_Mod_wayOf_114 : decode M_Mod_wayOf.2.1 114 = .ok (.iconst 1, 1) := by decide +kernel
theorem d_Mod_wayOf_115 : decode M_Mod_wayOf.2.1 115 = .ok (.bastore, 1) := by decide +kernel
theorem d_Mod_wayOf_116 : decode M_Mod_wayOf.2.1 116 = .ok (.iconst 0, 1) := by decide +kernel
theorem d_Mod_wayOf_117 : decode M_Mod_wayOf.2.1 117 = .ok (.istore 6, 2) := by decide +kernel
theorem d_Mod_wayOf_119 : decode M_Mod_wayOf.2.1 119 = .ok (.iload 6, 2) := by decide +kernel
theorem d_Mod_wayOf_121 : decode M_Mod_wayOf.2.1 121 = .ok (.bipush 8, 2) := by decide +kernel
theorem d_Mod_wayOf_123 : decode M_Mod_wayOf.2.1 123 = .ok (.if_icmp .ge 71, 3) := by decide +kernel
theorem d_Mod_wayOf_126 : decode M_Mod_wayOf.2.1 126 = .ok (.aload_n 0, 1) := by decide +kernel
theorem d_Mod_wayOf_127 : decode M_Mod_wayOf.2.1 127 = .ok (.getfield 67, 3) := by decide +kernel
theorem d_Mod_wayOf_130 : decode M_Mod_wayOf.2.1 130 = .ok (.iload 5, 2) := by decide +kernel
theorem d_Mod_wayOf_132 : decode M_Mod_wayOf.2.1 132 = .ok (.iaload, 1) := by decide +kernel
theorem d_Mod_wayOf_133 : decode M_Mod_wayOf.2.1 133 = .ok (.ldc 112, 2) := by decide +kernel
theorem d_Mod_wayOf_135 : decode M_Mod_wayOf.2.1 135 = .ok (.if_icmp .ge 59, 3) := by decide +kernel
theorem d_Mod_wayOf_138 : decode M_Mod_wayOf.2.1 138 = .ok (.iload 6, 2) := by decide +kernel
theorem d_Mod_wayOf_140 : decode M_Mod_wayOf.2.1 140 = .ok (.iload 5, 2) := by decide +kernel
theorem d_Mod_wayOf_142 : decode M_Mod_wayOf.2.1 142 = .ok (.if_icmp .ne 8, 3) := by decide +kernel
theorem d_Mod_wayOf_145 : decode M_Mod_wayOf.2.1 145 = .ok (.ldc 112, 2) := by decide +kernel
theorem d_Mod_wayOf_147 : decode M_Mod_wayOf.2.1 147 = .ok (.goto 18, 3) := by decide +kernel
theorem d_Mod_wayOf_150 : decode M_Mod_wayOf.2.1 150 = .ok (.aload_n 0, 1) := by decide +kernel
theorem d_Mod_wayOf_151 : decode M_Mod_wayOf.2.1 151 = .ok (.iload 5, 2) := by decide +kernel
theorem d_Mod_wayOf_153 : decode M_Mod_wayOf.2.1 153 = .ok (.iload 6, 2) := by decide +kernel
theorem d_Mod_wayOf_155 : decode M_Mod_wayOf.2.1 155 = .ok (.aload_n 0, 1) := by decide +kernel
theorem d_Mod_wayOf_156 : decode M_Mod_wayOf.2.1 156 = .ok (.getfield 67, 3) := by decide +kernel
theorem d_Mod_wayOf_159 : decode M_Mod_wayOf.2.1 159 = .ok (.iload 5, 2) := by decide +kernel
theorem d_Mod_wayOf_161 : decode M_Mod_wayOf.2.1 161 = .ok (.iaload, 1) := by decide +kernel
theorem d_Mod_wayOf_162 : decode M_Mod_wayOf.2.1 162 = .ok (.invokevirtual 113, 3) := by decide +kernel
theorem d_Mod_wayOf_165 : decode M_Mod_wayOf.2.1 165 = .ok (.istore 7, 2) := by decide +kernel
theorem d_Mod_wayOf_167 : decode M_Mod_wayOf.2.1 167 = .ok (.iload 7, 2) := by decide +kernel
theorem d_Mod_wayOf_169 : decode M_Mod_wayOf.2.1 169 = .ok (.aload_n 0, 1) := by decide +kernel
theorem d_Mod_wayOf_170 : decode M_Mod_wayOf.2.1 170 = .ok (.getfield 67, 3) := by decide +kernel
theorem d_Mod_wayOf_173 : decode M_Mod_wayOf.2.1 173 = .ok (.iload 6, 2) := by decide +kernel
theorem d_Mod_wayOf_175 : decode M_Mod_wayOf.2.1 175 = .ok (.iaload, 1) := by decide +kernel
theorem d_Mod_wayOf_176 : decode M_Mod_wayOf.2.1 176 = .ok (.if_icmp .ge 12, 3) := by decide +kernel
theorem d_Mod_wayOf_179 : decode M_Mod_wayOf.2.1 179 = .ok (.aload_n 0, 1) := by decide +kernel
theorem d_Mod_wayOf_180 : decode M_Mod_wayOf.2.1 180 = .ok (.getfield 67, 3) := by decide +kernel
theorem d_Mod_wayOf_183 : decode M_Mod_wayOf.2.1 183 = .ok (.iload 6, 2) := by decide +kernel
theorem d_Mod_wayOf_185 : decode M_Mod_wayOf.2.1 185 = .ok (.iload 7, 2) := by decide +kernel
theorem d_Mod_wayOf_187 : decode M_Mod_wayOf.2.1 187 = .ok (.iastore, 1) := by decide +kernel
theorem d_Mod_wayOf_188 : decode M_Mod_wayOf.2.1 188 = .ok (.iinc 6 1, 3) := by decide +kernel
theorem d_Mod_wayOf_191 : decode M_Mod_wayOf.2.1 191 = .ok (.goto (-72), 3) := by decide +kernel
theorem d_Mod_wayOf_194 : decode M_Mod_wayOf.2.1 194 = .ok (.iinc 4 1, 3) := by decide +kernel
theorem d_Mod_wayOf_197 : decode M_Mod_wayOf.2.1 197 = .ok (.goto (-151), 3) := by decide +kernel
theorem d_Mod_wayOf_200 : decode M_Mod_wayOf.2.1 200 = .ok (.aload_n 0, 1) := by decide +kernel
theorem d_Mod_wayOf_201 : decode M_Mod_wayOf.2.1 201 = .ok (.getfield 67, 3) := by decide +kernel
theorem d_Mod_wayOf_204 : decode M_Mod_wayOf.2.1 204 = .ok (.iload_n 2, 1) := by decide +kernel
theorem d_Mod_wayOf_205 : decode M_Mod_wayOf.2.1 205 = .ok (.iaload, 1) := by decide +kernel
theorem d_Mod_wayOf_206 : decode M_Mod_wayOf.2.1 206 = .ok (.ireturn, 1) := by decide +kernel
theorem d_Mod_over_0 : decode M_Mod_over.2.1 0 = .ok (.iload_n 3, 1) := by decide +kernel
theorem d_Mod_over_1 : decode M_Mod_over.2.1 1 = .ok (.sipush 480, 3) := by decide +kernel
theorem d_Mod_over_4 : decode M_Mod_over.2.1 4 = .ok (.if_icmp .ge 17, 3) := by decide +kernel
theorem d_Mod_over_7 : decode M_Mod_over.2.1 7 = .ok (.aload_n 0, 1) := by decide +kernel
theorem d_Mod_over_8 : decode M_Mod_over.2.1 8 = .ok (.getfield 7, 3) := by decide +kernel
theorem d_Mod_over_11 : decode M_Mod_over.2.1 11 = .ok (.iload_n 1, 1) := by decide +kernel
theorem d_Mod_over_12 : decode M_Mod_over.2.1 12 = .ok (.iload_n 2, 1) := by decide +kernel
theorem d_Mod_over_13 : decode M_Mod_over.2.1 13 = .ok (.iconst 0, 1) := by decide +kernel
theorem d_Mod_over_14 : decode M_Mod_over.2.1 14 = .ok (.invokestatic 108, 3) := by decide +kernel
theorem d_Mod_over_17 : decode M_Mod_over.2.1 17 = .ok (.iaload, 1) := by decide +kernel
theorem d_Mod_over_18 : decode M_Mod_over.2.1 18 = .ok (.ifCond .ne 6, 3) := by decide +kernel
theorem d_Mod_over_21 : decode M_Mod_over.2.1 21 = .ok (.ldc 112, 2) := by decide +kernel
theorem d_Mod_over_23 : decode M_Mod_over.2.1 23 = .ok (.ireturn, 1) := by decide +kernel
theorem d_Mod_over_24 : decode M_Mod_over.2.1 24 = .ok (.iload_n 3, 1) := by decide +kernel
theorem d_Mod_over_25 : decode M_Mod_over.2.1 25 = .ok (.aload_n 0, 1) := by decide +kernel
theorem d_Mod_over_26 : decode M_Mod_over.2.1 26 = .ok (.getfield 7, 3) := by decide +kernel
theorem d_Mod_over_29 : decode M_Mod_over.2.1 29 = .ok (.iload_n 1, 1) := by decide +kernel
theorem d_Mod_over_30 : decode M_Mod_over.2.1 30 = .ok (.iload_n 2, 1) := by decide +kernel
theorem d_Mod_over_31 : decode M_Mod_over.2.1 31 = .ok (.iload_n 3, 1) := by decide +kernel
theorem d_Mod_over_32 : decode M_Mod_over.2.1 32 = .ok (.bipush 60, 2) := by decide +kernel
theorem d_Mod_over_34 : decode M_Mod_over.2.1 34 = .ok (.idiv, 1) := by decide +kernel
theorem d_Mod_over_35 : decode M_Mod_over.2.1 35 = .ok (.invokestatic 108, 3) := by decide +kernel
theorem d_Mod_over_38 : decode M_Mod_over.2.1 38 = .ok (.iaload, 1) := by decide +kernel
theorem d_Mod_over_39 : decode M_Mod_over.2.1 39 = .ok (.iadd, 1) := by decide +kernel
theorem d_Mod_over_40 : decode M_Mod_over.2.1 40 = .ok (.istore 4, 2) := by decide +kernel
theorem d_Mod_over_42 : decode M_Mod_over.2.1 42 = .ok (.iload_n 3, 1) := by decide +kernel
theorem d_Mod_over_43 : decode M_Mod_over.2.1 43 = .ok (.bipush 60, 2) := by decide +kernel
theorem d_Mod_over_45 : decode M_Mod_over.2.1 45 = .ok (.idiv, 1) := by decide +kernel
theorem d_Mod_over_46 : decode M_Mod_over.2.1 46 = .ok (.iconst 1, 1) := by decide +kernel
theorem d_Mod_over_47 : decode M_Mod_over.2.1 47 = .ok (.iadd, 1) := by decide +kernel
theorem d_Mod_over_48 : decode M_Mod_over.2.1 48 = .ok (.istore 5, 2) := by decide +kernel
theorem d_Mod_over_50 : decode M_Mod_over.2.1 50 = .ok (.iload 5, 2) := by decide +kernel
theorem d_Mod_over_52 : decode M_Mod_over.2.1 52 = .ok (.bipush 8, 2) := by decide +kernel
theorem d_Mod_over_54 : decode M_Mod_over.2.1 54 = .ok (.if_icmp .ge 40, 3) := by decide +kernel
theorem d_Mod_over_57 : decode M_Mod_over.2.1 57 = .ok (.bipush 60, 2) := by decide +kernel
theorem d_Mod_over_59 : decode M_Mod_over.2.1 59 = .ok (.iload 5, 2) := by decide +kernel
theorem d_Mod_over_61 : decode M_Mod_over.2.1 61 = .ok (.imul, 1) := by decide +kernel
theorem d_Mod_over_62 : decode M_Mod_over.2.1 62 = .ok (.aload_n 0, 1) := by decide +kernel
theorem d_Mod_over_63 : decode M_Mod_over.2.1 63 = .ok (.getfield 7, 3) := by decide +kernel
theorem d_Mod_over_66 : decode M_Mod_over.2.1 66 = .ok (.iload_n 1, 1) := by decide +kernel
theorem d_Mod_over_67 : decode M_Mod_over.2.1 67 = .ok (.iload_n 2, 1) := by decide +kernel
theorem d_Mod_over_68 : decode M_Mod_over.2.1 68 = .ok (.iload 5, 2) := by decide +kernel
theorem d_Mod_over_70 : decode M_Mod_over.2.1 70 = .ok (.invokestatic 108, 3) := by decide +kernel
theorem d_Mod_over_73 : decode M_Mod_over.2.1 73 = .ok (.iaload, 1) := by decide +kernel
theorem d_Mod_over_74 : decode M_Mod_over.2.1 74 = .ok (.iadd, 1) := by decide +kernel
theorem d_Mod_over_75 : decode M_Mod_over.2.1 75 = .ok (.istore 6, 2) := by decide +kernel
theorem d_Mod_over_77 : decode M_Mod_over.2.1 77 = .ok (.iload 6, 2) := by decide +kernel
theorem d_Mod_over_79 : decode M_Mod_over.2.1 79 = .ok (.iload 4, 2) := by decide +kernel
theorem d_Mod_over_81 : decode M_Mod_over.2.1 81 = .ok (.if_icmp .ge 7, 3) := by decide +kernel
theorem d_Mod_over_84 : decode M_Mod_over.2.1 84 = .ok (.iload 6, 2) := by decide +kernel
theorem d_Mod_over_86 : decode M_Mod_over.2.1 86 = .ok (.istore 4, 2) := by decide +kernel
theorem d_Mod_over_88 : decode M_Mod_over.2.1 88 = .ok (.iinc 5 1, 3) := by decide +kernel
theorem d_Mod_over_91 : decode M_Mod_over.2.1 91 = .ok (.goto (-41), 3) := by decide +kernel
theorem d_Mod_over_94 : decode M_Mod_over.2.1 94 = .ok (.iload 4, 2) := by decide +kernel
theorem d_Mod_over_96 : decode M_Mod_over.2.1 96 = .ok (.ireturn, 1) := by decide +kernel
theorem d_Mod_at_0 : decode M_Mod_at.2.1 0 = .ok (.bipush 64, 2) := by decide +kernel
theorem d_Mod_at_2 : decode M_Mod_at.2.1 2 = .ok (.iload_n 2, 1) := by decide +kernel
theorem d_Mod_at_3 : decode M_Mod_at.2.1 3 = .ok (.imul, 1) := by decide +kernel
theorem d_Mod_at_4 : decode M_Mod_at.2.1 4 = .ok (.bipush 8, 2) := by decide +kernel
theorem d_Mod_at_6 : decode M_Mod_at.2.1 6 = .ok (.iload_n 0, 1) := by decide +kernel
theorem d_Mod_at_7 : decode M_Mod_at.2.1 7 = .ok (.imul, 1) := by decide +kernel
theorem d_Mod_at_8 : decode M_Mod_at.2.1 8 = .ok (.iadd, 1) := by decide +kernel
theorem d_Mod_at_9 : decode M_Mod_at.2.1 9 = .ok (.iload_n 1, 1) := by decide +kernel
theorem d_Mod_at_10 : decode M_Mod_at.2.1 10 = .ok (.iadd, 1) := by decide +kernel
theorem d_Mod_at_11 : decode M_Mod_at.2.1 11 = .ok (.ireturn, 1) := by decide +kernel
theorem d_Mod_street_0 : decode M_Mod_street.2.1 0 = .ok (.iload_n 1, 1) := by decide +kernel
theorem d_Mod_street_1 : decode M_Mod_street.2.1 1 = .ok (.invokestatic 116, 3) := by decide +kernel
theorem d_Mod_street_4 : decode M_Mod_street.2.1 4 = .ok (.ifCond .eq 10, 3) := by decide +kernel
theorem d_Mod_street_7 : decode M_Mod_street.2.1 7 = .ok (.iload_n 2, 1) := by decide +kernel
theorem d_Mod_street_8 : decode M_Mod_street.2.1 8 = .ok (.invokestatic 116, 3) := by decide +kernel
theorem d_Mod_street_11 : decode M_Mod_street.2.1 11 = .ok (.ifCond .ne 10, 3) := by decide +kernel
theorem d_Mod_street_14 : decode M_Mod_street.2.1 14 = .ok (.aload_n 0, 1) := by decide +kernel
theorem d_Mod_street_15 : decode M_Mod_street.2.1 15 = .ok (.bipush (-3), 2) := by decide +kernel
theorem d_Mod_street_17 : decode M_Mod_street.2.1 17 = .ok (.invokevirtual 126, 3) := by decide +kernel
theorem d_Mod_street_20 : decode M_Mod_street.2.1 20 = .ok (.ireturn, 1) := by decide +kernel
theorem d_Mod_street_21 : decode M_Mod_street.2.1 21 = .ok (.iload_n 3, 1) := by decide +kernel
theorem d_Mod_street_22 : decode M_Mod_street.2.1 22 = .ok (.i2l, 1) := by decide +kernel
theorem d_Mod_street_23 : decode M_Mod_street.2.1 23 = .ok (.lconst 0, 1) := by decide +kernel
theorem d_Mod_street_24 : decode M_Mod_street.2.1 24 = .ok (.ldc2_w 140, 3) := by decide +kernel
theorem d_Mod_street_27 : decode M_Mod_street.2.1 27 = .ok (.invokestatic 122, 3) := by decide +kernel
theorem d_Mod_street_30 : decode M_Mod_street.2.1 30 = .ok (.ifCond .eq 8, 3) := by decide +kernel
theorem d_Mod_street_33 : decode M_Mod_street.2.1 33 = .ok (.iload_n 1, 1) := by decide +kernel
theorem d_Mod_street_34 : decode M_Mod_street.2.1 34 = .ok (.iload_n 2, 1) := by decide +kernel
theorem d_Mod_street_35 : decode M_Mod_street.2.1 35 = .ok (.if_icmp .ne 10, 3) := by decide +kernel
theorem d_Mod_street_38 : decode M_Mod_street.2.1 38 = .ok (.aload_n 0, 1) := by decide +kernel
theorem d_Mod_street_39 : decode M_Mod_street.2.1 39 = .ok (.bipush (-7), 2) := by decide +kernel
theorem d_Mod_street_41 : decode M_Mod_street.2.1 41 = .ok (.invokevirtual 126, 3) := by decide +kernel
theorem d_Mod_street_44 : decode M_Mod_street.2.1 44 = .ok (.ireturn, 1) := by decide +kernel
theorem d_Mod_street_45 : decode M_Mod_street.2.1 45 = .ok (.aload_n 0, 1) := by decide +kernel
theorem d_Mod_street_46 : decode M_Mod_street.2.1 46 = .ok (.getfield 7, 3) := by decide +kernel
theorem d_Mod_street_49 : decode M_Mod_street.2.1 49 = .ok (.iload_n 1, 1) := by decide +kernel
theorem d_Mod_street_50 : decode M_Mod_street.2.1 50 = .ok (.iload_n 2, 1) := by decide +kernel
theorem d_Mod_street_51 : decode M_Mod_street.2.1 51 = .ok (.iconst 0, 1) := by decide +kernel
theorem d_Mod_street_52 : decode M_Mod_street.2.1 52 = .ok (.invokestatic 108, 3) := by decide +kernel
theorem d_Mod_street_55 : decode M_Mod_street.2.1 55 = .ok (.iaload, 1) := by decide +kernel
theorem d_Mod_street_56 : decode M_Mod_street.2.1 56 = .ok (.ifCond .le 7, 3) := by decide +kernel
theorem d_Mod_street_59 : decode M_Mod_street.2.1 59 = .ok (.iconst 1, 1) := by decide +kernel
theorem d_Mod_street_60 : decode M_Mod_street.2.1 60 = .ok (.goto 4, 3) := by decide +kernel
theorem d_Mod_street_63 : decode M_Mod_street.2.1 63 = .ok (.iconst 0, 1) := by decide +kernel
theorem d_Mod_street_64 : decode M_Mod_street.2.1 64 = .ok (.istore 4, 2) := by decide +kernel
theorem d_Mod_street_66 : decode M_Mod_street.2.1 66 = .ok (.aload_n 0, 1) := by decide +kernel
theorem d_Mod_street_67 : decode M_Mod_street.2.1 67 = .ok (.iload_n 1, 1) := by decide +kernel
theorem d_Mod_street_68 : decode M_Mod_street.2.1 68 = .ok (.iload_n 2, 1) := by decide +kernel
theorem d_Mod_street_69 : decode M_Mod_street.2.1 69 = .ok (.iconst 0, 1) := by decide +kernel
theorem d_Mod_street_70 : decode M_Mod_street.2.1 70 = .ok (.bipush 7, 2) := by decide +kernel
theorem d_Mod_street_72 : decode M_Mod_street.2.1 72 = .ok (.iload_n 3, 1) := by decide +kernel
theorem d_Mod_street_73 : decode M_Mod_street.2.1 73 = .ok (.invokevirtual 142, 3) := by decide +kernel
theorem d_Mod_street_76 : decode M_Mod_street.2.1 76 = .ok (.ifCond .eq 8, 3) := by decide +kernel
theorem d_Mod_street_79 : decode M_Mod_street.2.1 79 = .ok (.iload 4, 2) := by decide +kernel
theorem d_Mod_street_81 : decode M_Mod_street.2.1 81 = .ok (.goto 9, 3) := by decide +kernel
theorem d_Mod_street_84 : decode M_Mod_street.2.1 84 = .ok (.aload_n 0, 1) := by decide +kernel
theorem d_Mod_street_85 : decode M_Mod_street.2.1 85 = .ok (.bipush (-7), 2) := by decide +kernel
theorem d_Mod_street_87 : decode M_Mod_street.2.1 87 = .ok (.invokevirtual 126, 3) := by decide +kernel
theorem d_Mod_street_90 : decode M_Mod_street.2.1 90 = .ok (.ireturn, 1) := by decide +kernel
theorem d_Mod_tells_0 : decode M_Mod_tells.2.1 0 = .ok (.iconst 0, 1) := by decide +kernel
theorem d_Mod_tells_1 : decode M_Mod_tells.2.1 1 = .ok (.istore 6, 2) := by decide +kernel
theorem d_Mod_tells_3 : decode M_Mod_tells.2.1 3 = .ok (.iload 6, 2) := by decide +kernel
theorem d_Mod_tells_5 : decode M_Mod_tells.2.1 5 = .ok (.bipush 8, 2) := by decide +kernel
theorem d_Mod_tells_7 : decode M_Mod_tells.2.1 7 = .ok (.if_icmp .ge 72, 3) := by decide +kernel
theorem d_Mod_tells_10 : decode M_Mod_tells.2.1 10 = .ok (.aload_n 0, 1) := by decide +kernel
theorem d_Mod_tells_11 : decode M_Mod_tells.2.1 11 = .ok (.getfield 74, 3) := by decide +kernel
theorem d_Mod_tells_14 : decode M_Mod_tells.2.1 14 = .ok (.iload 6, 2) := by decide +kernel
theorem d_Mod_tells_16 : decode M_Mod_tells.2.1 16 = .ok (.aload_n 0, 1) := by decide +kernel
theorem d_Mod_tells_17 : decode M_Mod_tells.2.1 17 = .ok (.getfield 7, 3) := by decide +kernel
theorem d_Mod_tells_20 : decode M_Mod_tells.2.1 20 = .ok (.iload_n 1, 1) := by decide +kernel
theorem d_Mod_tells_21 : decode M_Mod_tells.2.1 21 = .ok (.iload_n 2, 1) := by decide +kernel
theorem d_Mod_tells_22 : decode M_Mod_tells.2.1 22 = .ok (.iload 6, 2) := by decide +kernel
theorem d_Mod_tells_24 : decode M_Mod_tells.2.1 24 = .ok (.invokestatic 108, 3) := by decide +kernel
theorem d_Mod_tells_27 : decode M_Mod_tells.2.1 27 = .ok (.iaload, 1) := by decide +kernel
theorem d_Mod_tells_28 : decode M_Mod_tells.2.1 28 = .ok (.iastore, 1) := by decide +kernel
theorem d_Mod_tells_29 : decode M_Mod_tells.2.1 29 = .ok (.iload 6, 2) := by decide +kernel
theorem d_Mod_tells_31 : decode M_Mod_tells.2.1 31 = .ok (.iload_n 3, 1) := by decide +kernel
theorem d_Mod_tells_32 : decode M_Mod_tells.2.1 32 = .ok (.if_icmp .lt 41, 3) := by decide +kernel
theorem d_Mod_tells_35 : decode M_Mod_tells.2.1 35 = .ok (.iload 6, 2) := by decide +kernel
theorem d_Mod_tells_37 : decode M_Mod_tells.2.1 37 = .ok (.iload 4, 2) := by decide +kernel
theorem d_Mod_tells_39 : decode M_Mod_tells.2.1 39 = .ok (.if_icmp .le 6, 3) := by decide +kernel
theorem d_Mod_tells_42 : decode M_Mod_tells.2.1 42 = .ok (.goto 31, 3) := by decide +kernel
theorem d_Mod_tells_45 : decode M_Mod_tells.2.1 45 = .ok (.aload_n 0, 1) := by decide +kernel
theorem d_Mod_tells_46 : decode M_Mod_tells.2.1 46 = .ok (.getfield 7, 3) := by decide +kernel
theorem d_Mod_tells_49 : decode M_Mod_tells.2.1 49 = .ok (.iload_n 1, 1) := by decide +kernel
theorem d_Mod_tells_50 : decode M_Mod_tells.2.1 50 = .ok (.iload_n 2, 1) := by decide +kernel
theorem d_Mod_tells_51 : decode M_Mod_tells.2.1 51 = .ok (.iload 6, 2) := by decide +kernel
theorem d_Mod_tells_53 : decode M_Mod_tells.2.1 53 = .ok (.invokestatic 108, 3) := by decide +kernel
theorem d_Mod_tells_56 : decode M_Mod_tells.2.1 56 = .ok (.iload 5, 2) := by decide +kernel
theorem d_Mod_tells_58 : decode M_Mod_tells.2.1 58 = .ok (.iastore, 1) := by decide +kernel
theorem d_Mod_tells_59 : decode M_Mod_tells.2.1 59 = .ok (.aload_n 0, 1) := by decide +kernel
theorem d_Mod_tells_60 : decode M_Mod_tells.2.1 60 = .ok (.getfield 7, 3) := by decide +kernel
theorem d_Mod_tells_63 : decode M_Mod_tells.2.1 63 = .ok (.iload_n 2, 1) := by decide +kernel
theorem d_Mod_tells_64 : decode M_Mod_tells.2.1 64 = .ok (.iload_n 1, 1) := by decide +kernel
theorem d_Mod_tells_65 : decode M_Mod_tells.2.1 65 = .ok (.iload 6, 2) := by decide +kernel
theorem d_Mod_tells_67 : decode M_Mod_tells.2.1 67 = .ok (.invokestatic 108, 3) := by decide +kernel
theorem d_Mod_tells_70 : decode M_Mod_tells.2.1 70 = .ok (.iload 5, 2) := by decide +kernel
theorem d_Mod_tells_72 : decode M_Mod_tells.2.1 72 = .ok (.iastore, 1) := by decide +kernel
theorem d_Mod_tells_73 : decode M_Mod_tells.2.1 73 = .ok (.iinc 6 1, 3) := by decide +kernel
theorem d_Mod_tells_76 : decode M_Mod_tells.2.1 76 = .ok (.goto (-73), 3) := by decide +kernel
theorem d_Mod_tells_79 : decode M_Mod_tells.2.1 79 = .ok (.aload_n 0, 1) := by decide +kernel
theorem d_Mod_tells_80 : decode M_Mod_tells.2.1 80 = .ok (.invokevirtual 133, 3) := by decide +kernel
theorem d_Mod_tells_83 : decode M_Mod_tells.2.1 83 = .ok (.ifCond .eq 10, 3) := by decide +kernel
theorem d_Mod_tells_86 : decode M_Mod_tells.2.1 86 = .ok (.aload_n 0, 1) := by decide +kernel
theorem d_Mod_tells_87 : decode M_Mod_tells.2.1 87 = .ok (.iconst 0, 1) := by decide +kernel
theorem d_Mod_tells_88 : decode M_Mod_tells.2.1 88 = .ok (.putfield 137, 3) := by decide +kernel
theorem d_Mod_tells_91 : decode M_Mod_tells.2.1 91 = .ok (.iconst 1, 1) := by decide +kernel
theorem d_Mod_tells_92 : decode M_Mod_tells.2.1 92 = .ok (.ireturn, 1) := by decide +kernel
theorem d_Mod_tells_93 : decode M_Mod_tells.2.1 93 = .ok (.iconst 0, 1) := by decide +kernel
theorem d_Mod_tells_94 : decode M_Mod_tells.2.1 94 = .ok (.istore 6, 2) := by decide +kernel
theorem d_Mod_tells_96 : decode M_Mod_tells.2.1 96 = .ok (.iload 6, 2) := by decide +kernel
theorem d_Mod_tells_98 : decode M_Mod_tells.2.1 98 = .ok (.bipush 8, 2) := by decide +kernel
theorem d_Mod_tells_100 : decode M_Mod_tells.2.1 100 = .ok (.if_icmp .ge 47, 3) := by decide +kernel
theorem d_Mod_tells_103 : decode M_Mod_tells.2.1 103 = .ok (.aload_n 0, 1) := by decide +kernel
theorem d_Mod_tells_104 : decode M_Mod_tells.2.1 104 = .ok (.getfield 7, 3) := by decide +kernel
theorem d_Mod_tells_107 : decode M_Mod_tells.2.1 107 = .ok (.iload_n 1, 1) := by decide +kernel
theorem d_Mod_tells_108 : decode M_Mod_tells.2.1 108 = .ok (.iload_n 2, 1) := by decide +kernel
theorem d_Mod_tells_109 : decode M_Mod_tells.2.1 109 = .ok (.iload 6, 2) := by decide +kernel
theorem d_Mod_tells_111 : decode M_Mod_tells.2.1 111 = .ok (.invokestatic 108, 3) := by decide +kernel
theorem d_Mod_tells_114 : decode M_Mod_tells.2.1 114 = .ok (.aload_n 0, 1) := by decide +kernel
theorem d_Mod_tells_115 : decode M_Mod_tells.2.1 115 = .ok (.getfield 74, 3) := by decide +kernel
theorem d_Mod_tells_118 : decode M_Mod_tells.2.1 118 = .ok (.iload 6, 2) := by decide +kernel
theorem d_Mod_tells_120 : decode M_Mod_tells.2.1 120 = .ok (.iaload, 1) := by decide +kernel
theorem d_Mod_tells_121 : decode M_Mod_tells.2.1 121 = .ok (.iastore, 1) := by decide +kernel
theorem d_Mod_tells_122 : decode M_Mod_tells.2.1 122 = .ok (.aload_n 0, 1) := by decide +kernel
theorem d_Mod_tells_123 : decode M_Mod_tells.2.1 123 = .ok (.getfield 7, 3) := by decide +kernel
theorem d_Mod_tells_126 : decode M_Mod_tells.2.1 126 = .ok (.iload_n 2, 1) := by decide +kernel
theorem d_Mod_tells_127 : decode M_Mod_tells.2.1 127 = .ok (.iload_n 1, 1) := by decide +kernel
theorem d_Mod_tells_128 : decode M_Mod_tells.2.1 128 = .ok (.iload 6, 2) := by decide +kernel
theorem d_Mod_tells_130 : decode M_Mod_tells.2.1 130 = .ok (.invokestatic 108, 3) := by decide +kernel
theorem d_Mod_tells_133 : decode M_Mod_tells.2.1 133 = .ok (.aload_n 0, 1) := by decide +kernel
theorem d_Mod_tells_134 : decode M_Mod_tells.2.1 134 = .ok (.getfield 74, 3) := by decide +kernel
theorem d_Mod_tells_137 : decode M_Mod_tells.2.1 137 = .ok (.iload 6, 2) := by decide +kernel
theorem d_Mod_tells_139 : decode M_Mod_tells.2.1 139 = .ok (.iaload, 1) := by decide +kernel
theorem d_Mod_tells_140 : decode M_Mod_tells.2.1 140 = .ok (.iastore, 1) := by decide +kernel
theorem d_Mod_tells_141 : decode M_Mod_tells.2.1 141 = .ok (.iinc 6 1, 3) := by decide +kernel
theorem d_Mod_tells_144 : decode M_Mod_tells.2.1 144 = .ok (.goto (-48), 3) := by decide +kernel
theorem d_Mod_tells_147 : decode M_Mod_tells.2.1 147 = .ok (.iconst 0, 1) := by decide +kernel
theorem d_Mod_tells_148 : decode M_Mod_tells.2.1 148 = .ok (.ireturn, 1) := by decide +kernel
theorem d_Mod_allFit_0 : decode M_Mod_allFit.2.1 0 = .ok (.iconst 1, 1) := by decide +kernel
theorem d_Mod_allFit_1 : decode M_Mod_allFit.2.1 1 = .ok (.istore_n 1, 1) := by decide +kernel
theorem d_Mod_allFit_2 : decode M_Mod_allFit.2.1 2 = .ok (.iconst 0, 1) := by decide +kernel
theorem d_Mod_allFit_3 : decode M_Mod_allFit.2.1 3 = .ok (.istore_n 2, 1) := by decide +kernel
theorem d_Mod_allFit_4 : decode M_Mod_allFit.2.1 4 = .ok (.iload_n 2, 1) := by decide +kernel
theorem d_Mod_allFit_5 : decode M_Mod_allFit.2.1 5 = .ok (.aload_n 0, 1) := by decide +kernel
theorem d_Mod_allFit_6 : decode M_Mod_allFit.2.1 6 = .ok (.getfield 105, 3) := by decide +kernel
theorem d_Mod_allFit_9 : decode M_Mod_allFit.2.1 9 = .ok (.if_icmp .ge 19, 3) := by decide +kernel
theorem d_Mod_allFit_12 : decode M_Mod_allFit.2.1 12 = .ok (.iload_n 1, 1) := by decide +kernel
theorem d_Mod_allFit_13 : decode M_Mod_allFit.2.1 13 = .ok (.ifCond .eq 15, 3) := by decide +kernel
theorem d_Mod_allFit_16 : decode M_Mod_allFit.2.1 16 = .ok (.aload_n 0, 1) := by decide +kernel
theorem d_Mod_allFit_17 : decode M_Mod_allFit.2.1 17 = .ok (.iload_n 2, 1) := by decide +kernel
theorem d_Mod_allFit_18 : decode M_Mod_allFit.2.1 18 = .ok (.invokevirtual 201, 3) := by decide +kernel
theorem d_Mod_allFit_21 : decode M_Mod_allFit.2.1 21 = .ok (.istore_n 1, 1) := by decide +kernel
theorem d_Mod_allFit_22 : decode M_Mod_allFit.2.1 22 = .ok (.iinc 2 1, 3) := by decide +kernel
theorem d_Mod_allFit_25 : decode M_Mod_allFit.2.1 25 = .ok (.goto (-21), 3) := by decide +kernel
theorem d_Mod_allFit_28 : decode M_Mod_allFit.2.1 28 = .ok (.iload_n 1, 1) := by decide +kernel
theorem d_Mod_allFit_29 : decode M_Mod_allFit.2.1 29 = .ok (.ireturn, 1) := by decide +kernel
theorem d_Mod_fits_0 : decode M_Mod_fits.2.1 0 = .ok (.aload_n 0, 1) := by decide +kernel
theorem d_Mod_fits_1 : decode M_Mod_fits.2.1 1 = .ok (.iconst 0, 1) := by decide +kernel
theorem d_Mod_fits_2 : decode M_Mod_fits.2.1 2 = .ok (.putfield 171, 3) := by decide +kernel
theorem d_Mod_fits_5 : decode M_Mod_fits.2.1 5 = .ok (.aload_n 0, 1) := by decide +kernel
theorem d_Mod_fits_6 : decode M_Mod_fits.2.1 6 = .ok (.iconst (-1), 1) := by decide +kernel
theorem d_Mod_fits_7 : decode M_Mod_fits.2.1 7 = .ok (.putfield 174, 3) := by decide +kernel
theorem d_Mod_fits_10 : decode M_Mod_fits.2.1 10 = .ok (.aload_n 0, 1) := by decide +kernel
theorem d_Mod_fits_11 : decode M_Mod_fits.2.1 11 = .ok (.iconst 0, 1) := by decide +kernel
theorem d_Mod_fits_12 : decode M_Mod_fits.2.1 12 = .ok (.putfield 185, 3) := by decide +kernel
theorem d_Mod_fits_15 : decode M_Mod_fits.2.1 15 = .ok (.aload_n 0, 1) := by decide +kernel
theorem d_Mod_fits_16 : decode M_Mod_fits.2.1 16 = .ok (.getfield 52, 3) := by decide +kernel
theorem d_Mod_fits_19 : decode M_Mod_fits.2.1 19 = .ok (.iload_n 1, 1) := by decide +kernel
theorem d_Mod_fits_20 : decode M_Mod_fits.2.1 20 = .ok (.iaload, 1) := by decide +kernel
theorem d_Mod_fits_21 : decode M_Mod_fits.2.1 21 = .ok (.ifCond .ne 5, 3) := by decide +kernel
theorem d_Mod_fits_24 : decode M_Mod_fits.2.1 24 = .ok (.iconst 1, 1) := by decide +kernel
theorem d_Mod_fits_25 : decode M_Mod_fits.2.1 25 = .ok (.ireturn, 1) := by decide +kernel
theorem d_Mod_fits_26 : decode M_Mod_fits.2.1 26 = .ok (.aload_n 0, 1) := by decide +kernel
theorem d_Mod_fits_27 : decode M_Mod_fits.2.1 27 = .ok (.iload_n 1, 1) := by decide +kernel
theorem d_Mod_fits_28 : decode M_Mod_fits.2.1 28 = .ok (.invokevirtual 191, 3) := by decide +kernel
theorem d_Mod_fits_31 : decode M_Mod_fits.2.1 31 = .ok (.aload_n 0, 1) := by decide +kernel
theorem d_Mod_fits_32 : decode M_Mod_fits.2.1 32 = .ok (.iload_n 1, 1) := by decide +kernel
theorem d_Mod_fits_33 : decode M_Mod_fits.2.1 33 = .ok (.invokevirtual 195, 3) := by decide +kernel
theorem d_Mod_fits_36 : decode M_Mod_fits.2.1 36 = .ok (.aload_n 0, 1) := by decide +kernel
theorem d_Mod_fits_37 : decode M_Mod_fits.2.1 37 = .ok (.iload_n 1, 1) := by decide +kernel
theorem d_Mod_fits_38 : decode M_Mod_fits.2.1 38 = .ok (.invokevirtual 198, 3) := by decide +kernel
theorem d_Mod_fits_41 : decode M_Mod_fits.2.1 41 = .ok (.aload_n 0, 1) := by decide +kernel
theorem d_Mod_fits_42 : decode M_Mod_fits.2.1 42 = .ok (.getfield 171, 3) := by decide +kernel
theorem d_Mod_fits_45 : decode M_Mod_fits.2.1 45 = .ok (.ifCond .ne 7, 3) := by decide +kernel
theorem d_Mod_fits_48 : decode M_Mod_fits.2.1 48 = .ok (.iconst 1, 1) := by decide +kernel
theorem d_Mod_fits_49 : decode M_Mod_fits.2.1 49 = .ok (.goto 4, 3) := by decide +kernel
theorem d_Mod_fits_52 : decode M_Mod_fits.2.1 52 = .ok (.iconst 0, 1) := by decide +kernel
theorem d_Mod_fits_53 : decode M_Mod_fits.2.1 53 = .ok (.ireturn, 1) := by decide +kernel
theorem d_Mod_pairs_0 : decode M_Mod_pairs.2.1 0 = .ok (.iconst 0, 1) := by decide +kernel
theorem d_Mod_pairs_1 : decode M_Mod_pairs.2.1 1 = .ok (.istore_n 2, 1) := by decide +kernel
theorem d_Mod_pairs_2 : decode M_Mod_pairs.2.1 2 = .ok (.iload_n 2, 1) := by decide +kernel
theorem d_Mod_pairs_3 : decode M_Mod_pairs.2.1 3 = .ok (.aload_n 0, 1) := by decide +kernel
theorem d_Mod_pairs_4 : decode M_Mod_pairs.2.1 4 = .ok (.getfield 52, 3) := by decide +kernel
theorem d_Mod_pairs_7 : decode M_Mod_pairs.2.1 7 = .ok (.iload_n 1, 1) := by decide +kernel
theorem d_Mod_pairs_8 : decode M_Mod_pairs.2.1 8 = .ok (.iaload, 1) := by decide +kernel
theorem d_Mod_pairs_9 : decode M_Mod_pairs.2.1 9 = .ok (.if_icmp .ge 93, 3) := by decide +kernel
theorem d_Mod_pairs_12 : decode M_Mod_pairs.2.1 12 = .ok (.aload_n 0, 1) := by decide +kernel
theorem d_Mod_pairs_13 : decode M_Mod_pairs.2.1 13 = .ok (.getfield 49, 3) := by decide +kernel
theorem d_Mod_pairs_16 : decode M_Mod_pairs.2.1 16 = .ok (.bipush 12, 2) := by decide +kernel
theorem d_Mod_pairs_18 : decode M_Mod_pairs.2.1 18 = .ok (.iload_n 1, 1) := by decide +kernel
theorem d_Mod_pairs_19 : decode M_Mod_pairs.2.1 19 = .ok (.imul, 1) := by decide +kernel
theorem d_Mod_pairs_20 : decode M_Mod_pairs.2.1 20 = .ok (.iload_n 2, 1) := by decide +kernel
theorem d_Mod_pairs_21 : decode M_Mod_pairs.2.1 21 = .ok (.iadd, 1) := by decide +kernel
theorem d_Mod_pairs_22 : decode M_Mod_pairs.2.1 22 = .ok (.iaload, 1) := by decide +kernel
theorem d_Mod_pairs_23 : decode M_Mod_pairs.2.1 23 = .ok (.istore_n 3, 1) := by decide +kernel
theorem d_Mod_pairs_24 : decode M_Mod_pairs.2.1 24 = .ok (.aload_n 0, 1) := by decide +kernel
theorem d_Mod_pairs_25 : decode M_Mod_pairs.2.1 25 = .ok (.getfield 13, 3) := by decide +kernel
theorem d_Mod_pairs_28 : decode M_Mod_pairs.2.1 28 = .ok (.iload_n 3, 1) := by decide +kernel
theorem d_Mod_pairs_29 : decode M_Mod_pairs.2.1 29 = .ok (.iaload, 1) := by decide +kernel
theorem d_Mod_pairs_30 : decode M_Mod_pairs.2.1 30 = .ok (.iconst 2, 1) := by decide +kernel
theorem d_Mod_pairs_31 : decode M_Mod_pairs.2.1 31 = .ok (.if_icmp .ne 19, 3) := by decide +kernel
theorem d_Mod_pairs_34 : decode M_Mod_pairs.2.1 34 = .ok (.aload_n 0, 1) := by decide +kernel
theorem d_Mod_pairs_35 : decode M_Mod_pairs.2.1 35 = .ok (.iload_n 1, 1) := by decide +kernel
theorem d_Mod_pairs_36 : decode M_Mod_pairs.2.1 36 = .ok (.aload_n 0, 1) := by decide +kernel
theorem d_Mod_pairs_37 : decode M_Mod_pairs.2.1 37 = .ok (.getfield 31, 3) := by decide +kernel
theorem d_Mod_pairs_40 : decode M_Mod_pairs.2.1 40 = .ok (.iload_n 3, 1) := by decide +kernel
theorem d_Mod_pairs_41 : decode M_Mod_pairs.2.1 41 = .ok (.iaload, 1) := by decide +kernel
theorem d_Mod_pairs_42 : decode M_Mod_pairs.2.1 42 = .ok (.iconst 0, 1) := by decide +kernel
theorem d_Mod_pairs_43 : decode M_Mod_pairs.2.1 43 = .ok (.iload_n 2, 1) := by decide +kernel
theorem d_Mod_pairs_44 : decode M_Mod_pairs.2.1 44 = .ok (.invokevirtual 177, 3) := by decide +kernel
theorem d_Mod_pairs_47 : decode M_Mod_pairs.2.1 47 = .ok (.ifCond .eq 43, 3) := by decide +kernel
theorem d_Mod_pairs_50 : decode M_Mod_pairs.2.1 50 = .ok (.aload_n 0, 1) := by decide +kernel
theorem d_Mod_pairs_51 : decode M_Mod_pairs.2.1 51 = .ok (.getfield 13, 3) := by decide +kernel
theorem d_Mod_pairs_54 : decode M_Mod_pairs.2.1 54 = .ok (.iload_n 3, 1) := by decide +kernel
theorem d_Mod_pairs_55 : decode M_Mod_pairs.2.1 55 = .ok (.iaload, 1) := by decide +kernel
theorem d_Mod_pairs_56 : decode M_Mod_pairs.2.1 56 = .ok (.iconst 1, 1) := by decide +kernel
theorem d_Mod_pairs_57 : decode M_Mod_pairs.2.1 57 = .ok (.if_icmp .ne 39, 3) := by decide +kernel
theorem d_Mod_pairs_60 : decode M_Mod_pairs.2.1 60 = .ok (.aload_n 0, 1) := by decide +kernel
theorem d_Mod_pairs_61 : decode M_Mod_pairs.2.1 61 = .ok (.getfield 31, 3) := by decide +kernel
theorem d_Mod_pairs_64 : decode M_Mod_pairs.2.1 64 = .ok (.iload_n 3, 1) := by decide +kernel
theorem d_Mod_pairs_65 : decode M_Mod_pairs.2.1 65 = .ok (.iaload, 1) := by decide +kernel
theorem d_Mod_pairs_66 : decode M_Mod_pairs.2.1 66 = .ok (.ifCond .lt 30, 3) := by decide +kernel
theorem d_Mod_pairs_69 : decode M_Mod_pairs.2.1 69 = .ok (.aload_n 0, 1) := by decide +kernel
theorem d_Mod_pairs_70 : decode M_Mod_pairs.2.1 70 = .ok (.iload_n 1, 1) := by decide +kernel
theorem d_Mod_pairs_71 : decode M_Mod_pairs.2.1 71 = .ok (.aload_n 0, 1) := by decide +kernel
theorem d_Mod_pairs_72 : decode M_Mod_pairs.2.1 72 = .ok (.getfield 31, 3) := by decide +kernel
theorem d_Mod_pairs_75 : decode M_Mod_pairs.2.1 75 = .ok (.iload_n 3, 1) := by decide +kernel
theorem d_Mod_pairs_76 : decode M_Mod_pairs.2.1 76 = .ok (.iaload, 1) := by decide +kernel
theorem d_Mod_pairs_77 : decode M_Mod_pairs.2.1 77 = .ok (.iconst 0, 1) := by decide +kernel
theorem d_Mod_pairs_78 : decode M_Mod_pairs.2.1 78 = .ok (.aload_n 0, 1) := by decide +kernel
theorem d_Mod_pairs_79 : decode M_Mod_pairs.2.1 79 = .ok (.getfield 52, 3) := by decide +kernel
theorem d_Mod_pairs_82 : decode M_Mod_pairs.2.1 82 = .ok (.iload_n 1, 1) := by decide +kernel
theorem d_Mod_pairs_83 : decode M_Mod_pairs.2.1 83 = .ok (.iaload, 1) := by decide +kernel
theorem d_Mod_pairs_84 : decode M_Mod_pairs.2.1 84 = .ok (.invokevirtual 177, 3) := by decide +kernel
theorem d_Mod_pairs_87 : decode M_Mod_pairs.2.1 87 = .ok (.ifCond .ne 9, 3) := by decide +kernel
theorem d_Mod_pairs_90 : decode M_Mod_pairs.2.1 90 = .ok (.aload_n 0, 1) := by decide +kernel
theorem d_Mod_pairs_91 : decode M_Mod_pairs.2.1 91 = .ok (.iconst 1, 1) := by decide +kernel
theorem d_Mod_pairs_92 : decode M_Mod_pairs.2.1 92 = .ok (.iload_n 2, 1) := by decide +kernel
theorem d_Mod_pairs_93 : decode M_Mod_pairs.2.1 93 = .ok (.invokevirtual 181, 3) := by decide +kernel
theorem d_Mod_pairs_96 : decode M_Mod_pairs.2.1 96 = .ok (.iinc 2 1, 3) := by decide +kernel
theorem d_Mod_pairs_99 : decode M_Mod_pairs.2.1 99 = .ok (.goto (-97), 3) := by decide +kernel
theorem d_Mod_pairs_102 : decode M_Mod_pairs.2.1 102 = .ok (.return_, 1) := by decide +kernel
theorem d_Mod_stands_0 : decode M_Mod_stands.2.1 0 = .ok (.iconst 0, 1) := by decide +kernel
theorem d_Mod_stands_1 : decode M_Mod_stands.2.1 1 = .ok (.istore 5, 2) := by decide +kernel
theorem d_Mod_stands_3 : decode M_Mod_stands.2.1 3 = .ok (.iload_n 3, 1) := by decide +kernel
theorem d_Mod_stands_4 : decode M_Mod_stands.2.1 4 = .ok (.istore 6, 2) := by decide +kernel
theorem d_Mod_stands_6 : decode M_Mod_stands.2.1 6 = .ok (.iload 6, 2) := by decide +kernel
theorem d_Mod_stands_8 : decode M_Mod_stands.2.1 8 = .ok (.iload 4, 2) := by decide +kernel
theorem d_Mod_stands_10 : decode M_Mod_stands.2.1 10 = .ok (.if_icmp .ge 37, 3) := by decide +kernel
theorem d_Mod_stands_13 : decode M_Mod_stands.2.1 13 = .ok (.iload 5, 2) := by decide +kernel
theorem d_Mod_stands_15 : decode M_Mod_stands.2.1 15 = .ok (.ifCond .ne 19, 3) := by decide +kernel
theorem d_Mod_stands_18 : decode M_Mod_stands.2.1 18 = .ok (.aload_n 0, 1) := by decide +kernel
theorem d_Mod_stands_19 : decode M_Mod_stands.2.1 19 = .ok (.getfield 49, 3) := by decide +kernel
theorem d_Mod_stands_22 : decode M_Mod_stands.2.1 22 = .ok (.bipush 12, 2) := by decide +kernel
theorem d_Mod_stands_24 : decode M_Mod_stands.2.1 24 = .ok (.iload_n 1, 1) := by decide +kernel
theorem d_Mod_stands_25 : decode M_Mod_stands.2.1 25 = .ok (.imul, 1) := by decide +kernel
theorem d_Mod_stands_26 : decode M_Mod_stands.2.1 26 = .ok (.iload 6, 2) := by decide +kernel
theorem d_Mod_stands_28 : decode M_Mod_stands.2.1 28 = .ok (.iadd, 1) := by decide +kernel
theorem d_Mod_stands_29 : decode M_Mod_stands.2.1 29 = .ok (.iaload, 1) := by decide +kernel
theorem d_Mod_stands_30 : decode M_Mod_stands.2.1 30 = .ok (.iload_n 2, 1) := by decide +kernel
theorem d_Mod_stands_31 : decode M_Mod_stands.2.1 31 = .ok (.if_icmp .ne 7, 3) := by decide +kernel
theorem d_Mod_stands_34 : decode M_Mod_stands.2.1 34 = .ok (.iconst 1, 1) := by decide +kernel
theorem d_Mod_stands_35 : decode M_Mod_stands.2.1 35 = .ok (.goto 4, 3) := by decide +kernel
theorem d_Mod_stands_38 : decode M_Mod_stands.2.1 38 = .ok (.iconst 0, 1) := by decide +kernel
theorem d_Mod_stands_39 : decode M_Mod_stands.2.1 39 = .ok (.istore 5, 2) := by decide +kernel
theorem d_Mod_stands_41 : decode M_Mod_stands.2.1 41 = .ok (.iinc 6 1, 3) := by decide +kernel
theorem d_Mod_stands_44 : decode M_Mod_stands.2.1 44 = .ok (.goto (-38), 3) := by decide +kernel
theorem d_Mod_stands_47 : decode M_Mod_stands.2.1 47 = .ok (.iload 5, 2) := by decide +kernel
theorem d_Mod_stands_49 : decode M_Mod_stands.2.1 49 = .ok (.ireturn, 1) := by decide +kernel
theorem d_Mod_fails_0 : decode M_Mod_fails.2.1 0 = .ok (.aload_n 0, 1) := by decide +kernel
theorem d_Mod_fails_1 : decode M_Mod_fails.2.1 1 = .ok (.getfield 171, 3) := by decide +kernel
theorem d_Mod_fails_4 : decode M_Mod_fails.2.1 4 = .ok (.ifCond .eq 4, 3) := by decide +kernel
theorem d_Mod_fails_7 : decode M_Mod_fails.2.1 7 = .ok (.return_, 1) := by decide +kernel
theorem d_Mod_fails_8 : decode M_Mod_fails.2.1 8 = .ok (.aload_n 0, 1) := by decide +kernel
theorem d_Mod_fails_9 : decode M_Mod_fails.2.1 9 = .ok (.iload_n 1, 1) := by decide +kernel
theorem d_Mod_fails_10 : decode M_Mod_fails.2.1 10 = .ok (.putfield 171, 3) := by decide +kernel
theorem d_Mod_fails_13 : decode M_Mod_fails.2.1 13 = .ok (.aload_n 0, 1) := by decide +kernel
theorem d_Mod_fails_14 : decode M_Mod_fails.2.1 14 = .ok (.iload_n 2, 1) := by decide +kernel
theorem d_Mod_fails_15 : decode M_Mod_fails.2.1 15 = .ok (.putfield 174, 3) := by decide +kernel
theorem d_Mod_fails_18 : decode M_Mod_fails.2.1 18 = .ok (.return_, 1) := by decide +kernel
theorem d_Mod_loads_0 : decode M_Mod_loads.2.1 0 = .ok (.iconst 0, 1) := by decide +kernel
theorem d_Mod_loads_1 : decode M_Mod_loads.2.1 1 = .ok (.istore_n 2, 1) := by decide +kernel
theorem d_Mod_loads_2 : decode M_Mod_loads.2.1 2 = .ok (.iconst 0, 1) := by decide +kernel
theorem d_Mod_loads_3 : decode M_Mod_loads.2.1 3 = .ok (.istore_n 3, 1) := by decide +kernel
theorem d_Mod_loads_4 : decode M_Mod_loads.2.1 4 = .ok (.iload_n 3, 1) := by decide +kernel
theorem d_Mod_loads_5 : decode M_Mod_loads.2.1 5 = .ok (.aload_n 0, 1) := by decide +kernel
theorem d_Mod_loads_6 : decode M_Mod_loads.2.1 6 = .ok (.getfield 52, 3) := by decide +kernel
theorem d_Mod_loads_9 : decode M_Mod_loads.2.1 9 = .ok (.iload_n 1, 1) := by decide +kernel
theorem d_Mod_loads_10 : decode M_Mod_loads.2.1 10 = .ok (.iaload, 1) := by decide +kernel
theorem d_Mod_loads_11 : decode M_Mod_loads.2.1 11 = .ok (.if_icmp .ge 58, 3) := by decide +kernel
theorem d_Mod_loads_14 : decode M_Mod_loads.2.1 14 = .ok (.aload_n 0, 1) := by decide +kernel
theorem d_Mod_loads_15 : decode M_Mod_loads.2.1 15 = .ok (.getfield 49, 3) := by decide +kernel
theorem d_Mod_loads_18 : decode M_Mod_loads.2.1 18 = .ok (.bipush 12, 2) := by decide +kernel
theorem d_Mod_loads_20 : decode M_Mod_loads.2.1 20 = .ok (.iload_n 1, 1) := by decide +kernel
theorem d_Mod_loads_21 : decode M_Mod_loads.2.1 21 = .ok (.imul, 1) := by decide +kernel
theorem d_Mod_loads_22 : decode M_Mod_loads.2.1 22 = .ok (.iload_n 3, 1) := by decide +kernel
theorem d_Mod_loads_23 : decode M_Mod_loads.2.1 23 = .ok (.iadd, 1) := by decide +kernel
theorem d_Mod_loads_24 : decode M_Mod_loads.2.1 24 = .ok (.iaload, 1) := by decide +kernel
theorem d_Mod_loads_25 : decode M_Mod_loads.2.1 25 = .ok (.istore 4, 2) := by decide +kernel
theorem d_Mod_loads_27 : decode M_Mod_loads.2.1 27 = .ok (.iload_n 2, 1) := by decide +kernel
theorem d_Mod_loads_28 : decode M_Mod_loads.2.1 28 = .ok (.aload_n 0, 1) := by decide +kernel
theorem d_Mod_loads_29 : decode M_Mod_loads.2.1 29 = .ok (.getfield 13, 3) := by decide +kernel
theorem d_Mod_loads_32 : decode M_Mod_loads.2.1 32 = .ok (.iload 4, 2) := by decide +kernel
theorem d_Mod_loads_34 : decode M_Mod_loads.2.1 34 = .ok (.iaload, 1) := by decide +kernel
theorem d_Mod_loads_35 : decode M_Mod_loads.2.1 35 = .ok (.iconst 1, 1) := by decide +kernel
theorem d_Mod_loads_36 : decode M_Mod_loads.2.1 36 = .ok (.if_icmp .eq 14, 3) := by decide +kernel
theorem d_Mod_loads_39 : decode M_Mod_loads.2.1 39 = .ok (.aload_n 0, 1) := by decide +kernel
theorem d_Mod_loads_40 : decode M_Mod_loads.2.1 40 = .ok (.getfield 13, 3) := by decide +kernel
theorem d_Mod_loads_43 : decode M_Mod_loads.2.1 43 = .ok (.iload 4, 2) := by decide +kernel
theorem d_Mod_loads_45 : decode M_Mod_loads.2.1 45 = .ok (.iaload, 1) := by decide +kernel
theorem d_Mod_loads_46 : decode M_Mod_loads.2.1 46 = .ok (.iconst 2, 1) := by decide +kernel
theorem d_Mod_loads_47 : decode M_Mod_loads.2.1 47 = .ok (.if_icmp .ne 7, 3) := by decide +kernel
theorem d_Mod_loads_50 : decode M_Mod_loads.2.1 50 = .ok (.iconst 0, 1) := by decide +kernel
theorem d_Mod_loads_51 : decode M_Mod_loads.2.1 51 = .ok (.goto 10, 3) := by decide +kernel
theorem d_Mod_loads_54 : decode M_Mod_loads.2.1 54 = .ok (.aload_n 0, 1) := by decide +kernel
theorem d_Mod_loads_55 : decode M_Mod_loads.2.1 55 = .ok (.getfield 28, 3) := by decide +kernel
theorem d_Mod_loads_58 : decode M_Mod_loads.2.1 58 = .ok (.iload 4, 2) := by decide +kernel
theorem d_Mod_loads_60 : decode M_Mod_loads.2.1 60 = .ok (.iaload, 1) := by decide +kernel
theorem d_Mod_loads_61 : decode M_Mod_loads.2.1 61 = .ok (.iadd, 1) := by decide +kernel
theorem d_Mod_loads_62 : decode M_Mod_loads.2.1 62 = .ok (.istore_n 2, 1) := by decide +kernel
theorem d_Mod_loads_63 : decode M_Mod_loads.2.1 63 = .ok (.iinc 3 1, 3) := by decide +kernel
theorem d_Mod_loads_66 : decode M_Mod_loads.2.1 66 = .ok (.goto (-62), 3) := by decide +kernel
theorem d_Mod_loads_69 : decode M_Mod_loads.2.1 69 = .ok (.iload_n 2, 1) := by decide +kernel
theorem d_Mod_loads_70 : decode M_Mod_loads.2.1 70 = .ok (.aload_n 0, 1) := by decide +kernel
theorem d_Mod_loads_71 : decode M_Mod_loads.2.1 71 = .ok (.getfield 37, 3) := by decide +kernel
theorem d_Mod_loads_74 : decode M_Mod_loads.2.1 74 = .ok (.iload_n 1, 1) := by decide +kernel
theorem d_Mod_loads_75 : decode M_Mod_loads.2.1 75 = .ok (.iaload, 1) := by decide +kernel
theorem d_Mod_loads_76 : decode M_Mod_loads.2.1 76 = .ok (.if_icmp .le 9, 3) := by decide +kernel
theorem d_Mod_loads_79 : decode M_Mod_loads.2.1 79 = .ok (.aload_n 0, 1) := by decide +kernel
theorem d_Mod_loads_80 : decode M_Mod_loads.2.1 80 = .ok (.iconst 2, 1) := by decide +kernel
theorem d_Mod_loads_81 : decode M_Mod_loads.2.1 81 = .ok (.iconst (-1), 1) := by decide +kernel
theorem d_Mod_loads_82 : decode M_Mod_loads.2.1 82 = .ok (.invokevirtual 181, 3) := by decide +kernel
theorem d_Mod_loads_85 : decode M_Mod_loads.2.1 85 = .ok (.iconst 0, 1) := by decide +kernel
theorem d_Mod_loads_86 : decode M_Mod_loads.2.1 86 = .ok (.istore_n 3, 1) := by decide +kernel
theorem d_Mod_loads_87 : decode M_Mod_loads.2.1 87 = .ok (.iload_n 3, 1) := by decide +kernel
theorem d_Mod_loads_88 : decode M_Mod_loads.2.1 88 = .ok (.aload_n 0, 1) := by decide +kernel
theorem d_Mod_loads_89 : decode M_Mod_loads.2.1 89 = .ok (.getfield 52, 3) := by decide +kernel
theorem d_Mod_loads_92 : decode M_Mod_loads.2.1 92 = .ok (.iload_n 1, 1) := by decide +kernel
theorem d_Mod_loads_93 : decode M_Mod_loads.2.1 93 = .ok (.iaload, 1) := by decide +kernel
theorem d_Mod_loads_94 : decode M_Mod_loads.2.1 94 = .ok (.if_icmp .ge 77, 3) := by decide +kernel
theorem d_Mod_loads_97 : decode M_Mod_loads.2.1 97 = .ok (.aload_n 0, 1) := by decide +kernel
theorem d_Mod_loads_98 : decode M_Mod_loads.2.1 98 = .ok (.getfield 49, 3) := by decide +kernel
theorem d_Mod_loads_101 : decode M_Mod_loads.2.1 101 = .ok (.bipush 12, 2) := by decide +kernel
theorem d_Mod_loads_103 : decode M_Mod_loads.2.1 103 = .ok (.iload_n 1, 1) := by decide +kernel
theorem d_Mod_loads_104 : decode M_Mod_loads.2.1 104 = .ok (.imul, 1) := by decide +kernel
theorem d_Mod_loads_105 : decode M_Mod_loads.2.1 105 = .ok (.iload_n 3, 1) := by decide +kernel
theorem d_Mod_loads_106 : decode M_Mod_loads.2.1 106 = .ok (.iadd, 1) := by decide +kernel
theorem d_Mod_loads_107 : decode M_Mod_loads.2.1 107 = .ok (.iaload, 1) := by decide +kernel
theorem d_Mod_loads_108 : decode M_Mod_loads.2.1 108 = .ok (.istore 4, 2) := by decide +kernel
theorem d_Mod_loads_110 : decode M_Mod_loads.2.1 110 = .ok (.iload_n 2, 1) := by decide +kernel
theorem d_Mod_loads_111 : decode M_Mod_loads.2.1 111 = .ok (.aload_n 0, 1) := by decide +kernel
theorem d_Mod_loads_112 : decode M_Mod_loads.2.1 112 = .ok (.getfield 13, 3) := by decide +kernel
theorem d_Mod_loads_115 : decode M_Mod_loads.2.1 115 = .ok (.iload 4, 2) := by decide +kernel
theorem d_Mod_loads_117 : decode M_Mod_loads.2.1 117 = .ok (.iaload, 1) := by decide +kernel
theorem d_Mod_loads_118 : decode M_Mod_loads.2.1 118 = .ok (.iconst 1, 1) := by decide +kernel
theorem d_Mod_loads_119 : decode M_Mod_loads.2.1 119 = .ok (.if_icmp .ne 13, 3) := by decide +kernel
theorem d_Mod_loads_122 : decode M_Mod_loads.2.1 122 = .ok (.aload_n 0, 1) := by decide +kernel
theorem d_Mod_loads_123 : decode M_Mod_loads.2.1 123 = .ok (.getfield 28, 3) := by decide +kernel
theorem d_Mod_loads_126 : decode M_Mod_loads.2.1 126 = .ok (.iload 4, 2) := by decide +kernel
theorem d_Mod_loads_128 : decode M_Mod_loads.2.1 128 = .ok (.iaload, 1) := by decide +kernel
theorem d_Mod_loads_129 : decode M_Mod_loads.2.1 129 = .ok (.goto 11, 3) := by decide +kernel
theorem d_Mod_loads_132 : decode M_Mod_loads.2.1 132 = .ok (.aload_n 0, 1) := by decide +kernel
theorem d_Mod_loads_133 : decode M_Mod_loads.2.1 133 = .ok (.getfield 28, 3) := by decide +kernel
theorem d_Mod_loads_136 : decode M_Mod_loads.2.1 136 = .ok (.iload 4, 2) := by decide +kernel
theorem d_Mod_loads_138 : decode M_Mod_loads.2.1 138 = .ok (.iaload, 1) := by decide +kernel
theorem d_Mod_loads_139 : decode M_Mod_loads.2.1 139 = .ok (.ineg, 1) := by decide +kernel
theorem d_Mod_loads_140 : decode M_Mod_loads.2.1 140 = .ok (.iadd, 1) := by decide +kernel
theorem d_Mod_loads_141 : decode M_Mod_loads.2.1 141 = .ok (.istore_n 2, 1) := by decide +kernel
theorem d_Mod_loads_142 : decode M_Mod_loads.2.1 142 = .ok (.aload_n 0, 1) := by decide +kernel
theorem d_Mod_loads_143 : decode M_Mod_loads.2.1 143 = .ok (.getfield 86, 3) := by decide +kernel
theorem d_Mod_loads_146 : decode M_Mod_loads.2.1 146 = .ok (.iload_n 3, 1) := by decide +kernel
theorem d_Mod_loads_147 : decode M_Mod_loads.2.1 147 = .ok (.iload_n 2, 1) := by decide +kernel
theorem d_Mod_loads_148 : decode M_Mod_loads.2.1 148 = .ok (.iastore, 1) := by decide +kernel
theorem d_Mod_loads_149 : decode M_Mod_loads.2.1 149 = .ok (.iload_n 2, 1) := by decide +kernel
theorem d_Mod_loads_150 : decode M_Mod_loads.2.1 150 = .ok (.aload_n 0, 1) := by decide +kernel
theorem d_Mod_loads_151 : decode M_Mod_loads.2.1 151 = .ok (.getfield 37, 3) := by decide +kernel
theorem d_Mod_loads_154 : decode M_Mod_loads.2.1 154 = .ok (.iload_n 1, 1) := by decide +kernel
theorem d_Mod_loads_155 : decode M_Mod_loads.2.1 155 = .ok (.iaload, 1) := by decide +kernel
theorem d_Mod_loads_156 : decode M_Mod_loads.2.1 156 = .ok (.if_icmp .le 9, 3) := by decide +kernel
theorem d_Mod_loads_159 : decode M_Mod_loads.2.1 159 = .ok (.aload_n 0, 1) := by decide +kernel
theorem d_Mod_loads_160 : decode M_Mod_loads.2.1 160 = .ok (.iconst 2, 1) := by decide +kernel
theorem d_Mod_loads_161 : decode M_Mod_loads.2.1 161 = .ok (.iload_n 3, 1) := by decide +kernel
theorem d_Mod_loads_162 : decode M_Mod_loads.2.1 162 = .ok (.invokevirtual 181, 3) := by decide +kernel
theorem d_Mod_loads_165 : decode M_Mod_loads.2.1 165 = .ok (.iinc 3 1, 3) := by decide +kernel
theorem d_Mod_loads_168 : decode M_Mod_loads.2.1 168 = .ok (.goto (-81), 3) := by decide +kernel
theorem d_Mod_loads_171 : decode M_Mod_loads.2.1 171 = .ok (.return_, 1) := by decide +kernel
theorem d_Mod_goes_0 : decode M_Mod_goes.2.1 0 = .ok (.iconst 0, 1) := by decide +kernel
theorem d_Mod_goes_1 : decode M_Mod_goes.2.1 1 = .ok (.istore_n 2, 1) := by decide +kernel
theorem d_Mod_goes_2 : decode M_Mod_goes.2.1 2 = .ok (.aload_n 0, 1) := by decide +kernel
theorem d_Mod_goes_3 : decode M_Mod_goes.2.1 3 = .ok (.getfield 40, 3) := by decide +kernel
theorem d_Mod_goes_6 : decode M_Mod_goes.2.1 6 = .ok (.iload_n 1, 1) := by decide +kernel
theorem d_Mod_goes_7 : decode M_Mod_goes.2.1 7 = .ok (.iaload, 1) := by decide +kernel
theorem d_Mod_goes_8 : decode M_Mod_goes.2.1 8 = .ok (.istore_n 3, 1) := by decide +kernel
theorem d_Mod_goes_9 : decode M_Mod_goes.2.1 9 = .ok (.aload_n 0, 1) := by decide +kernel
theorem d_Mod_goes_10 : decode M_Mod_goes.2.1 10 = .ok (.aload_n 0, 1) := by decide +kernel
theorem d_Mod_goes_11 : decode M_Mod_goes.2.1 11 = .ok (.getfield 46, 3) := by decide +kernel
theorem d_Mod_goes_14 : decode M_Mod_goes.2.1 14 = .ok (.iload_n 1, 1) := by decide +kernel
theorem d_Mod_goes_15 : decode M_Mod_goes.2.1 15 = .ok (.iaload, 1) := by decide +kernel
theorem d_Mod_goes_16 : decode M_Mod_goes.2.1 16 = .ok (.iload_n 3, 1) := by decide +kernel
theorem d_Mod_goes_17 : decode M_Mod_goes.2.1 17 = .ok (.isub, 1) := by decide +kernel
theorem d_Mod_goes_18 : decode M_Mod_goes.2.1 18 = .ok (.putfield 185, 3) := by decide +kernel
theorem d_Mod_goes_21 : decode M_Mod_goes.2.1 21 = .ok (.iconst 0, 1) := by decide +kernel
theorem d_Mod_goes_22 : decode M_Mod_goes.2.1 22 = .ok (.istore 4, 2) := by decide +kernel
theorem d_Mod_goes_24 : decode M_Mod_goes.2.1 24 = .ok (.iload 4, 2) := by decide +kernel
theorem d_Mod_goes_26 : decode M_Mod_goes.2.1 26 = .ok (.aload_n 0, 1) := by decide +kernel
theorem d_Mod_goes_27 : decode M_Mod_goes.2.1 27 = .ok (.getfield 52, 3) := by decide +kernel
theorem d_Mod_goes_30 : decode M_Mod_goes.2.1 30 = .ok (.iload_n 1, 1) := by decide +kernel
theorem d_Mod_goes_31 : decode M_Mod_goes.2.1 31 = .ok (.iaload, 1) := by decide +kernel
theorem d_Mod_goes_32 : decode M_Mod_goes.2.1 32 = .ok (.if_icmp .ge 244, 3) := by decide +kernel
theorem d_Mod_goes_35 : decode M_Mod_goes.2.1 35 = .ok (.aload_n 0, 1) := by decide +kernel
theorem d_Mod_goes_36 : decode M_Mod_goes.2.1 36 = .ok (.getfield 49, 3) := by decide +kernel
theorem d_Mod_goes_39 : decode M_Mod_goes.2.1 39 = .ok (.bipush 12, 2) := by decide +kernel
theorem d_Mod_goes_41 : decode M_Mod_goes.2.1 41 = .ok (.iload_n 1, 1) := by decide +kernel
theorem d_Mod_goes_42 : decode M_Mod_goes.2.1 42 = .ok (.imul, 1) := by decide +kernel
theorem d_Mod_goes_43 : decode M_Mod_goes.2.1 43 = .ok (.iload 4, 2) := by decide +kernel
theorem d_Mod_goes_45 : decode M_Mod_goes.2.1 45 = .ok (.iadd, 1) := by decide +kernel
theorem d_Mod_goes_46 : decode M_Mod_goes.2.1 46 = .ok (.iaload, 1) := by decide +kernel
theorem d_Mod_goes_47 : decode M_Mod_goes.2.1 47 = .ok (.istore 5, 2) := by decide +kernel
theorem d_Mod_goes_49 : decode M_Mod_goes.2.1 49 = .ok (.aload_n 0, 1) := by decide +kernel
theorem d_Mod_goes_50 : decode M_Mod_goes.2.1 50 = .ok (.iload_n 2, 1) := by decide +kernel
theorem d_Mod_goes_51 : decode M_Mod_goes.2.1 51 = .ok (.aload_n 0, 1) := by decide +kernel
theorem d_Mod_goes_52 : decode M_Mod_goes.2.1 52 = .ok (.getfield 16, 3) := by decide +kernel
theorem d_Mod_goes_55 : decode M_Mod_goes.2.1 55 = .ok (.iload 5, 2) := by decide +kernel
theorem d_Mod_goes_57 : decode M_Mod_goes.2.1 57 = .ok (.iaload, 1) := by decide +kernel
theorem d_Mod_goes_58 : decode M_Mod_goes.2.1 58 = .ok (.iload_n 3, 1) := by decide +kernel
theorem d_Mod_goes_59 : decode M_Mod_goes.2.1 59 = .ok (.invokevirtual 130, 3) := by decide +kernel
theorem d_Mod_goes_62 : decode M_Mod_goes.2.1 62 = .ok (.istore 6, 2) := by decide +kernel
theorem d_Mod_goes_64 : decode M_Mod_goes.2.1 64 = .ok (.aload_n 0, 1) := by decide +kernel
theorem d_Mod_goes_65 : decode M_Mod_goes.2.1 65 = .ok (.getfield 77, 3) := by decide +kernel
theorem d_Mod_goes_68 : decode M_Mod_goes.2.1 68 = .ok (.iload 4, 2) := by decide +kernel
theorem d_Mod_goes_70 : decode M_Mod_goes.2.1 70 = .ok (.iload 6, 2) := by decide +kernel
theorem d_Mod_goes_72 : decode M_Mod_goes.2.1 72 = .ok (.iastore, 1) := by decide +kernel
theorem d_Mod_goes_73 : decode M_Mod_goes.2.1 73 = .ok (.aload_n 0, 1) := by decide +kernel
theorem d_Mod_goes_74 : decode M_Mod_goes.2.1 74 = .ok (.getfield 80, 3) := by decide +kernel
theorem d_Mod_goes_77 : decode M_Mod_goes.2.1 77 = .ok (.iload 4, 2) := by decide +kernel
theorem d_Mod_goes_79 : decode M_Mod_goes.2.1 79 = .ok (.iload 6, 2) := by decide +kernel
theorem d_Mod_goes_81 : decode M_Mod_goes.2.1 81 = .ok (.aload_n 0, 1) := by decide +kernel
theorem d_Mod_goes_82 : decode M_Mod_goes.2.1 82 = .ok (.getfield 19, 3) := by decide +kernel
theorem d_Mod_goes_85 : decode M_Mod_goes.2.1 85 = .ok (.iload 5, 2) := by decide +kernel
theorem d_Mod_goes_87 : decode M_Mod_goes.2.1 87 = .ok (.iaload, 1) := by decide +kernel
theorem d_Mod_goes_88 : decode M_Mod_goes.2.1 88 = .ok (.if_icmp .ge 13, 3) := by decide +kernel
theorem d_Mod_goes_91 : decode M_Mod_goes.2.1 91 = .ok (.aload_n 0, 1) := by decide +kernel
theorem d_Mod_goes_92 : decode M_Mod_goes.2.1 92 = .ok (.getfield 19, 3) := by decide +kernel
theorem d_Mod_goes_95 : decode M_Mod_goes.2.1 95 = .ok (.iload 5, 2) := by decide +kernel
theorem d_Mod_goes_97 : decode M_Mod_goes.2.1 97 = .ok (.iaload, 1) := by decide +kernel
theorem d_Mod_goes_98 : decode M_Mod_goes.2.1 98 = .ok (.goto 5, 3) := by decide +kernel
theorem d_Mod_goes_101 : decode M_Mod_goes.2.1 101 = .ok (.iload 6, 2) := by decide +kernel
theorem d_Mod_goes_103 : decode M_Mod_goes.2.1 103 = .ok (.iastore, 1) := by decide +kernel
theorem d_Mod_goes_104 : decode M_Mod_goes.2.1 104 = .ok (.iload 6, 2) := by decide +kernel
theorem d_Mod_goes_106 : decode M_Mod_goes.2.1 106 = .ok (.ldc 112, 2) := by decide +kernel
theorem d_Mod_goes_108 : decode M_Mod_goes.2.1 108 = .ok (.if_icmp .ge 44, 3) := by decide +kernel
theorem d_Mod_goes_111 : decode M_Mod_goes.2.1 111 = .ok (.aload_n 0, 1) := by decide +kernel
theorem d_Mod_goes_112 : decode M_Mod_goes.2.1 112 = .ok (.getfield 80, 3) := by decide +kernel
theorem d_Mod_goes_115 : decode M_Mod_goes.2.1 115 = .ok (.iload 4, 2) := by decide +kernel
theorem d_Mod_goes_117 : decode M_Mod_goes.2.1 117 = .ok (.iaload, 1) := by decide +kernel
theorem d_Mod_goes_118 : decode M_Mod_goes.2.1 118 = .ok (.sipush 480, 3) := by decide +kernel
theorem d_Mod_goes_121 : decode M_Mod_goes.2.1 121 = .ok (.if_icmp .ge 31, 3) := by decide +kernel
theorem d_Mod_goes_124 : decode M_Mod_goes.2.1 124 = .ok (.aload_n 0, 1) := by decide +kernel
theorem d_Mod_goes_125 : decode M_Mod_goes.2.1 125 = .ok (.getfield 13, 3) := by decide +kernel
theorem d_Mod_goes_128 : decode M_Mod_goes.2.1 128 = .ok (.iload 5, 2) := by decide +kernel
theorem d_Mod_goes_130 : decode M_Mod_goes.2.1 130 = .ok (.iaload, 1) := by decide +kernel
theorem d_Mod_goes_131 : decode M_Mod_goes.2.1 131 = .ok (.iconst 3, 1) := by decide +kernel
theorem d_Mod_goes_132 : decode M_Mod_goes.2.1 132 = .ok (.if_icmp .eq 27, 3) := by decide +kernel
theorem d_Mod_goes_135 : decode M_Mod_goes.2.1 135 = .ok (.aload_n 0, 1) := by decide +kernel
theorem d_Mod_goes_136 : decode M_Mod_goes.2.1 136 = .ok (.getfield 80, 3) := by decide +kernel
theorem d_Mod_goes_139 : decode M_Mod_goes.2.1 139 = .ok (.iload 4, 2) := by decide +kernel
theorem d_Mod_goes_141 : decode M_Mod_goes.2.1 141 = .ok (.iaload, 1) := by decide +kernel
theorem d_Mod_goes_142 : decode M_Mod_goes.2.1 142 = .ok (.aload_n 0, 1) := by decide +kernel
theorem d_Mod_goes_143 : decode M_Mod_goes.2.1 143 = .ok (.getfield 22, 3) := by decide +kernel
theorem d_Mod_goes_146 : decode M_Mod_goes.2.1 146 = .ok (.iload 5, 2) := by decide +kernel
theorem d_Mod_goes_148 : decode M_Mod_goes.2.1 148 = .ok (.iaload, 1) := by decide +kernel
theorem d_Mod_goes_149 : decode M_Mod_goes.2.1 149 = .ok (.if_icmp .le 10, 3) := by decide +kernel
theorem d_Mod_goes_152 : decode M_Mod_goes.2.1 152 = .ok (.aload_n 0, 1) := by decide +kernel
theorem d_Mod_goes_153 : decode M_Mod_goes.2.1 153 = .ok (.iconst 3, 1) := by decide +kernel
theorem d_Mod_goes_154 : decode M_Mod_goes.2.1 154 = .ok (.iload 4, 2) := by decide +kernel
theorem d_Mod_goes_156 : decode M_Mod_goes.2.1 156 = .ok (.invokevirtual 181, 3) := by decide +kernel
theorem d_Mod_goes_159 : decode M_Mod_goes.2.1 159 = .ok (.iload 6, 2) := by decide +kernel
theorem d_Mod_goes_161 : decode M_Mod_goes.2.1 161 = .ok (.ldc 112, 2) := by decide +kernel
theorem d_Mod_goes_163 : decode M_Mod_goes.2.1 163 = .ok (.if_icmp .lt 4, 3) := by decide +kernel
theorem d_Mod_goes_166 : decode M_Mod_goes.2.1 166 = .ok (.return_, 1) := by decide +kernel
theorem d_Mod_goes_167 : decode M_Mod_goes.2.1 167 = .ok (.aload_n 0, 1) := by decide +kernel
theorem d_Mod_goes_168 : decode M_Mod_goes.2.1 168 = .ok (.getfield 83, 3) := by decide +kernel
theorem d_Mod_goes_171 : decode M_Mod_goes.2.1 171 = .ok (.iload 4, 2) := by decide +kernel
theorem d_Mod_goes_173 : decode M_Mod_goes.2.1 173 = .ok (.aload_n 0, 1) := by decide +kernel
theorem d_Mod_goes_174 : decode M_Mod_goes.2.1 174 = .ok (.getfield 80, 3) := by decide +kernel
theorem d_Mod_goes_177 : decode M_Mod_goes.2.1 177 = .ok (.iload 4, 2) := by decide +kernel
theorem d_Mod_goes_179 : decode M_Mod_goes.2.1 179 = .ok (.iaload, 1) := by decide +kernel
theorem d_Mod_goes_180 : decode M_Mod_goes.2.1 180 = .ok (.aload_n 0, 1) := by decide +kernel
theorem d_Mod_goes_181 : decode M_Mod_goes.2.1 181 = .ok (.getfield 25, 3) := by decide +kernel
theorem d_Mod_goes_184 : decode M_Mod_goes.2.1 184 = .ok (.iload 5, 2) := by decide +kernel
theorem d_Mod_goes_186 : decode M_Mod_goes.2.1 186 = .ok (.iaload, 1) := by decide +kernel
theorem d_Mod_goes_187 : decode M_Mod_goes.2.1 187 = .ok (.iadd, 1) := by decide +kernel
theorem d_Mod_goes_188 : decode M_Mod_goes.2.1 188 = .ok (.iastore, 1) := by decide +kernel
theorem d_Mod_goes_189 : decode M_Mod_goes.2.1 189 = .ok (.aload_n 0, 1) := by decide +kernel
theorem d_Mod_goes_190 : decode M_Mod_goes.2.1 190 = .ok (.dup, 1) := by decide +kernel
theorem d_Mod_goes_191 : decode M_Mod_goes.2.1 191 = .ok (.getfield 185, 3) := by decide +kernel
theorem d_Mod_goes_194 : decode M_Mod_goes.2.1 194 = .ok (.aload_n 0, 1) := by decide +kernel
theorem d_Mod_goes_195 : decode M_Mod_goes.2.1 195 = .ok (.getfield 25, 3) := by decide +kernel
theorem d_Mod_goes_198 : decode M_Mod_goes.2.1 198 = .ok (.iload 5, 2) := by decide +kernel
theorem d_Mod_goes_200 : decode M_Mod_goes.2.1 200 = .ok (.iaload, 1) := by decide +kernel
theorem d_Mod_goes_201 : decode M_Mod_goes.2.1 201 = .ok (.isub, 1) := by decide +kernel
theorem d_Mod_goes_202 : decode M_Mod_goes.2.1 202 = .ok (.putfield 185, 3) := by decide +kernel
theorem d_Mod_goes_205 : decode M_Mod_goes.2.1 205 = .ok (.aload_n 0, 1) := by decide +kernel
theorem d_Mod_goes_206 : decode M_Mod_goes.2.1 206 = .ok (.getfield 80, 3) := by decide +kernel
theorem d_Mod_goes_209 : decode M_Mod_goes.2.1 209 = .ok (.iload 4, 2) := by decide +kernel
theorem d_Mod_goes_211 : decode M_Mod_goes.2.1 211 = .ok (.iaload, 1) := by decide +kernel
theorem d_Mod_goes_212 : decode M_Mod_goes.2.1 212 = .ok (.aload_n 0, 1) := by decide +kernel
theorem d_Mod_goes_213 : decode M_Mod_goes.2.1 213 = .ok (.getfield 22, 3) := by decide +kernel
theorem d_Mod_goes_216 : decode M_Mod_goes.2.1 216 = .ok (.iload 5, 2) := by decide +kernel
theorem d_Mod_goes_218 : decode M_Mod_goes.2.1 218 = .ok (.iaload, 1) := by decide +kernel
theorem d_Mod_goes_219 : decode M_Mod_goes.2.1 219 = .ok (.if_icmp .le 35, 3) := by decide +kernel
theorem d_Mod_goes_222 : decode M_Mod_goes.2.1 222 = .ok (.aload_n 0, 1) := by decide +kernel
theorem d_Mod_goes_223 : decode M_Mod_goes.2.1 223 = .ok (.dup, 1) := by decide +kernel
theorem d_Mod_goes_224 : decode M_Mod_goes.2.1 224 = .ok (.getfield 185, 3) := by decide +kernel
theorem d_Mod_goes_227 : decode M_Mod_goes.2.1 227 = .ok (.aload_n 0, 1) := by decide +kernel
theorem d_Mod_goes_228 : decode M_Mod_goes.2.1 228 = .ok (.getfield 34, 3) := by decide +kernel
theorem d_Mod_goes_231 : decode M_Mod_goes.2.1 231 = .ok (.iload 5, 2) := by decide +kernel
theorem d_Mod_goes_233 : decode M_Mod_goes.2.1 233 = .ok (.iaload, 1) := by decide +kernel
theorem d_Mod_goes_234 : decode M_Mod_goes.2.1 234 = .ok (.aload_n 0, 1) := by decide +kernel
theorem d_Mod_goes_235 : decode M_Mod_goes.2.1 235 = .ok (.getfield 80, 3) := by decide +kernel
theorem d_Mod_goes_238 : decode M_Mod_goes.2.1 238 = .ok (.iload 4, 2) := by decide +kernel
theorem d_Mod_goes_240 : decode M_Mod_goes.2.1 240 = .ok (.iaload, 1) := by decide +kernel
theorem d_Mod_goes_241 : decode M_Mod_goes.2.1 241 = .ok (.aload_n 0, 1) := by decide +kernel
theorem d_Mod_goes_242 : decode M_Mod_goes.2.1 242 = .ok (.getfield 22, 3) := by decide +kernel
theorem d_Mod_goes_245 : decode M_Mod_goes.2.1 245 = .ok (.iload 5, 2) := by decide +kernel
theorem d_Mod_goes_247 : decode M_Mod_goes.2.1 247 = .ok (.iaload, 1) := by decide +kernel
theorem d_Mod_goes_248 : decode M_Mod_goes.2.1 248 = .ok (.isub, 1) := by decide +kernel
theorem d_Mod_goes_249 : decode M_Mod_goes.2.1 249 = .ok (.imul, 1) := by decide +kernel
theorem d_Mod_goes_250 : decode M_Mod_goes.2.1 250 = .ok (.iadd, 1) := by decide +kernel
theorem d_Mod_goes_251 : decode M_Mod_goes.2.1 251 = .ok (.putfield 185, 3) := by decide +kernel
theorem d_Mod_goes_254 : decode M_Mod_goes.2.1 254 = .ok (.aload_n 0, 1) := by decide +kernel
theorem d_Mod_goes_255 : decode M_Mod_goes.2.1 255 = .ok (.getfield 16, 3) := by decide +kernel
theorem d_Mod_goes_258 : decode M_Mod_goes.2.1 258 = .ok (.iload 5, 2) := by decide +kernel
theorem d_Mod_goes_260 : decode M_Mod_goes.2.1 260 = .ok (.iaload, 1) := by decide +kernel
theorem d_Mod_goes_261 : decode M_Mod_goes.2.1 261 = .ok (.istore_n 2, 1) := by decide +kernel
theorem d_Mod_goes_262 : decode M_Mod_goes.2.1 262 = .ok (.aload_n 0, 1) := by decide +kernel
theorem d_Mod_goes_263 : decode M_Mod_goes.2.1 263 = .ok (.getfield 83, 3) := by decide +kernel
theorem d_Mod_goes_266 : decode M_Mod_goes.2.1 266 = .ok (.iload 4, 2) := by decide +kernel
theorem d_Mod_goes_268 : decode M_Mod_goes.2.1 268 = .ok (.iaload, 1) := by decide +kernel
theorem d_Mod_goes_269 : decode M_Mod_goes.2.1 269 = .ok (.istore_n 3, 1) := by decide +kernel
theorem d_Mod_goes_270 : decode M_Mod_goes.2.1 270 = .ok (.iinc 4 1, 3) := by decide +kernel
theorem d_Mod_goes_273 : decode M_Mod_goes.2.1 273 = .ok (.goto (-249), 3) := by decide +kernel
theorem d_Mod_goes_276 : decode M_Mod_goes.2.1 276 = .ok (.aload_n 0, 1) := by decide +kernel
theorem d_Mod_goes_277 : decode M_Mod_goes.2.1 277 = .ok (.aload_n 0, 1) := by decide +kernel
theorem d_Mod_goes_278 : decode M_Mod_goes.2.1 278 = .ok (.iload_n 2, 1) := by decide +kernel
theorem d_Mod_goes_279 : decode M_Mod_goes.2.1 279 = .ok (.iconst 0, 1) := by decide +kernel
theorem d_Mod_goes_280 : decode M_Mod_goes.2.1 280 = .ok (.iload_n 3, 1) := by decide +kernel
theorem d_Mod_goes_281 : decode M_Mod_goes.2.1 281 = .ok (.invokevirtual 130, 3) := by decide +kernel
theorem d_Mod_goes_284 : decode M_Mod_goes.2.1 284 = .ok (.putfield 188, 3) := by decide +kernel
theorem d_Mod_goes_287 : decode M_Mod_goes.2.1 287 = .ok (.aload_n 0, 1) := by decide +kernel
theorem d_Mod_goes_288 : decode M_Mod_goes.2.1 288 = .ok (.getfield 188, 3) := by decide +kernel
theorem d_Mod_goes_291 : decode M_Mod_goes.2.1 291 = .ok (.ldc 112, 2) := by decide +kernel
theorem d_Mod_goes_293 : decode M_Mod_goes.2.1 293 = .ok (.if_icmp .ge 16, 3) := by decide +kernel
theorem d_Mod_goes_296 : decode M_Mod_goes.2.1 296 = .ok (.aload_n 0, 1) := by decide +kernel
theorem d_Mod_goes_297 : decode M_Mod_goes.2.1 297 = .ok (.getfield 188, 3) := by decide +kernel
theorem d_Mod_goes_300 : decode M_Mod_goes.2.1 300 = .ok (.aload_n 0, 1) := by decide +kernel
theorem d_Mod_goes_301 : decode M_Mod_goes.2.1 301 = .ok (.getfield 43, 3) := by decide +kernel
theorem d_Mod_goes_304 : decode M_Mod_goes.2.1 304 = .ok (.iload_n 1, 1) := by decide +kernel
theorem d_Mod_goes_305 : decode M_Mod_goes.2.1 305 = .ok (.iaload, 1) := by decide +kernel
theorem d_Mod_goes_306 : decode M_Mod_goes.2.1 306 = .ok (.if_icmp .le 14, 3) := by decide +kernel
theorem d_Mod_goes_309 : decode M_Mod_goes.2.1 309 = .ok (.aload_n 0, 1) := by decide +kernel
theorem d_Mod_goes_310 : decode M_Mod_goes.2.1 310 = .ok (.iconst 4, 1) := by decide +kernel
theorem d_Mod_goes_311 : decode M_Mod_goes.2.1 311 = .ok (.aload_n 0, 1) := by decide +kernel
theorem d_Mod_goes_312 : decode M_Mod_goes.2.1 312 = .ok (.getfield 52, 3) := by decide +kernel
theorem d_Mod_goes_315 : decode M_Mod_goes.2.1 315 = .ok (.iload_n 1, 1) := by decide +kernel
theorem d_Mod_goes_316 : decode M_Mod_goes.2.1 316 = .ok (.iaload, 1) := by decide +kernel
theorem d_Mod_goes_317 : decode M_Mod_goes.2.1 317 = .ok (.invokevirtual 181, 3) := by decide +kernel
theorem d_Mod_goes_320 : decode M_Mod_goes.2.1 320 = .ok (.aload_n 0, 1) := by decide +kernel
theorem d_Mod_goes_321 : decode M_Mod_goes.2.1 321 = .ok (.dup, 1) := by decide +kernel
theorem d_Mod_goes_322 : decode M_Mod_goes.2.1 322 = .ok (.getfield 185, 3) := by decide +kernel
theorem d_Mod_goes_325 : decode M_Mod_goes.2.1 325 = .ok (.aload_n 0, 1) := by decide +kernel
theorem d_Mod_goes_326 : decode M_Mod_goes.2.1 326 = .ok (.getfield 188, 3) := by decide +kernel
theorem d_Mod_goes_329 : decode M_Mod_goes.2.1 329 = .ok (.iadd, 1) := by decide +kernel
theorem d_Mod_goes_330 : decode M_Mod_goes.2.1 330 = .ok (.putfield 185, 3) := by decide +kernel
theorem d_Mod_goes_333 : decode M_Mod_goes.2.1 333 = .ok (.return_, 1) := by decide +kernel
theorem d_Mod_slow_0 : decode M_Mod_slow.2.1 0 = .ok (.iload_n 1, 1) := by decide +kernel
theorem d_Mod_slow_1 : decode M_Mod_slow.2.1 1 = .ok (.invokestatic 116, 3) := by decide +kernel
theorem d_Mod_slow_4 : decode M_Mod_slow.2.1 4 = .ok (.ifCond .eq 22, 3) := by decide +kernel
theorem d_Mod_slow_7 : decode M_Mod_slow.2.1 7 = .ok (.iload_n 2, 1) := by decide +kernel
theorem d_Mod_slow_8 : decode M_Mod_slow.2.1 8 = .ok (.invokestatic 116, 3) := by decide +kernel
theorem d_Mod_slow_11 : decode M_Mod_slow.2.1 11 = .ok (.ifCond .eq 15, 3) := by decide +kernel
theorem d_Mod_slow_14 : decode M_Mod_slow.2.1 14 = .ok (.iload_n 3, 1) := by decide +kernel
theorem d_Mod_slow_15 : decode M_Mod_slow.2.1 15 = .ok (.i2l, 1) := by decide +kernel
theorem d_Mod_slow_16 : decode M_Mod_slow.2.1 16 = .ok (.lconst 0, 1) := by decide +kernel
theorem d_Mod_slow_17 : decode M_Mod_slow.2.1 17 = .ok (.ldc2_w 146, 3) := by decide +kernel
theorem d_Mod_slow_20 : decode M_Mod_slow.2.1 20 = .ok (.invokestatic 122, 3) := by decide +kernel
theorem d_Mod_slow_23 : decode M_Mod_slow.2.1 23 = .ok (.ifCond .ne 10, 3) := by decide +kernel
theorem d_Mod_slow_26 : decode M_Mod_slow.2.1 26 = .ok (.aload_n 0, 1) := by decide +kernel
theorem d_Mod_slow_27 : decode M_Mod_slow.2.1 27 = .ok (.bipush (-3), 2) := by decide +kernel
theorem d_Mod_slow_29 : decode M_Mod_slow.2.1 29 = .ok (.invokevirtual 126, 3) := by decide +kernel
theorem d_Mod_slow_32 : decode M_Mod_slow.2.1 32 = .ok (.ireturn, 1) := by decide +kernel
theorem d_Mod_slow_33 : decode M_Mod_slow.2.1 33 = .ok (.aload_n 0, 1) := by decide +kernel
theorem d_Mod_slow_34 : decode M_Mod_slow.2.1 34 = .ok (.getfield 7, 3) := by decide +kernel
theorem d_Mod_slow_37 : decode M_Mod_slow.2.1 37 = .ok (.iload_n 1, 1) := by decide +kernel
theorem d_Mod_slow_38 : decode M_Mod_slow.2.1 38 = .ok (.iload_n 2, 1) := by decide +kernel
theorem d_Mod_slow_39 : decode M_Mod_slow.2.1 39 = .ok (.iload_n 3, 1) := by decide +kernel
theorem d_Mod_slow_40 : decode M_Mod_slow.2.1 40 = .ok (.invokestatic 108, 3) := by decide +kernel
theorem d_Mod_slow_43 : decode M_Mod_slow.2.1 43 = .ok (.iaload, 1) := by decide +kernel
theorem d_Mod_slow_44 : decode M_Mod_slow.2.1 44 = .ok (.istore 5, 2) := by decide +kernel
theorem d_Mod_slow_46 : decode M_Mod_slow.2.1 46 = .ok (.iload 5, 2) := by decide +kernel
theorem d_Mod_slow_48 : decode M_Mod_slow.2.1 48 = .ok (.ifCond .ne 10, 3) := by decide +kernel
theorem d_Mod_slow_51 : decode M_Mod_slow.2.1 51 = .ok (.aload_n 0, 1) := by decide +kernel
theorem d_Mod_slow_52 : decode M_Mod_slow.2.1 52 = .ok (.bipush (-2), 2) := by decide +kernel
theorem d_Mod_slow_54 : decode M_Mod_slow.2.1 54 = .ok (.invokevirtual 126, 3) := by decide +kernel
theorem d_Mod_slow_57 : decode M_Mod_slow.2.1 57 = .ok (.ireturn, 1) := by decide +kernel
theorem d_Mod_slow_58 : decode M_Mod_slow.2.1 58 = .ok (.iload 4, 2) := by decide +kernel
theorem d_Mod_slow_60 : decode M_Mod_slow.2.1 60 = .ok (.i2l, 1) := by decide +kernel
theorem d_Mod_slow_61 : decode M_Mod_slow.2.1 61 = .ok (.lconst 1, 1) := by decide +kernel
theorem d_Mod_slow_62 : decode M_Mod_slow.2.1 62 = .ok (.ldc2_w 140, 3) := by decide +kernel
theorem d_Mod_slow_65 : decode M_Mod_slow.2.1 65 = .ok (.invokestatic 122, 3) := by decide +kernel
theorem d_Mod_slow_68 : decode M_Mod_slow.2.1 68 = .ok (.ifCond .eq 21, 3) := by decide +kernel
theorem d_Mod_slow_71 : decode M_Mod_slow.2.1 71 = .ok (.aload_n 0, 1) := by decide +kernel
theorem d_Mod_slow_72 : decode M_Mod_slow.2.1 72 = .ok (.iload_n 1, 1) := by decide +kernel
theorem d_Mod_slow_73 : decode M_Mod_slow.2.1 73 = .ok (.iload_n 2, 1) := by decide +kernel
theorem d_Mod_slow_74 : decode M_Mod_slow.2.1 74 = .ok (.iload_n 3, 1) := by decide +kernel
theorem d_Mod_slow_75 : decode M_Mod_slow.2.1 75 = .ok (.iload_n 3, 1) := by decide +kernel
theorem d_Mod_slow_76 : decode M_Mod_slow.2.1 76 = .ok (.iload 4, 2) := by decide +kernel
theorem d_Mod_slow_78 : decode M_Mod_slow.2.1 78 = .ok (.invokevirtual 142, 3) := by decide +kernel
theorem d_Mod_slow_81 : decode M_Mod_slow.2.1 81 = .ok (.ifCond .eq 8, 3) := by decide +kernel
theorem d_Mod_slow_84 : decode M_Mod_slow.2.1 84 = .ok (.iload 5, 2) := by decide +kernel
theorem d_Mod_slow_86 : decode M_Mod_slow.2.1 86 = .ok (.goto 9, 3) := by decide +kernel
theorem d_Mod_slow_89 : decode M_Mod_slow.2.1 89 = .ok (.aload_n 0, 1) := by decide +kernel
theorem d_Mod_slow_90 : decode M_Mod_slow.2.1 90 = .ok (.bipush (-7), 2) := by decide +kernel
theorem d_Mod_slow_92 : decode M_Mod_slow.2.1 92 = .ok (.invokevirtual 126, 3) := by decide +kernel
theorem d_Mod_slow_95 : decode M_Mod_slow.2.1 95 = .ok (.ireturn, 1) := by decide +kernel
theorem d_Mod_stop_0 : decode M_Mod_stop.2.1 0 = .ok (.iload_n 1, 1) := by decide +kernel
theorem d_Mod_stop_1 : decode M_Mod_stop.2.1 1 = .ok (.ifCond .lt 12, 3) := by decide +kernel
theorem d_Mod_stop_4 : decode M_Mod_stop.2.1 4 = .ok (.iload_n 1, 1) := by decide +kernel
theorem d_Mod_stop_5 : decode M_Mod_stop.2.1 5 = .ok (.bipush 10, 2) := by decide +kernel
theorem d_Mod_stop_7 : decode M_Mod_stop.2.1 7 = .ok (.irem, 1) := by decide +kernel
theorem d_Mod_stop_8 : decode M_Mod_stop.2.1 8 = .ok (.bipush 8, 2) := by decide +kernel
theorem d_Mod_stop_10 : decode M_Mod_stop.2.1 10 = .ok (.if_icmp .lt 10, 3) := by decide +kernel
theorem d_Mod_stop_13 : decode M_Mod_stop.2.1 13 = .ok (.aload_n 0, 1) := by decide +kernel
theorem d_Mod_stop_14 : decode M_Mod_stop.2.1 14 = .ok (.bipush (-3), 2) := by decide +kernel
theorem d_Mod_stop_16 : decode M_Mod_stop.2.1 16 = .ok (.invokevirtual 126, 3) := by decide +kernel
theorem d_Mod_stop_19 : decode M_Mod_stop.2.1 19 = .ok (.ireturn, 1) := by decide +kernel
theorem d_Mod_stop_20 : decode M_Mod_stop.2.1 20 = .ok (.iload_n 1, 1) := by decide +kernel
theorem d_Mod_stop_21 : decode M_Mod_stop.2.1 21 = .ok (.bipush 10, 2) := by decide +kernel
theorem d_Mod_stop_23 : decode M_Mod_stop.2.1 23 = .ok (.idiv, 1) := by decide +kernel
theorem d_Mod_stop_24 : decode M_Mod_stop.2.1 24 = .ok (.istore 5, 2) := by decide +kernel
theorem d_Mod_stop_26 : decode M_Mod_stop.2.1 26 = .ok (.iload 5, 2) := by decide +kernel
theorem d_Mod_stop_28 : decode M_Mod_stop.2.1 28 = .ok (.iconst 2, 1) := by decide +kernel
theorem d_Mod_stop_29 : decode M_Mod_stop.2.1 29 = .ok (.if_icmp .ne 19, 3) := by decide +kernel
theorem d_Mod_stop_32 : decode M_Mod_stop.2.1 32 = .ok (.aload_n 0, 1) := by decide +kernel
theorem d_Mod_stop_33 : decode M_Mod_stop.2.1 33 = .ok (.iload 4, 2) := by decide +kernel
theorem d_Mod_stop_35 : decode M_Mod_stop.2.1 35 = .ok (.invokevirtual 148, 3) := by decide +kernel
theorem d_Mod_stop_38 : decode M_Mod_stop.2.1 38 = .ok (.ifCond .ne 10, 3) := by decide +kernel
theorem d_Mod_stop_41 : decode M_Mod_stop.2.1 41 = .ok (.aload_n 0, 1) := by decide +kernel
theorem d_Mod_stop_42 : decode M_Mod_stop.2.1 42 = .ok (.bipush (-3), 2) := by decide +kernel
theorem d_Mod_stop_44 : decode M_Mod_stop.2.1 44 = .ok (.invokevirtual 126, 3) := by decide +kernel
theorem d_Mod_stop_47 : decode M_Mod_stop.2.1 47 = .ok (.ireturn, 1) := by decide +kernel
theorem d_Mod_stop_48 : decode M_Mod_stop.2.1 48 = .ok (.iload 5, 2) := by decide +kernel
theorem d_Mod_stop_50 : decode M_Mod_stop.2.1 50 = .ok (.iconst 2, 1) := by decide +kernel
theorem d_Mod_stop_51 : decode M_Mod_stop.2.1 51 = .ok (.if_icmp .ne 21, 3) := by decide +kernel
theorem d_Mod_stop_54 : decode M_Mod_stop.2.1 54 = .ok (.aload_n 0, 1) := by decide +kernel
theorem d_Mod_stop_55 : decode M_Mod_stop.2.1 55 = .ok (.getfield 13, 3) := by decide +kernel
theorem d_Mod_stop_58 : decode M_Mod_stop.2.1 58 = .ok (.iload 4, 2) := by decide +kernel
theorem d_Mod_stop_60 : decode M_Mod_stop.2.1 60 = .ok (.iaload, 1) := by decide +kernel
theorem d_Mod_stop_61 : decode M_Mod_stop.2.1 61 = .ok (.iconst 1, 1) := by decide +kernel
theorem d_Mod_stop_62 : decode M_Mod_stop.2.1 62 = .ok (.if_icmp .eq 10, 3) := by decide +kernel
theorem d_Mod_stop_65 : decode M_Mod_stop.2.1 65 = .ok (.aload_n 0, 1) := by decide +kernel
theorem d_Mod_stop_66 : decode M_Mod_stop.2.1 66 = .ok (.bipush (-5), 2) := by decide +kernel
theorem d_Mod_stop_68 : decode M_Mod_stop.2.1 68 = .ok (.invokevirtual 126, 3) := by decide +kernel
theorem d_Mod_stop_71 : decode M_Mod_stop.2.1 71 = .ok (.ireturn, 1) := by decide +kernel
theorem d_Mod_stop_72 : decode M_Mod_stop.2.1 72 = .ok (.iload 5, 2) := by decide +kernel
theorem d_Mod_stop_74 : decode M_Mod_stop.2.1 74 = .ok (.i2l, 1) := by decide +kernel
theorem d_Mod_stop_75 : decode M_Mod_stop.2.1 75 = .ok (.lconst 0, 1) := by decide +kernel
theorem d_Mod_stop_76 : decode M_Mod_stop.2.1 76 = .ok (.ldc2_w 151, 3) := by decide +kernel
theorem d_Mod_stop_79 : decode M_Mod_stop.2.1 79 = .ok (.invokestatic 122, 3) := by decide +kernel
theorem d_Mod_stop_82 : decode M_Mod_stop.2.1 82 = .ok (.ifCond .eq 38, 3) := by decide +kernel
theorem d_Mod_stop_85 : decode M_Mod_stop.2.1 85 = .ok (.iload_n 2, 1) := by decide +kernel
theorem d_Mod_stop_86 : decode M_Mod_stop.2.1 86 = .ok (.invokestatic 153, 3) := by decide +kernel
theorem d_Mod_stop_89 : decode M_Mod_stop.2.1 89 = .ok (.ifCond .eq 31, 3) := by decide +kernel
theorem d_Mod_stop_92 : decode M_Mod_stop.2.1 92 = .ok (.iload_n 3, 1) := by decide +kernel
theorem d_Mod_stop_93 : decode M_Mod_stop.2.1 93 = .ok (.ifCond .lt 27, 3) := by decide +kernel
theorem d_Mod_stop_96 : decode M_Mod_stop.2.1 96 = .ok (.iload_n 3, 1) := by decide +kernel
theorem d_Mod_stop_97 : decode M_Mod_stop.2.1 97 = .ok (.bipush 100, 2) := by decide +kernel
theorem d_Mod_stop_99 : decode M_Mod_stop.2.1 99 = .ok (.idiv, 1) := by decide +kernel
theorem d_Mod_stop_100 : decode M_Mod_stop.2.1 100 = .ok (.bipush 60, 2) := by decide +kernel
theorem d_Mod_stop_102 : decode M_Mod_stop.2.1 102 = .ok (.if_icmp .gt 18, 3) := by decide +kernel
theorem d_Mod_stop_105 : decode M_Mod_stop.2.1 105 = .ok (.iload 5, 2) := by decide +kernel
theorem d_Mod_stop_107 : decode M_Mod_stop.2.1 107 = .ok (.iconst 2, 1) := by decide +kernel
theorem d_Mod_stop_108 : decode M_Mod_stop.2.1 108 = .ok (.if_icmp .eq 19, 3) := by decide +kernel
theorem d_Mod_stop_111 : decode M_Mod_stop.2.1 111 = .ok (.iload_n 3, 1) := by decide +kernel
theorem d_Mod_stop_112 : decode M_Mod_stop.2.1 112 = .ok (.bipush 100, 2) := by decide +kernel
theorem d_Mod_stop_114 : decode M_Mod_stop.2.1 114 = .ok (.irem, 1) := by decide +kernel
theorem d_Mod_stop_115 : decode M_Mod_stop.2.1 115 = .ok (.bipush 50, 2) := by decide +kernel
theorem d_Mod_stop_117 : decode M_Mod_stop.2.1 117 = .ok (.if_icmp .le 10, 3) := by decide +kernel
theorem d_Mod_stop_120 : decode M_Mod_stop.2.1 120 = .ok (.aload_n 0, 1) := by decide +kernel
theorem d_Mod_stop_121 : decode M_Mod_stop.2.1 121 = .ok (.bipush (-7), 2) := by decide +kernel
theorem d_Mod_stop_123 : decode M_Mod_stop.2.1 123 = .ok (.invokevirtual 126, 3) := by decide +kernel
theorem d_Mod_stop_126 : decode M_Mod_stop.2.1 126 = .ok (.ireturn, 1) := by decide +kernel
theorem d_Mod_stop_127 : decode M_Mod_stop.2.1 127 = .ok (.iload 5, 2) := by decide +kernel
theorem d_Mod_stop_129 : decode M_Mod_stop.2.1 129 = .ok (.iconst 2, 1) := by decide +kernel
theorem d_Mod_stop_130 : decode M_Mod_stop.2.1 130 = .ok (.if_icmp .ne 29, 3) := by decide +kernel
theorem d_Mod_stop_133 : decode M_Mod_stop.2.1 133 = .ok (.aload_n 0, 1) := by decide +kernel
theorem d_Mod_stop_134 : decode M_Mod_stop.2.1 134 = .ok (.getfield 31, 3) := by decide +kernel
theorem d_Mod_stop_137 : decode M_Mod_stop.2.1 137 = .ok (.iload 4, 2) := by decide +kernel
theorem d_Mod_stop_139 : decode M_Mod_stop.2.1 139 = .ok (.iaload, 1) := by decide +kernel
theorem d_Mod_stop_140 : decode M_Mod_stop.2.1 140 = .ok (.ifCond .ge 12, 3) := by decide +kernel
theorem d_Mod_stop_143 : decode M_Mod_stop.2.1 143 = .ok (.aload_n 0, 1) := by decide +kernel
theorem d_Mod_stop_144 : decode M_Mod_stop.2.1 144 = .ok (.iload 4, 2) := by decide +kernel
theorem d_Mod_stop_146 : decode M_Mod_stop.2.1 146 = .ok (.invokevirtual 156, 3) := by decide +kernel
theorem d_Mod_stop_149 : decode M_Mod_stop.2.1 149 = .ok (.ifCond .lt 10, 3) := by decide +kernel
theorem d_Mod_stop_152 : decode M_Mod_stop.2.1 152 = .ok (.aload_n 0, 1) := by decide +kernel
theorem d_Mod_stop_153 : decode M_Mod_stop.2.1 153 = .ok (.bipush (-7), 2) := by decide +kernel
theorem d_Mod_stop_155 : decode M_Mod_stop.2.1 155 = .ok (.invokevirtual 126, 3) := by decide +kernel
theorem d_Mod_stop_158 : decode M_Mod_stop.2.1 158 = .ok (.ireturn, 1) := by decide +kernel
theorem d_Mod_stop_159 : decode M_Mod_stop.2.1 159 = .ok (.aload_n 0, 1) := by decide +kernel
theorem d_Mod_stop_160 : decode M_Mod_stop.2.1 160 = .ok (.getfield 102, 3) := by decide +kernel
theorem d_Mod_stop_163 : decode M_Mod_stop.2.1 163 = .ok (.bipush 12, 2) := by decide +kernel
theorem d_Mod_stop_165 : decode M_Mod_stop.2.1 165 = .ok (.if_icmp .ne 10, 3) := by decide +kernel
theorem d_Mod_stop_168 : decode M_Mod_stop.2.1 168 = .ok (.aload_n 0, 1) := by decide +kernel
theorem d_Mod_stop_169 : decode M_Mod_stop.2.1 169 = .ok (.bipush (-8), 2) := by decide +kernel
theorem d_Mod_stop_171 : decode M_Mod_stop.2.1 171 = .ok (.invokevirtual 126, 3) := by decide +kernel
theorem d_Mod_stop_174 : decode M_Mod_stop.2.1 174 = .ok (.ireturn, 1) := by decide +kernel
theorem d_Mod_stop_175 : decode M_Mod_stop.2.1 175 = .ok (.aload_n 0, 1) := by decide +kernel
theorem d_Mod_stop_176 : decode M_Mod_stop.2.1 176 = .ok (.getfield 102, 3) := by decide +kernel
theorem d_Mod_stop_179 : decode M_Mod_stop.2.1 179 = .ok (.istore 6, 2) := by decide +kernel
theorem d_Mod_stop_181 : decode M_Mod_stop.2.1 181 = .ok (.aload_n 0, 1) := by decide +kernel
theorem d_Mod_stop_182 : decode M_Mod_stop.2.1 182 = .ok (.dup, 1) := by decide +kernel
theorem d_Mod_stop_183 : decode M_Mod_stop.2.1 183 = .ok (.getfield 102, 3) := by decide +kernel
theorem d_Mod_stop_186 : decode M_Mod_stop.2.1 186 = .ok (.iconst 1, 1) := by decide +kernel
theorem d_Mod_stop_187 : decode M_Mod_stop.2.1 187 = .ok (.iadd, 1) := by decide +kernel
theorem d_Mod_stop_188 : decode M_Mod_stop.2.1 188 = .ok (.putfield 102, 3) := by decide +kernel
theorem d_Mod_stop_191 : decode M_Mod_stop.2.1 191 = .ok (.aload_n 0, 1) := by decide +kernel
theorem d_Mod_stop_192 : decode M_Mod_stop.2.1 192 = .ok (.getfield 13, 3) := by decide +kernel
theorem d_Mod_stop_195 : decode M_Mod_stop.2.1 195 = .ok (.iload 6, 2) := by decide +kernel
theorem d_Mod_stop_197 : decode M_Mod_stop.2.1 197 = .ok (.iload 5, 2) := by decide +kernel
theorem d_Mod_stop_199 : decode M_Mod_stop.2.1 199 = .ok (.iastore, 1) := by decide +kernel
theorem d_Mod_stop_200 : decode M_Mod_stop.2.1 200 = .ok (.aload_n 0, 1) := by decide +kernel
theorem d_Mod_stop_201 : decode M_Mod_stop.2.1 201 = .ok (.getfield 16, 3) := by decide +kernel
theorem d_Mod_stop_204 : decode M_Mod_stop.2.1 204 = .ok (.iload 6, 2) := by decide +kernel
theorem d_Mod_stop_206 : decode M_Mod_stop.2.1 206 = .ok (.iload_n 1, 1) := by decide +kernel
theorem d_Mod_stop_207 : decode M_Mod_stop.2.1 207 = .ok (.bipush 10, 2) := by decide +kernel
theorem d_Mod_stop_209 : decode M_Mod_stop.2.1 209 = .ok (.irem, 1) := by decide +kernel
theorem d_Mod_stop_210 : decode M_Mod_stop.2.1 210 = .ok (.iastore, 1) := by decide +kernel
theorem d_Mod_stop_211 : decode M_Mod_stop.2.1 211 = .ok (.aload_n 0, 1) := by decide +kernel
theorem d_Mod_stop_212 : decode M_Mod_stop.2.1 212 = .ok (.getfield 19, 3) := by decide +kernel
theorem d_Mod_stop_215 : decode M_Mod_stop.2.1 215 = .ok (.iload 6, 2) := by decide +kernel
theorem d_Mod_stop_217 : decode M_Mod_stop.2.1 217 = .ok (.iload_n 2, 1) := by decide +kernel
theorem d_Mod_stop_218 : decode M_Mod_stop.2.1 218 = .ok (.sipush 1000, 3) := by decide +kernel
theorem d_Mod_stop_221 : decode M_Mod_stop.2.1 221 = .ok (.idiv, 1) := by decide +kernel
theorem d_Mod_stop_222 : decode M_Mod_stop.2.1 222 = .ok (.iastore, 1) := by decide +kernel
theorem d_Mod_stop_223 : decode M_Mod_stop.2.1 223 = .ok (.aload_n 0, 1) := by decide +kernel
theorem d_Mod_stop_224 : decode M_Mod_stop.2.1 224 = .ok (.getfield 22, 3) := by decide +kernel
theorem d_Mod_stop_227 : decode M_Mod_stop.2.1 227 = .ok (.iload 6, 2) := by decide +kernel
theorem d_Mod_stop_229 : decode M_Mod_stop.2.1 229 = .ok (.iload_n 2, 1) := by decide +kernel
theorem d_Mod_stop_230 : decode M_Mod_stop.2.1 230 = .ok (.sipush 1000, 3) := by decide +kernel
theorem d_Mod_stop_233 : decode M_Mod_stop.2.1 233 = .ok (.irem, 1) := by decide +kernel
theorem d_Mod_stop_234 : decode M_Mod_stop.2.1 234 = .ok (.iastore, 1) := by decide +kernel
theorem d_Mod_stop_235 : decode M_Mod_stop.2.1 235 = .ok (.aload_n 0, 1) := by decide +kernel
theorem d_Mod_stop_236 : decode M_Mod_stop.2.1 236 = .ok (.getfield 25, 3) := by decide +kernel
theorem d_Mod_stop_239 : decode M_Mod_stop.2.1 239 = .ok (.iload 6, 2) := by decide +kernel
theorem d_Mod_stop_241 : decode M_Mod_stop.2.1 241 = .ok (.iload_n 3, 1) := by decide +kernel
theorem d_Mod_stop_242 : decode M_Mod_stop.2.1 242 = .ok (.bipush 100, 2) := by decide +kernel
theorem d_Mod_stop_244 : decode M_Mod_stop.2.1 244 = .ok (.idiv, 1) := by decide +kernel
theorem d_Mod_stop_245 : decode M_Mod_stop.2.1 245 = .ok (.iastore, 1) := by decide +kernel
theorem d_Mod_stop_246 : decode M_Mod_stop.2.1 246 = .ok (.aload_n 0, 1) := by decide +kernel
theorem d_Mod_stop_247 : decode M_Mod_stop.2.1 247 = .ok (.getfield 28, 3) := by decide +kernel
theorem d_Mod_stop_250 : decode M_Mod_stop.2.1 250 = .ok (.iload 6, 2) := by decide +kernel
theorem d_Mod_stop_252 : decode M_Mod_stop.2.1 252 = .ok (.iload 5, 2) := by decide +kernel
theorem d_Mod_stop_254 : decode M_Mod_stop.2.1 254 = .ok (.iconst 2, 1) := by decide +kernel
theorem d_Mod_stop_255 : decode M_Mod_stop.2.1 255 = .ok (.if_icmp .ne 13, 3) := by decide +kernel
theorem d_Mod_stop_258 : decode M_Mod_stop.2.1 258 = .ok (.aload_n 0, 1) := by decide +kernel
theorem d_Mod_stop_259 : decode M_Mod_stop.2.1 259 = .ok (.getfield 28, 3) := by decide +kernel
theorem d_Mod_stop_262 : decode M_Mod_stop.2.1 262 = .ok (.iload 4, 2) := by decide +kernel
theorem d_Mod_stop_264 : decode M_Mod_stop.2.1 264 = .ok (.iaload, 1) := by decide +kernel
theorem d_Mod_stop_265 : decode M_Mod_stop.2.1 265 = .ok (.goto 7, 3) := by decide +kernel
theorem d_Mod_stop_268 : decode M_Mod_stop.2.1 268 = .ok (.iload_n 3, 1) := by decide +kernel
theorem d_Mod_stop_269 : decode M_Mod_stop.2.1 269 = .ok (.bipush 100, 2) := by decide +kernel
theorem d_Mod_stop_271 : decode M_Mod_stop.2.1 271 = .ok (.irem, 1) := by decide +kernel
theorem d_Mod_stop_272 : decode M_Mod_stop.2.1 272 = .ok (.iastore, 1) := by decide +kernel
theorem d_Mod_stop_273 : decode M_Mod_stop.2.1 273 = .ok (.aload_n 0, 1) := by decide +kernel
theorem d_Mod_stop_274 : decode M_Mod_stop.2.1 274 = .ok (.getfield 31, 3) := by decide +kernel
theorem d_Mod_stop_277 : decode M_Mod_stop.2.1 277 = .ok (.iload 6, 2) := by decide +kernel
theorem d_Mod_stop_279 : decode M_Mod_stop.2.1 279 = .ok (.iload 5, 2) := by decide +kernel
theorem d_Mod_stop_281 : decode M_Mod_stop.2.1 281 = .ok (.iconst 2, 1) := by decide +kernel
theorem d_Mod_stop_282 : decode M_Mod_stop.2.1 282 = .ok (.if_icmp .ne 8, 3) := by decide +kernel
theorem d_Mod_stop_285 : decode M_Mod_stop.2.1 285 = .ok (.iload 4, 2) := by decide +kernel
theorem d_Mod_stop_287 : decode M_Mod_stop.2.1 287 = .ok (.goto 4, 3) := by decide +kernel
theorem d_Mod_stop_290 : decode M_Mod_stop.2.1 290 = .ok (.iconst (-1), 1) := by decide +kernel
theorem d_Mod_stop_291 : decode M_Mod_stop.2.1 291 = .ok (.iastore, 1) := by decide +kernel
theorem d_Mod_stop_292 : decode M_Mod_stop.2.1 292 = .ok (.iload 5, 2) := by decide +kernel
theorem d_Mod_stop_294 : decode M_Mod_stop.2.1 294 = .ok (.iconst 2, 1) := by decide +kernel
theorem d_Mod_stop_295 : decode M_Mod_stop.2.1 295 = .ok (.if_icmp .ne 12, 3) := by decide +kernel
theorem d_Mod_stop_298 : decode M_Mod_stop.2.1 298 = .ok (.aload_n 0, 1) := by decide +kernel
theorem d_Mod_stop_299 : decode M_Mod_stop.2.1 299 = .ok (.getfield 31, 3) := by decide +kernel
theorem d_Mod_stop_302 : decode M_Mod_stop.2.1 302 = .ok (.iload 4, 2) := by decide +kernel
theorem d_Mod_stop_304 : decode M_Mod_stop.2.1 304 = .ok (.iload 6, 2) := by decide +kernel
theorem d_Mod_stop_306 : decode M_Mod_stop.2.1 306 = .ok (.iastore, 1) := by decide +kernel
theorem d_Mod_stop_307 : decode M_Mod_stop.2.1 307 = .ok (.aload_n 0, 1) := by decide +kernel
theorem d_Mod_stop_308 : decode M_Mod_stop.2.1 308 = .ok (.getfield 34, 3) := by decide +kernel
theorem d_Mod_stop_311 : decode M_Mod_stop.2.1 311 = .ok (.iload 6, 2) := by decide +kernel
theorem d_Mod_stop_313 : decode M_Mod_stop.2.1 313 = .ok (.iconst 1, 1) := by decide +kernel
theorem d_Mod_stop_314 : decode M_Mod_stop.2.1 314 = .ok (.iastore, 1) := by decide +kernel
theorem d_Mod_stop_315 : decode M_Mod_stop.2.1 315 = .ok (.aload_n 0, 1) := by decide +kernel
theorem d_Mod_stop_316 : decode M_Mod_stop.2.1 316 = .ok (.iconst 0, 1) := by decide +kernel
theorem d_Mod_stop_317 : decode M_Mod_stop.2.1 317 = .ok (.putfield 137, 3) := by decide +kernel
theorem d_Mod_stop_320 : decode M_Mod_stop.2.1 320 = .ok (.iload 6, 2) := by decide +kernel
theorem d_Mod_stop_322 : decode M_Mod_stop.2.1 322 = .ok (.ireturn, 1) := by decide +kernel
theorem d_Mod_isStop_0 : decode M_Mod_isStop.2.1 0 = .ok (.iload_n 1, 1) := by decide +kernel
theorem d_Mod_isStop_1 : decode M_Mod_isStop.2.1 1 = .ok (.ifCond .lt 15, 3) := by decide +kernel
theorem d_Mod_isStop_4 : decode M_Mod_isStop.2.1 4 = .ok (.iload_n 1, 1) := by decide +kernel
theorem d_Mod_isStop_5 : decode M_Mod_isStop.2.1 5 = .ok (.aload_n 0, 1) := by decide +kernel
theorem d_Mod_isStop_6 : decode M_Mod_isStop.2.1 6 = .ok (.getfield 102, 3) := by decide +kernel
theorem d_Mod_isStop_9 : decode M_Mod_isStop.2.1 9 = .ok (.if_icmp .ge 7, 3) := by decide +kernel
theorem d_Mod_isStop_12 : decode M_Mod_isStop.2.1 12 = .ok (.iconst 1, 1) := by decide +kernel
theorem d_Mod_isStop_13 : decode M_Mod_isStop.2.1 13 = .ok (.goto 4, 3) := by decide +kernel
theorem d_Mod_isStop_16 : decode M_Mod_isStop.2.1 16 = .ok (.iconst 0, 1) := by decide +kernel
theorem d_Mod_isStop_17 : decode M_Mod_isStop.2.1 17 = .ok (.ireturn, 1) := by decide +kernel
theorem d_Mod_isSpan_0 : decode M_Mod_isSpan.2.1 0 = .ok (.iload_n 0, 1) := by decide +kernel
theorem d_Mod_isSpan_1 : decode M_Mod_isSpan.2.1 1 = .ok (.ifCond .lt 42, 3) := by decide +kernel
theorem d_Mod_isSpan_4 : decode M_Mod_isSpan.2.1 4 = .ok (.iload_n 0, 1) := by decide +kernel
theorem d_Mod_isSpan_5 : decode M_Mod_isSpan.2.1 5 = .ok (.sipush 1000, 3) := by decide +kernel
theorem d_Mod_isSpan_8 : decode M_Mod_isSpan.2.1 8 = .ok (.idiv, 1) := by decide +kernel
theorem d_Mod_isSpan_9 : decode M_Mod_isSpan.2.1 9 = .ok (.sipush 480, 3) := by decide +kernel
theorem d_Mod_isSpan_12 : decode M_Mod_isSpan.2.1 12 = .ok (.if_icmp .ge 31, 3) := by decide +kernel
theorem d_Mod_isSpan_15 : decode M_Mod_isSpan.2.1 15 = .ok (.iload_n 0, 1) := by decide +kernel
theorem d_Mod_isSpan_16 : decode M_Mod_isSpan.2.1 16 = .ok (.sipush 1000, 3) := by decide +kernel
theorem d_Mod_isSpan_19 : decode M_Mod_isSpan.2.1 19 = .ok (.irem, 1) := by decide +kernel
theorem d_Mod_isSpan_20 : decode M_Mod_isSpan.2.1 20 = .ok (.sipush 480, 3) := by decide +kernel
theorem d_Mod_isSpan_23 : decode M_Mod_isSpan.2.1 23 = .ok (.if_icmp .ge 20, 3) := by decide +kernel
theorem d_Mod_isSpan_26 : decode M_Mod_isSpan.2.1 26 = .ok (.iload_n 0, 1) := by decide +kernel
theorem d_Mod_isSpan_27 : decode M_Mod_isSpan.2.1 27 = .ok (.sipush 1000, 3) := by decide +kernel
theorem d_Mod_isSpan_30 : decode M_Mod_isSpan.2.1 30 = .ok (.idiv, 1) := by decide +kernel
theorem d_Mod_isSpan_31 : decode M_Mod_isSpan.2.1 31 = .ok (.iload_n 0, 1) := by decide +kernel
theorem d_Mod_isSpan_32 : decode M_Mod_isSpan.2.1 32 = .ok (.sipush 1000, 3) := by decide +kernel
theorem d_Mod_isSpan_35 : decode M_Mod_isSpan.2.1 35 = .ok (.irem, 1) := by decide +kernel
theorem d_Mod_isSpan_36 : decode M_Mod_isSpan.2.1 36 = .ok (.if_icmp .gt 7, 3) := by decide +kernel
theorem d_Mod_isSpan_39 : decode M_Mod_isSpan.2.1 39 = .ok (.iconst 1, 1) := by decide +kernel
theorem d_Mod_isSpan_40 : decode M_Mod_isSpan.2.1 40 = .ok (.goto 4, 3) := by decide +kernel
theorem d_Mod_isSpan_43 : decode M_Mod_isSpan.2.1 43 = .ok (.iconst 0, 1) := by decide +kernel
theorem d_Mod_isSpan_44 : decode M_Mod_isSpan.2.1 44 = .ok (.ireturn, 1) := by decide +kernel
theorem d_Mod_vanOf_0 : decode M_Mod_vanOf.2.1 0 = .ok (.iconst (-1), 1) := by decide +kernel
theorem d_Mod_vanOf_1 : decode M_Mod_vanOf.2.1 1 = .ok (.istore_n 2, 1) := by decide +kernel
theorem d_Mod_vanOf_2 : decode M_Mod_vanOf.2.1 2 = .ok (.iconst 0, 1) := by decide +kernel
theorem d_Mod_vanOf_3 : decode M_Mod_vanOf.2.1 3 = .ok (.istore_n 3, 1) := by decide +kernel
theorem d_Mod_vanOf_4 : decode M_Mod_vanOf.2.1 4 = .ok (.iload_n 3, 1) := by decide +kernel
theorem d_Mod_vanOf_5 : decode M_Mod_vanOf.2.1 5 = .ok (.aload_n 0, 1) := by decide +kernel
theorem d_Mod_vanOf_6 : decode M_Mod_vanOf.2.1 6 = .ok (.getfield 105, 3) := by decide +kernel
theorem d_Mod_vanOf_9 : decode M_Mod_vanOf.2.1 9 = .ok (.if_icmp .ge 51, 3) := by decide +kernel
theorem d_Mod_vanOf_12 : decode M_Mod_vanOf.2.1 12 = .ok (.iconst 0, 1) := by decide +kernel
theorem d_Mod_vanOf_13 : decode M_Mod_vanOf.2.1 13 = .ok (.istore 4, 2) := by decide +kernel
theorem d_Mod_vanOf_15 : decode M_Mod_vanOf.2.1 15 = .ok (.iload 4, 2) := by decide +kernel
theorem d_Mod_vanOf_17 : decode M_Mod_vanOf.2.1 17 = .ok (.aload_n 0, 1) := by decide +kernel
theorem d_Mod_vanOf_18 : decode M_Mod_vanOf.2.1 18 = .ok (.getfield 52, 3) := by decide +kernel
theorem d_Mod_vanOf_21 : decode M_Mod_vanOf.2.1 21 = .ok (.iload_n 3, 1) := by decide +kernel
theorem d_Mod_vanOf_22 : decode M_Mod_vanOf.2.1 22 = .ok (.iaload, 1) := by decide +kernel
theorem d_Mod_vanOf_23 : decode M_Mod_vanOf.2.1 23 = .ok (.if_icmp .ge 31, 3) := by decide +kernel
theorem d_Mod_vanOf_26 : decode M_Mod_vanOf.2.1 26 = .ok (.aload_n 0, 1) := by decide +kernel
theorem d_Mod_vanOf_27 : decode M_Mod_vanOf.2.1 27 = .ok (.getfield 49, 3) := by decide +kernel
theorem d_Mod_vanOf_30 : decode M_Mod_vanOf.2.1 30 = .ok (.bipush 12, 2) := by decide +kernel
theorem d_Mod_vanOf_32 : decode M_Mod_vanOf.2.1 32 = .ok (.iload_n 3, 1) := by decide +kernel
theorem d_Mod_vanOf_33 : decode M_Mod_vanOf.2.1 33 = .ok (.imul, 1) := by decide +kernel
theorem d_Mod_vanOf_34 : decode M_Mod_vanOf.2.1 34 = .ok (.iload 4, 2) := by decide +kernel
theorem d_Mod_vanOf_36 : decode M_Mod_vanOf.2.1 36 = .ok (.iadd, 1) := by decide +kernel
theorem d_Mod_vanOf_37 : decode M_Mod_vanOf.2.1 37 = .ok (.iaload, 1) := by decide +kernel
theorem d_Mod_vanOf_38 : decode M_Mod_vanOf.2.1 38 = .ok (.iload_n 1, 1) := by decide +kernel
theorem d_Mod_vanOf_39 : decode M_Mod_vanOf.2.1 39 = .ok (.if_icmp .ne 7, 3) := by decide +kernel
theorem d_Mod_vanOf_42 : decode M_Mod_vanOf.2.1 42 = .ok (.iload_n 3, 1) := by decide +kernel
theorem d_Mod_vanOf_43 : decode M_Mod_vanOf.2.1 43 = .ok (.goto 4, 3) := by decide +kernel
theorem d_Mod_vanOf_46 : decode M_Mod_vanOf.2.1 46 = .ok (.iload_n 2, 1) := by decide +kernel
theorem d_Mod_vanOf_47 : decode M_Mod_vanOf.2.1 47 = .ok (.istore_n 2, 1) := by decide +kernel
theorem d_Mod_vanOf_48 : decode M_Mod_vanOf.2.1 48 = .ok (.iinc 4 1, 3) := by decide +kernel
theorem d_Mod_vanOf_51 : decode M_Mod_vanOf.2.1 51 = .ok (.goto (-36), 3) := by decide +kernel
theorem d_Mod_vanOf_54 : decode M_Mod_vanOf.2.1 54 = .ok (.iinc 3 1, 3) := by decide +kernel
theorem d_Mod_vanOf_57 : decode M_Mod_vanOf.2.1 57 = .ok (.goto (-53), 3) := by decide +kernel
theorem d_Mod_vanOf_60 : decode M_Mod_vanOf.2.1 60 = .ok (.iload_n 2, 1) := by decide +kernel
theorem d_Mod_vanOf_61 : decode M_Mod_vanOf.2.1 61 = .ok (.ireturn, 1) := by decide +kernel
theorem d_Mod_span_0 : decode M_Mod_span.2.1 0 = .ok (.aload_n 0, 1) := by decide +kernel
theorem d_Mod_span_1 : decode M_Mod_span.2.1 1 = .ok (.iload_n 1, 1) := by decide +kernel
theorem d_Mod_span_2 : decode M_Mod_span.2.1 2 = .ok (.invokevirtual 148, 3) := by decide +kernel
theorem d_Mod_span_5 : decode M_Mod_span.2.1 5 = .ok (.ifCond .ne 10, 3) := by decide +kernel
theorem d_Mod_span_8 : decode M_Mod_span.2.1 8 = .ok (.aload_n 0, 1) := by decide +kernel
theorem d_Mod_span_9 : decode M_Mod_span.2.1 9 = .ok (.bipush (-3), 2) := by decide +kernel
theorem d_Mod_span_11 : decode M_Mod_span.2.1 11 = .ok (.invokevirtual 126, 3) := by decide +kernel
theorem d_Mod_span_14 : decode M_Mod_span.2.1 14 = .ok (.ireturn, 1) := by decide +kernel
theorem d_Mod_span_15 : decode M_Mod_span.2.1 15 = .ok (.iload_n 2, 1) := by decide +kernel
theorem d_Mod_span_16 : decode M_Mod_span.2.1 16 = .ok (.invokestatic 153, 3) := by decide +kernel
theorem d_Mod_span_19 : decode M_Mod_span.2.1 19 = .ok (.ifCond .ne 10, 3) := by decide +kernel
theorem d_Mod_span_22 : decode M_Mod_span.2.1 22 = .ok (.aload_n 0, 1) := by decide +kernel
theorem d_Mod_span_23 : decode M_Mod_span.2.1 23 = .ok (.bipush (-7), 2) := by decide +kernel
theorem d_Mod_span_25 : decode M_Mod_span.2.1 25 = .ok (.invokevirtual 126, 3) := by decide +kernel
theorem d_Mod_span_28 : decode M_Mod_span.2.1 28 = .ok (.ireturn, 1) := by decide +kernel
theorem d_Mod_span_29 : decode M_Mod_span.2.1 29 = .ok (.sipush 1000, 3) := by decide +kernel
theorem d_Mod_span_32 : decode M_Mod_span.2.1 32 = .ok (.aload_n 0, 1) := by decide +kernel
theorem d_Mod_span_33 : decode M_Mod_span.2.1 33 = .ok (.getfield 19, 3) := by decide +kernel
theorem d_Mod_span_36 : decode M_Mod_span.2.1 36 = .ok (.iload_n 1, 1) := by decide +kernel
theorem d_Mod_span_37 : decode M_Mod_span.2.1 37 = .ok (.iaload, 1) := by decide +kernel
theorem d_Mod_span_38 : decode M_Mod_span.2.1 38 = .ok (.imul, 1) := by decide +kernel
theorem d_Mod_span_39 : decode M_Mod_span.2.1 39 = .ok (.aload_n 0, 1) := by decide +kernel
theorem d_Mod_span_40 : decode M_Mod_span.2.1 40 = .ok (.getfield 22, 3) := by decide +kernel
theorem d_Mod_span_43 : decode M_Mod_span.2.1 43 = .ok (.iload_n 1, 1) := by decide +kernel
theorem d_Mod_span_44 : decode M_Mod_span.2.1 44 = .ok (.iaload, 1) := by decide +kernel
theorem d_Mod_span_45 : decode M_Mod_span.2.1 45 = .ok (.iadd, 1) := by decide +kernel
theorem d_Mod_span_46 : decode M_Mod_span.2.1 46 = .ok (.istore_n 3, 1) := by decide +kernel
theorem d_Mod_span_47 : decode M_Mod_span.2.1 47 = .ok (.aload_n 0, 1) := by decide +kernel
theorem d_Mod_span_48 : decode M_Mod_span.2.1 48 = .ok (.getfield 19, 3) := by decide +kernel
theorem d_Mod_span_51 : decode M_Mod_span.2.1 51 = .ok (.iload_n 1, 1) := by decide +kernel
theorem d_Mod_span_52 : decode M_Mod_span.2.1 52 = .ok (.iload_n 2, 1) := by decide +kernel
theorem d_Mod_span_53 : decode M_Mod_span.2.1 53 = .ok (.sipush 1000, 3) := by decide +kernel
theorem d_Mod_span_56 : decode M_Mod_span.2.1 56 = .ok (.idiv, 1) := by decide +kernel
theorem d_Mod_span_57 : decode M_Mod_span.2.1 57 = .ok (.iastore, 1) := by decide +kernel
theorem d_Mod_span_58 : decode M_Mod_span.2.1 58 = .ok (.aload_n 0, 1) := by decide +kernel
theorem d_Mod_span_59 : decode M_Mod_span.2.1 59 = .ok (.getfield 22, 3) := by decide +kernel
theorem d_Mod_span_62 : decode M_Mod_span.2.1 62 = .ok (.iload_n 1, 1) := by decide +kernel
theorem d_Mod_span_63 : decode M_Mod_span.2.1 63 = .ok (.iload_n 2, 1) := by decide +kernel
theorem d_Mod_span_64 : decode M_Mod_span.2.1 64 = .ok (.sipush 1000, 3) := by decide +kernel
theorem d_Mod_span_67 : decode M_Mod_span.2.1 67 = .ok (.irem, 1) := by decide +kernel
theorem d_Mod_span_68 : decode M_Mod_span.2.1 68 = .ok (.iastore, 1) := by decide +kernel
theorem d_Mod_span_69 : decode M_Mod_span.2.1 69 = .ok (.aload_n 0, 1) := by decide +kernel
theorem d_Mod_span_70 : decode M_Mod_span.2.1 70 = .ok (.invokevirtual 133, 3) := by decide +kernel
theorem d_Mod_span_73 : decode M_Mod_span.2.1 73 = .ok (.ifCond .eq 10, 3) := by decide +kernel
theorem d_Mod_span_76 : decode M_Mod_span.2.1 76 = .ok (.aload_n 0, 1) := by decide +kernel
theorem d_Mod_span_77 : decode M_Mod_span.2.1 77 = .ok (.iconst 0, 1) := by decide +kernel
theorem d_Mod_span_78 : decode M_Mod_span.2.1 78 = .ok (.putfield 137, 3) := by decide +kernel
theorem d_Mod_span_81 : decode M_Mod_span.2.1 81 = .ok (.iload_n 3, 1) := by decide +kernel
theorem d_Mod_span_82 : decode M_Mod_span.2.1 82 = .ok (.ireturn, 1) := by decide +kernel
theorem d_Mod_span_83 : decode M_Mod_span.2.1 83 = .ok (.aload_n 0, 1) := by decide +kernel
theorem d_Mod_span_84 : decode M_Mod_span.2.1 84 = .ok (.getfield 19, 3) := by decide +kernel
theorem d_Mod_span_87 : decode M_Mod_span.2.1 87 = .ok (.iload_n 1, 1) := by decide +kernel
theorem d_Mod_span_88 : decode M_Mod_span.2.1 88 = .ok (.iload_n 3, 1) := by decide +kernel
theorem d_Mod_span_89 : decode M_Mod_span.2.1 89 = .ok (.sipush 1000, 3) := by decide +kernel
theorem d_Mod_span_92 : decode M_Mod_span.2.1 92 = .ok (.idiv, 1) := by decide +kernel
theorem d_Mod_span_93 : decode M_Mod_span.2.1 93 = .ok (.iastore, 1) := by decide +kernel
theorem d_Mod_span_94 : decode M_Mod_span.2.1 94 = .ok (.aload_n 0, 1) := by decide +kernel
theorem d_Mod_span_95 : decode M_Mod_span.2.1 95 = .ok (.getfield 22, 3) := by decide +kernel
theorem d_Mod_span_98 : decode M_Mod_span.2.1 98 = .ok (.iload_n 1, 1) := by decide +kernel
theorem d_Mod_span_99 : decode M_Mod_span.2.1 99 = .ok (.iload_n 3, 1) := by decide +kernel
theorem d_Mod_span_100 : decode M_Mod_span.2.1 100 = .ok (.sipush 1000, 3) := by decide +kernel
theorem d_Mod_span_103 : decode M_Mod_span.2.1 103 = .ok (.irem, 1) := by decide +kernel
theorem d_Mod_span_104 : decode M_Mod_span.2.1 104 = .ok (.iastore, 1) := by decide +kernel
theorem d_Mod_span_105 : decode M_Mod_span.2.1 105 = .ok (.aload_n 0, 1) := by decide +kernel
theorem d_Mod_span_106 : decode M_Mod_span.2.1 106 = .ok (.bipush (-7), 2) := by decide +kernel
theorem d_Mod_span_108 : decode M_Mod_span.2.1 108 = .ok (.invokevirtual 126, 3) := by decide +kernel
theorem d_Mod_span_111 : decode M_Mod_span.2.1 111 = .ok (.ireturn, 1) := by decide +kernel
theorem d_Mod_price_0 : decode M_Mod_price.2.1 0 = .ok (.aload_n 0, 1) := by decide +kernel
theorem d_Mod_price_1 : decode M_Mod_price.2.1 1 = .ok (.iload_n 1, 1) := by decide +kernel
theorem d_Mod_price_2 : decode M_Mod_price.2.1 2 = .ok (.invokevirtual 148, 3) := by decide +kernel
theorem d_Mod_price_5 : decode M_Mod_price.2.1 5 = .ok (.ifCond .ne 10, 3) := by decide +kernel
theorem d_Mod_price_8 : decode M_Mod_price.2.1 8 = .ok (.aload_n 0, 1) := by decide +kernel
theorem d_Mod_price_9 : decode M_Mod_price.2.1 9 = .ok (.bipush (-3), 2) := by decide +kernel
theorem d_Mod_price_11 : decode M_Mod_price.2.1 11 = .ok (.invokevirtual 126, 3) := by decide +kernel
theorem d_Mod_price_14 : decode M_Mod_price.2.1 14 = .ok (.ireturn, 1) := by decide +kernel
theorem d_Mod_price_15 : decode M_Mod_price.2.1 15 = .ok (.aload_n 0, 1) := by decide +kernel
theorem d_Mod_price_16 : decode M_Mod_price.2.1 16 = .ok (.getfield 13, 3) := by decide +kernel
theorem d_Mod_price_19 : decode M_Mod_price.2.1 19 = .ok (.iload_n 1, 1) := by decide +kernel
theorem d_Mod_price_20 : decode M_Mod_price.2.1 20 = .ok (.iaload, 1) := by decide +kernel
theorem d_Mod_price_21 : decode M_Mod_price.2.1 21 = .ok (.iconst 3, 1) := by decide +kernel
theorem d_Mod_price_22 : decode M_Mod_price.2.1 22 = .ok (.if_icmp .eq 10, 3) := by decide +kernel
theorem d_Mod_price_25 : decode M_Mod_price.2.1 25 = .ok (.aload_n 0, 1) := by decide +kernel
theorem d_Mod_price_26 : decode M_Mod_price.2.1 26 = .ok (.bipush (-5), 2) := by decide +kernel
theorem d_Mod_price_28 : decode M_Mod_price.2.1 28 = .ok (.invokevirtual 126, 3) := by decide +kernel
theorem d_Mod_price_31 : decode M_Mod_price.2.1 31 = .ok (.ireturn, 1) := by decide +kernel
theorem d_Mod_price_32 : decode M_Mod_price.2.1 32 = .ok (.iload_n 2, 1) := by decide +kernel
theorem d_Mod_price_33 : decode M_Mod_price.2.1 33 = .ok (.i2l, 1) := by decide +kernel
theorem d_Mod_price_34 : decode M_Mod_price.2.1 34 = .ok (.lconst 1, 1) := by decide +kernel
theorem d_Mod_price_35 : decode M_Mod_price.2.1 35 = .ok (.ldc2_w 159, 3) := by decide +kernel
theorem d_Mod_price_38 : decode M_Mod_price.2.1 38 = .ok (.invokestatic 122, 3) := by decide +kernel
theorem d_Mod_price_41 : decode M_Mod_price.2.1 41 = .ok (.ifCond .ne 10, 3) := by decide +kernel
theorem d_Mod_price_44 : decode M_Mod_price.2.1 44 = .ok (.aload_n 0, 1) := by decide +kernel
theorem d_Mod_price_45 : decode M_Mod_price.2.1 45 = .ok (.bipush (-7), 2) := by decide +kernel
theorem d_Mod_price_47 : decode M_Mod_price.2.1 47 = .ok (.invokevirtual 126, 3) := by decide +kernel
theorem d_Mod_price_50 : decode M_Mod_price.2.1 50 = .ok (.ireturn, 1) := by decide +kernel
theorem d_Mod_price_51 : decode M_Mod_price.2.1 51 = .ok (.aload_n 0, 1) := by decide +kernel
theorem d_Mod_price_52 : decode M_Mod_price.2.1 52 = .ok (.getfield 34, 3) := by decide +kernel
theorem d_Mod_price_55 : decode M_Mod_price.2.1 55 = .ok (.iload_n 1, 1) := by decide +kernel
theorem d_Mod_price_56 : decode M_Mod_price.2.1 56 = .ok (.iaload, 1) := by decide +kernel
theorem d_Mod_price_57 : decode M_Mod_price.2.1 57 = .ok (.istore_n 3, 1) := by decide +kernel
theorem d_Mod_price_58 : decode M_Mod_price.2.1 58 = .ok (.aload_n 0, 1) := by decide +kernel
theorem d_Mod_price_59 : decode M_Mod_price.2.1 59 = .ok (.getfield 34, 3) := by decide +kernel
theorem d_Mod_price_62 : decode M_Mod_price.2.1 62 = .ok (.iload_n 1, 1) := by decide +kernel
theorem d_Mod_price_63 : decode M_Mod_price.2.1 63 = .ok (.iload_n 2, 1) := by decide +kernel
theorem d_Mod_price_64 : decode M_Mod_price.2.1 64 = .ok (.iastore, 1) := by decide +kernel
theorem d_Mod_price_65 : decode M_Mod_price.2.1 65 = .ok (.aload_n 0, 1) := by decide +kernel
theorem d_Mod_price_66 : decode M_Mod_price.2.1 66 = .ok (.iconst 0, 1) := by decide +kernel
theorem d_Mod_price_67 : decode M_Mod_price.2.1 67 = .ok (.putfield 137, 3) := by decide +kernel
theorem d_Mod_price_70 : decode M_Mod_price.2.1 70 = .ok (.iload_n 3, 1) := by decide +kernel
theorem d_Mod_price_71 : decode M_Mod_price.2.1 71 = .ok (.ireturn, 1) := by decide +kernel
theorem d_Mod_van_0 : decode M_Mod_van.2.1 0 = .ok (.iload_n 1, 1) := by decide +kernel
theorem d_Mod_van_1 : decode M_Mod_van.2.1 1 = .ok (.i2l, 1) := by decide +kernel
theorem d_Mod_van_2 : decode M_Mod_van.2.1 2 = .ok (.lconst 1, 1) := by decide +kernel
theorem d_Mod_van_3 : decode M_Mod_van.2.1 3 = .ok (.ldc2_w 161, 3) := by decide +kernel
theorem d_Mod_van_6 : decode M_Mod_van.2.1 6 = .ok (.invokestatic 122, 3) := by decide +kernel
theorem d_Mod_van_9 : decode M_Mod_van.2.1 9 = .ok (.ifCond .eq 22, 3) := by decide +kernel
theorem d_Mod_van_12 : decode M_Mod_van.2.1 12 = .ok (.iload_n 2, 1) := by decide +kernel
theorem d_Mod_van_13 : decode M_Mod_van.2.1 13 = .ok (.invokestatic 153, 3) := by decide +kernel
theorem d_Mod_van_16 : decode M_Mod_van.2.1 16 = .ok (.ifCond .eq 15, 3) := by decide +kernel
theorem d_Mod_van_19 : decode M_Mod_van.2.1 19 = .ok (.iload_n 3, 1) := by decide +kernel
theorem d_Mod_van_20 : decode M_Mod_van.2.1 20 = .ok (.i2l, 1) := by decide +kernel
theorem d_Mod_van_21 : decode M_Mod_van.2.1 21 = .ok (.lconst 0, 1) := by decide +kernel
theorem d_Mod_van_22 : decode M_Mod_van.2.1 22 = .ok (.ldc2_w 163, 3) := by decide +kernel
theorem d_Mod_van_25 : decode M_Mod_van.2.1 25 = .ok (.invokestatic 122, 3) := by decide +kernel
theorem d_Mod_van_28 : decode M_Mod_van.2.1 28 = .ok (.ifCond .ne 10, 3) := by decide +kernel
theorem d_Mod_van_31 : decode M_Mod_van.2.1 31 = .ok (.aload_n 0, 1) := by decide +kernel
theorem d_Mod_van_32 : decode M_Mod_van.2.1 32 = .ok (.bipush (-7), 2) := by decide +kernel
theorem d_Mod_van_34 : decode M_Mod_van.2.1 34 = .ok (.invokevirtual 126, 3) := by decide +kernel
theorem d_Mod_van_37 : decode M_Mod_van.2.1 37 = .ok (.ireturn, 1) := by decide +kernel
theorem d_Mod_van_38 : decode M_Mod_van.2.1 38 = .ok (.aload_n 0, 1) := by decide +kernel
theorem d_Mod_van_39 : decode M_Mod_van.2.1 39 = .ok (.getfield 105, 3) := by decide +kernel
theorem d_Mod_van_42 : decode M_Mod_van.2.1 42 = .ok (.iconst 3, 1) := by decide +kernel
theorem d_Mod_van_43 : decode M_Mod_van.2.1 43 = .ok (.if_icmp .ne 10, 3) := by decide +kernel
theorem d_Mod_van_46 : decode M_Mod_van.2.1 46 = .ok (.aload_n 0, 1) := by decide +kernel
theorem d_Mod_van_47 : decode M_Mod_van.2.1 47 = .ok (.bipush (-8), 2) := by decide +kernel
theorem d_Mod_van_49 : decode M_Mod_van.2.1 49 = .ok (.invokevirtual 126, 3) := by decide +kernel
theorem d_Mod_van_52 : decode M_Mod_van.2.1 52 = .ok (.ireturn, 1) := by decide +kernel
theorem d_Mod_van_53 : decode M_Mod_van.2.1 53 = .ok (.aload_n 0, 1) := by decide +kernel
theorem d_Mod_van_54 : decode M_Mod_van.2.1 54 = .ok (.getfield 37, 3) := by decide +kernel
theorem d_Mod_van_57 : decode M_Mod_van.2.1 57 = .ok (.aload_n 0, 1) := by decide +kernel
theorem d_Mod_van_58 : decode M_Mod_van.2.1 58 = .ok (.getfield 105, 3) := by decide +kernel
theorem d_Mod_van_61 : decode M_Mod_van.2.1 61 = .ok (.iload_n 1, 1) := by decide +kernel
theorem d_Mod_van_62 : decode M_Mod_van.2.1 62 = .ok (.iastore, 1) := by decide +kernel
theorem d_Mod_van_63 : decode M_Mod_van.2.1 63 = .ok (.aload_n 0, 1) := by decide +kernel
theorem d_Mod_van_64 : decode M_Mod_van.2.1 64 = .ok (.getfield 40, 3) := by decide +kernel
theorem d_Mod_van_67 : decode M_Mod_van.2.1 67 = .ok (.aload_n 0, 1) := by decide +kernel
theorem d_Mod_van_68 : decode M_Mod_van.2.1 68 = .ok (.getfield 105, 3) := by decide +kernel
theorem d_Mod_van_71 : decode M_Mod_van.2.1 71 = .ok (.iload_n 2, 1) := by decide +kernel
theorem d_Mod_van_72 : decode M_Mod_van.2.1 72 = .ok (.sipush 1000, 3) := by decide +kernel
theorem d_Mod_van_75 : decode M_Mod_van.2.1 75 = .ok (.idiv, 1) := by decide +kernel
theorem d_Mod_van_76 : decode M_Mod_van.2.1 76 = .ok (.iastore, 1) := by decide +kernel
theorem d_Mod_van_77 : decode M_Mod_van.2.1 77 = .ok (.aload_n 0, 1) := by decide +kernel
theorem d_Mod_van_78 : decode M_Mod_van.2.1 78 = .ok (.getfield 43, 3) := by decide +kernel
theorem d_Mod_van_81 : decode M_Mod_van.2.1 81 = .ok (.aload_n 0, 1) := by decide +kernel
theorem d_Mod_van_82 : decode M_Mod_van.2.1 82 = .ok (.getfield 105, 3) := by decide +kernel
theorem d_Mod_van_85 : decode M_Mod_van.2.1 85 = .ok (.iload_n 2, 1) := by decide +kernel
theorem d_Mod_van_86 : decode M_Mod_van.2.1 86 = .ok (.sipush 1000, 3) := by decide +kernel
theorem d_Mod_van_89 : decode M_Mod_van.2.1 89 = .ok (.irem, 1) := by decide +kernel
theorem d_Mod_van_90 : decode M_Mod_van.2.1 90 = .ok (.iastore, 1) := by decide +kernel
theorem d_Mod_van_91 : decode M_Mod_van.2.1 91 = .ok (.aload_n 0, 1) := by decide +kernel
theorem d_Mod_van_92 : decode M_Mod_van.2.1 92 = .ok (.getfield 46, 3) := by decide +kernel
theorem d_Mod_van_95 : decode M_Mod_van.2.1 95 = .ok (.aload_n 0, 1) := by decide +kernel
theorem d_Mod_van_96 : decode M_Mod_van.2.1 96 = .ok (.getfield 105, 3) := by decide +kernel
theorem d_Mod_van_99 : decode M_Mod_van.2.1 99 = .ok (.iload_n 3, 1) := by decide +kernel
theorem d_Mod_van_100 : decode M_Mod_van.2.1 100 = .ok (.iastore, 1) := by decide +kernel
theorem d_Mod_van_101 : decode M_Mod_van.2.1 101 = .ok (.aload_n 0, 1) := by decide +kernel
theorem d_Mod_van_102 : decode M_Mod_van.2.1 102 = .ok (.dup, 1) := by decide +kernel
theorem d_Mod_van_103 : decode M_Mod_van.2.1 103 = .ok (.getfield 105, 3) := by decide +kernel
theorem d_Mod_van_106 : decode M_Mod_van.2.1 106 = .ok (.iconst 1, 1) := by decide +kernel
theorem d_Mod_van_107 : decode M_Mod_van.2.1 107 = .ok (.iadd, 1) := by decide +kernel
theorem d_Mod_van_108 : decode M_Mod_van.2.1 108 = .ok (.putfield 105, 3) := by decide +kernel
theorem d_Mod_van_111 : decode M_Mod_van.2.1 111 = .ok (.aload_n 0, 1) := by decide +kernel
theorem d_Mod_van_112 : decode M_Mod_van.2.1 112 = .ok (.iconst 0, 1) := by decide +kernel
theorem d_Mod_van_113 : decode M_Mod_van.2.1 113 = .ok (.putfield 137, 3) := by decide +kernel
theorem d_Mod_van_116 : decode M_Mod_van.2.1 116 = .ok (.aload_n 0, 1) := by decide +kernel
theorem d_Mod_van_117 : decode M_Mod_van.2.1 117 = .ok (.getfield 105, 3) := by decide +kernel
theorem d_Mod_van_120 : decode M_Mod_van.2.1 120 = .ok (.iconst 1, 1) := by decide +kernel
theorem d_Mod_van_121 : decode M_Mod_van.2.1 121 = .ok (.isub, 1) := by decide +kernel
theorem d_Mod_van_122 : decode M_Mod_van.2.1 122 = .ok (.ireturn, 1) := by decide +kernel
theorem d_Mod_shift_0 : decode M_Mod_shift.2.1 0 = .ok (.aload_n 0, 1) := by decide +kernel
theorem d_Mod_shift_1 : decode M_Mod_shift.2.1 1 = .ok (.iload_n 1, 1) := by decide +kernel
theorem d_Mod_shift_2 : decode M_Mod_shift.2.1 2 = .ok (.invokevirtual 165, 3) := by decide +kernel
theorem d_Mod_shift_5 : decode M_Mod_shift.2.1 5 = .ok (.ifCond .ne 10, 3) := by decide +kernel
theorem d_Mod_shift_8 : decode M_Mod_shift.2.1 8 = .ok (.aload_n 0, 1) := by decide +kernel
theorem d_Mod_shift_9 : decode M_Mod_shift.2.1 9 = .ok (.bipush (-3), 2) := by decide +kernel
theorem d_Mod_shift_11 : decode M_Mod_shift.2.1 11 = .ok (.invokevirtual 126, 3) := by decide +kernel
theorem d_Mod_shift_14 : decode M_Mod_shift.2.1 14 = .ok (.ireturn, 1) := by decide +kernel
theorem d_Mod_shift_15 : decode M_Mod_shift.2.1 15 = .ok (.iload_n 2, 1) := by decide +kernel
theorem d_Mod_shift_16 : decode M_Mod_shift.2.1 16 = .ok (.invokestatic 153, 3) := by decide +kernel
theorem d_Mod_shift_19 : decode M_Mod_shift.2.1 19 = .ok (.ifCond .ne 10, 3) := by decide +kernel
theorem d_Mod_shift_22 : decode M_Mod_shift.2.1 22 = .ok (.aload_n 0, 1) := by decide +kernel
theorem d_Mod_shift_23 : decode M_Mod_shift.2.1 23 = .ok (.bipush (-7), 2) := by decide +kernel
theorem d_Mod_shift_25 : decode M_Mod_shift.2.1 25 = .ok (.invokevirtual 126, 3) := by decide +kernel
theorem d_Mod_shift_28 : decode M_Mod_shift.2.1 28 = .ok (.ireturn, 1) := by decide +kernel
theorem d_Mod_shift_29 : decode M_Mod_shift.2.1 29 = .ok (.sipush 1000, 3) := by decide +kernel
theorem d_Mod_shift_32 : decode M_Mod_shift.2.1 32 = .ok (.aload_n 0, 1) := by decide +kernel
theorem d_Mod_shift_33 : decode M_Mod_shift.2.1 33 = .ok (.getfield 40, 3) := by decide +kernel
theorem d_Mod_shift_36 : decode M_Mod_shift.2.1 36 = .ok (.iload_n 1, 1) := by decide +kernel
theorem d_Mod_shift_37 : decode M_Mod_shift.2.1 37 = .ok (.iaload, 1) := by decide +kernel
theorem d_Mod_shift_38 : decode M_Mod_shift.2.1 38 = .ok (.imul, 1) := by decide +kernel
theorem d_Mod_shift_39 : decode M_Mod_shift.2.1 39 = .ok (.aload_n 0, 1) := by decide +kernel
theorem d_Mod_shift_40 : decode M_Mod_shift.2.1 40 = .ok (.getfield 43, 3) := by decide +kernel
theorem d_Mod_shift_43 : decode M_Mod_shift.2.1 43 = .ok (.iload_n 1, 1) := by decide +kernel
theorem d_Mod_shift_44 : decode M_Mod_shift.2.1 44 = .ok (.iaload, 1) := by decide +kernel
theorem d_Mod_shift_45 : decode M_Mod_shift.2.1 45 = .ok (.iadd, 1) := by decide +kernel
theorem d_Mod_shift_46 : decode M_Mod_shift.2.1 46 = .ok (.istore_n 3, 1) := by decide +kernel
theorem d_Mod_shift_47 : decode M_Mod_shift.2.1 47 = .ok (.aload_n 0, 1) := by decide +kernel
theorem d_Mod_shift_48 : decode M_Mod_shift.2.1 48 = .ok (.getfield 40, 3) := by decide +kernel
theorem d_Mod_shift_51 : decode M_Mod_shift.2.1 51 = .ok (.iload_n 1, 1) := by decide +kernel
theorem d_Mod_shift_52 : decode M_Mod_shift.2.1 52 = .ok (.iload_n 2, 1) := by decide +kernel
theorem d_Mod_shift_53 : decode M_Mod_shift.2.1 53 = .ok (.sipush 1000, 3) := by decide +kernel
theorem d_Mod_shift_56 : decode M_Mod_shift.2.1 56 = .ok (.idiv, 1) := by decide +kernel
theorem d_Mod_shift_57 : decode M_Mod_shift.2.1 57 = .ok (.iastore, 1) := by decide +kernel
theorem d_Mod_shift_58 : decode M_Mod_shift.2.1 58 = .ok (.aload_n 0, 1) := by decide +kernel
theorem d_Mod_shift_59 : decode M_Mod_shift.2.1 59 = .ok (.getfield 43, 3) := by decide +kernel
theorem d_Mod_shift_62 : decode M_Mod_shift.2.1 62 = .ok (.iload_n 1, 1) := by decide +kernel
theorem d_Mod_shift_63 : decode M_Mod_shift.2.1 63 = .ok (.iload_n 2, 1) := by decide +kernel
theorem d_Mod_shift_64 : decode M_Mod_shift.2.1 64 = .ok (.sipush 1000, 3) := by decide +kernel
theorem d_Mod_shift_67 : decode M_Mod_shift.2.1 67 = .ok (.irem, 1) := by decide +kernel
theorem d_Mod_shift_68 : decode M_Mod_shift.2.1 68 = .ok (.iastore, 1) := by decide +kernel
theorem d_Mod_shift_69 : decode M_Mod_shift.2.1 69 = .ok (.aload_n 0, 1) := by decide +kernel
theorem d_Mod_shift_70 : decode M_Mod_shift.2.1 70 = .ok (.invokevirtual 133, 3) := by decide +kernel
theorem d_Mod_shift_73 : decode M_Mod_shift.2.1 73 = .ok (.ifCond .eq 10, 3) := by decide +kernel
theorem d_Mod_shift_76 : decode M_Mod_shift.2.1 76 = .ok (.aload_n 0, 1) := by decide +kernel
theorem d_Mod_shift_77 : decode M_Mod_shift.2.1 77 = .ok (.iconst 0, 1) := by decide +kernel
theorem d_Mod_shift_78 : decode M_Mod_shift.2.1 78 = .ok (.putfield 137, 3) := by decide +kernel
theorem d_Mod_shift_81 : decode M_Mod_shift.2.1 81 = .ok (.iload_n 3, 1) := by decide +kernel
theorem d_Mod_shift_82 : decode M_Mod_shift.2.1 82 = .ok (.ireturn, 1) := by decide +kernel
theorem d_Mod_shift_83 : decode M_Mod_shift.2.1 83 = .ok (.aload_n 0, 1) := by decide +kernel
theorem d_Mod_shift_84 : decode M_Mod_shift.2.1 84 = .ok (.getfield 40, 3) := by decide +kernel
theorem d_Mod_shift_87 : decode M_Mod_shift.2.1 87 = .ok (.iload_n 1, 1) := by decide +kernel
theorem d_Mod_shift_88 : decode M_Mod_shift.2.1 88 = .ok (.iload_n 3, 1) := by decide +kernel
theorem d_Mod_shift_89 : decode M_Mod_shift.2.1 89 = .ok (.sipush 1000, 3) := by decide +kernel
theorem d_Mod_shift_92 : decode M_Mod_shift.2.1 92 = .ok (.idiv, 1) := by decide +kernel
theorem d_Mod_shift_93 : decode M_Mod_shift.2.1 93 = .ok (.iastore, 1) := by decide +kernel
theorem d_Mod_shift_94 : decode M_Mod_shift.2.1 94 = .ok (.aload_n 0, 1) := by decide +kernel
theorem d_Mod_shift_95 : decode M_Mod_shift.2.1 95 = .ok (.getfield 43, 3) := by decide +kernel
theorem d_Mod_shift_98 : decode M_Mod_shift.2.1 98 = .ok (.iload_n 1, 1) := by decide +kernel
theorem d_Mod_shift_99 : decode M_Mod_shift.2.1 99 = .ok (.iload_n 3, 1) := by decide +kernel
theorem d_Mod_shift_100 : decode M_Mod_shift.2.1 100 = .ok (.sipush 1000, 3) := by decide +kernel
theorem d_Mod_shift_103 : decode M_Mod_shift.2.1 103 = .ok (.irem, 1) := by decide +kernel
theorem d_Mod_shift_104 : decode M_Mod_shift.2.1 104 = .ok (.iastore, 1) := by decide +kernel
theorem d_Mod_shift_105 : decode M_Mod_shift.2.1 105 = .ok (.aload_n 0, 1) := by decide +kernel
theorem d_Mod_shift_106 : decode M_Mod_shift.2.1 106 = .ok (.bipush (-7), 2) := by decide +kernel
theorem d_Mod_shift_108 : decode M_Mod_shift.2.1 108 = .ok (.invokevirtual 126, 3) := by decide +kernel
theorem d_Mod_shift_111 : decode M_Mod_shift.2.1 111 = .ok (.ireturn, 1) := by decide +kernel
theorem d_Mod_isVan_0 : decode M_Mod_isVan.2.1 0 = .ok (.iload_n 1, 1) := by decide +kernel
theorem d_Mod_isVan_1 : decode M_Mod_isVan.2.1 1 = .ok (.ifCond .lt 15, 3) := by decide +kernel
theorem d_Mod_isVan_4 : decode M_Mod_isVan.2.1 4 = .ok (.iload_n 1, 1) := by decide +kernel
theorem d_Mod_isVan_5 : decode M_Mod_isVan.2.1 5 = .ok (.aload_n 0, 1) := by decide +kernel
theorem d_Mod_isVan_6 : decode M_Mod_isVan.2.1 6 = .ok (.getfield 105, 3) := by decide +kernel
theorem d_Mod_isVan_9 : decode M_Mod_isVan.2.1 9 = .ok (.if_icmp .ge 7, 3) := by decide +kernel
theorem d_Mod_isVan_12 : decode M_Mod_isVan.2.1 12 = .ok (.iconst 1, 1) := by decide +kernel
theorem d_Mod_isVan_13 : decode M_Mod_isVan.2.1 13 = .ok (.goto 4, 3) := by decide +kernel
theorem d_Mod_isVan_16 : decode M_Mod_isVan.2.1 16 = .ok (.iconst 0, 1) := by decide +kernel
theorem d_Mod_isVan_17 : decode M_Mod_isVan.2.1 17 = .ok (.ireturn, 1) := by decide +kernel
theorem d_Mod_look_0 : decode M_Mod_look.2.1 0 = .ok (.aload_n 0, 1) := by decide +kernel
theorem d_Mod_look_1 : decode M_Mod_look.2.1 1 = .ok (.iload_n 1, 1) := by decide +kernel
theorem d_Mod_look_2 : decode M_Mod_look.2.1 2 = .ok (.invokevirtual 148, 3) := by decide +kernel
theorem d_Mod_look_5 : decode M_Mod_look.2.1 5 = .ok (.ifCond .ne 10, 3) := by decide +kernel
theorem d_Mod_look_8 : decode M_Mod_look.2.1 8 = .ok (.aload_n 0, 1) := by decide +kernel
theorem d_Mod_look_9 : decode M_Mod_look.2.1 9 = .ok (.bipush (-3), 2) := by decide +kernel
theorem d_Mod_look_11 : decode M_Mod_look.2.1 11 = .ok (.invokevirtual 126, 3) := by decide +kernel
theorem d_Mod_look_14 : decode M_Mod_look.2.1 14 = .ok (.ireturn, 1) := by decide +kernel
theorem d_Mod_look_15 : decode M_Mod_look.2.1 15 = .ok (.iload_n 2, 1) := by decide +kernel
theorem d_Mod_look_16 : decode M_Mod_look.2.1 16 = .ok (.tableswitch 91 0 6 #[44, 51, 58, 65, 72, 79, 85], 44) := by decide +kernel
theorem d_Mod_look_60 : decode M_Mod_look.2.1 60 = .ok (.aload_n 0, 1) := by decide +kernel
theorem d_Mod_look_61 : decode M_Mod_look.2.1 61 = .ok (.getfield 13, 3) := by decide +kernel
theorem d_Mod_look_64 : decode M_Mod_look.2.1 64 = .ok (.iload_n 1, 1) := by decide +kernel
theorem d_Mod_look_65 : decode M_Mod_look.2.1 65 = .ok (.iaload, 1) := by decide +kernel
theorem d_Mod_look_66 : decode M_Mod_look.2.1 66 = .ok (.ireturn, 1) := by decide +kernel
theorem d_Mod_look_67 : decode M_Mod_look.2.1 67 = .ok (.aload_n 0, 1) := by decide +kernel
theorem d_Mod_look_68 : decode M_Mod_look.2.1 68 = .ok (.getfield 16, 3) := by decide +kernel
theorem d_Mod_look_71 : decode M_Mod_look.2.1 71 = .ok (.iload_n 1, 1) := by decide +kernel
theorem d_Mod_look_72 : decode M_Mod_look.2.1 72 = .ok (.iaload, 1) := by decide +kernel
theorem d_Mod_look_73 : decode M_Mod_look.2.1 73 = .ok (.ireturn, 1) := by decide +kernel
theorem d_Mod_look_74 : decode M_Mod_look.2.1 74 = .ok (.aload_n 0, 1) := by decide +kernel
theorem d_Mod_look_75 : decode M_Mod_look.2.1 75 = .ok (.getfield 28, 3) := by decide +kernel
theorem d_Mod_look_78 : decode M_Mod_look.2.1 78 = .ok (.iload_n 1, 1) := by decide +kernel
theorem d_Mod_look_79 : decode M_Mod_look.2.1 79 = .ok (.iaload, 1) := by decide +kernel
theorem d_Mod_look_80 : decode M_Mod_look.2.1 80 = .ok (.ireturn, 1) := by decide +kernel
theorem d_Mod_look_81 : decode M_Mod_look.2.1 81 = .ok (.aload_n 0, 1) := by decide +kernel
theorem d_Mod_look_82 : decode M_Mod_look.2.1 82 = .ok (.getfield 25, 3) := by decide +kernel
theorem d_Mod_look_85 : decode M_Mod_look.2.1 85 = .ok (.iload_n 1, 1) := by decide +kernel
theorem d_Mod_look_86 : decode M_Mod_look.2.1 86 = .ok (.iaload, 1) := by decide +kernel
theorem d_Mod_look_87 : decode M_Mod_look.2.1 87 = .ok (.ireturn, 1) := by decide +kernel
theorem d_Mod_look_88 : decode M_Mod_look.2.1 88 = .ok (.aload_n 0, 1) := by decide +kernel
theorem d_Mod_look_89 : decode M_Mod_look.2.1 89 = .ok (.getfield 31, 3) := by decide +kernel
theorem d_Mod_look_92 : decode M_Mod_look.2.1 92 = .ok (.iload_n 1, 1) := by decide +kernel
theorem d_Mod_look_93 : decode M_Mod_look.2.1 93 = .ok (.iaload, 1) := by decide +kernel
theorem d_Mod_look_94 : decode M_Mod_look.2.1 94 = .ok (.ireturn, 1) := by decide +kernel
theorem d_Mod_look_95 : decode M_Mod_look.2.1 95 = .ok (.aload_n 0, 1) := by decide +kernel
theorem d_Mod_look_96 : decode M_Mod_look.2.1 96 = .ok (.iload_n 1, 1) := by decide +kernel
theorem d_Mod_look_97 : decode M_Mod_look.2.1 97 = .ok (.invokevirtual 156, 3) := by decide +kernel
theorem d_Mod_look_100 : decode M_Mod_look.2.1 100 = .ok (.ireturn, 1) := by decide +kernel
theorem d_Mod_look_101 : decode M_Mod_look.2.1 101 = .ok (.aload_n 0, 1) := by decide +kernel
theorem d_Mod_look_102 : decode M_Mod_look.2.1 102 = .ok (.iload_n 1, 1) := by decide +kernel
theorem d_Mod_look_103 : decode M_Mod_look.2.1 103 = .ok (.invokevirtual 168, 3) := by decide +kernel
theorem d_Mod_look_106 : decode M_Mod_look.2.1 106 = .ok (.ireturn, 1) := by decide +kernel
theorem d_Mod_look_107 : decode M_Mod_look.2.1 107 = .ok (.aload_n 0, 1) := by decide +kernel
theorem d_Mod_look_108 : decode M_Mod_look.2.1 108 = .ok (.bipush (-7), 2) := by decide +kernel
theorem d_Mod_look_110 : decode M_Mod_look.2.1 110 = .ok (.invokevirtual 126, 3) := by decide +kernel
theorem d_Mod_look_113 : decode M_Mod_look.2.1 113 = .ok (.ireturn, 1) := by decide +kernel
theorem d_Mod_placeOf_0 : decode M_Mod_placeOf.2.1 0 = .ok (.aload_n 0, 1) := by decide +kernel
theorem d_Mod_placeOf_1 : decode M_Mod_placeOf.2.1 1 = .ok (.iload_n 1, 1) := by decide +kernel
theorem d_Mod_placeOf_2 : decode M_Mod_placeOf.2.1 2 = .ok (.invokevirtual 156, 3) := by decide +kernel
theorem d_Mod_placeOf_5 : decode M_Mod_placeOf.2.1 5 = .ok (.istore_n 2, 1) := by decide +kernel
theorem d_Mod_placeOf_6 : decode M_Mod_placeOf.2.1 6 = .ok (.iload_n 2, 1) := by decide +kernel
theorem d_Mod_placeOf_7 : decode M_Mod_placeOf.2.1 7 = .ok (.ifCond .ge 5, 3) := by decide +kernel
theorem d_Mod_placeOf_10 : decode M_Mod_placeOf.2.1 10 = .ok (.iconst (-1), 1) := by decide +kernel
theorem d_Mod_placeOf_11 : decode M_Mod_placeOf.2.1 11 = .ok (.ireturn, 1) := by decide +kernel
theorem d_Mod_placeOf_12 : decode M_Mod_placeOf.2.1 12 = .ok (.iconst 0, 1) := by decide +kernel
theorem d_Mod_placeOf_13 : decode M_Mod_placeOf.2.1 13 = .ok (.istore_n 3, 1) := by decide +kernel
theorem d_Mod_placeOf_14 : decode M_Mod_placeOf.2.1 14 = .ok (.aload_n 0, 1) := by decide +kernel
theorem d_Mod_placeOf_15 : decode M_Mod_placeOf.2.1 15 = .ok (.getfield 49, 3) := by decide +kernel
theorem d_Mod_placeOf_18 : decode M_Mod_placeOf.2.1 18 = .ok (.bipush 12, 2) := by decide +kernel
theorem d_Mod_placeOf_20 : decode M_Mod_placeOf.2.1 20 = .ok (.iload_n 2, 1) := by decide +kernel
theorem d_Mod_placeOf_21 : decode M_Mod_placeOf.2.1 21 = .ok (.imul, 1) := by decide +kernel
theorem d_Mod_placeOf_22 : decode M_Mod_placeOf.2.1 22 = .ok (.iload_n 3, 1) := by decide +kernel
theorem d_Mod_placeOf_23 : decode M_Mod_placeOf.2.1 23 = .ok (.iadd, 1) := by decide +kernel
theorem d_Mod_placeOf_24 : decode M_Mod_placeOf.2.1 24 = .ok (.iaload, 1) := by decide +kernel
theorem d_Mod_placeOf_25 : decode M_Mod_placeOf.2.1 25 = .ok (.iload_n 1, 1) := by decide +kernel
theorem d_Mod_placeOf_26 : decode M_Mod_placeOf.2.1 26 = .ok (.if_icmp .eq 9, 3) := by decide +kernel
theorem d_Mod_placeOf_29 : decode M_Mod_placeOf.2.1 29 = .ok (.iinc 3 1, 3) := by decide +kernel
theorem d_Mod_placeOf_32 : decode M_Mod_placeOf.2.1 32 = .ok (.goto (-18), 3) := by decide +kernel
theorem d_Mod_placeOf_35 : decode M_Mod_placeOf.2.1 35 = .ok (.iload_n 3, 1) := by decide +kernel
theorem d_Mod_placeOf_36 : decode M_Mod_placeOf.2.1 36 = .ok (.ireturn, 1) := by decide +kernel
theorem d_Mod_round_0 : decode M_Mod_round.2.1 0 = .ok (.aload_n 0, 1) := by decide +kernel
theorem d_Mod_round_1 : decode M_Mod_round.2.1 1 = .ok (.iload_n 1, 1) := by decide +kernel
theorem d_Mod_round_2 : decode M_Mod_round.2.1 2 = .ok (.invokevirtual 165, 3) := by decide +kernel
theorem d_Mod_round_5 : decode M_Mod_round.2.1 5 = .ok (.ifCond .ne 10, 3) := by decide +kernel
theorem d_Mod_round_8 : decode M_Mod_round.2.1 8 = .ok (.aload_n 0, 1) := by decide +kernel
theorem d_Mod_round_9 : decode M_Mod_round.2.1 9 = .ok (.bipush (-3), 2) := by decide +kernel
theorem d_Mod_round_11 : decode M_Mod_round.2.1 11 = .ok (.invokevirtual 126, 3) := by decide +kernel
theorem d_Mod_round_14 : decode M_Mod_round.2.1 14 = .ok (.ireturn, 1) := by decide +kernel
theorem d_Mod_round_15 : decode M_Mod_round.2.1 15 = .ok (.iload_n 2, 1) := by decide +kernel
theorem d_Mod_round_16 : decode M_Mod_round.2.1 16 = .ok (.iconst (-1), 1) := by decide +kernel
theorem d_Mod_round_17 : decode M_Mod_round.2.1 17 = .ok (.if_icmp .ne 10, 3) := by decide +kernel
theorem d_Mod_round_20 : decode M_Mod_round.2.1 20 = .ok (.aload_n 0, 1) := by decide +kernel
theorem d_Mod_round_21 : decode M_Mod_round.2.1 21 = .ok (.getfield 52, 3) := by decide +kernel
theorem d_Mod_round_24 : decode M_Mod_round.2.1 24 = .ok (.iload_n 1, 1) := by decide +kernel
theorem d_Mod_round_25 : decode M_Mod_round.2.1 25 = .ok (.iaload, 1) := by decide +kernel
theorem d_Mod_round_26 : decode M_Mod_round.2.1 26 = .ok (.ireturn, 1) := by decide +kernel
theorem d_Mod_round_27 : decode M_Mod_round.2.1 27 = .ok (.iload_n 2, 1) := by decide +kernel
theorem d_Mod_round_28 : decode M_Mod_round.2.1 28 = .ok (.i2l, 1) := by decide +kernel
theorem d_Mod_round_29 : decode M_Mod_round.2.1 29 = .ok (.lconst 0, 1) := by decide +kernel
theorem d_Mod_round_30 : decode M_Mod_round.2.1 30 = .ok (.aload_n 0, 1) := by decide +kernel
theorem d_Mod_round_31 : decode M_Mod_round.2.1 31 = .ok (.getfield 52, 3) := by decide +kernel
theorem d_Mod_round_34 : decode M_Mod_round.2.1 34 = .ok (.iload_n 1, 1) := by decide +kernel
theorem d_Mod_round_35 : decode M_Mod_round.2.1 35 = .ok (.iaload, 1) := by decide +kernel
theorem d_Mod_round_36 : decode M_Mod_round.2.1 36 = .ok (.iconst 1, 1) := by decide +kernel
theorem d_Mod_round_37 : decode M_Mod_round.2.1 37 = .ok (.isub, 1) := by decide +kernel
theorem d_Mod_round_38 : decode M_Mod_round.2.1 38 = .ok (.i2l, 1) := by decide +kernel
theorem d_Mod_round_39 : decode M_Mod_round.2.1 39 = .ok (.invokestatic 122, 3) := by decide +kernel
theorem d_Mod_round_42 : decode M_Mod_round.2.1 42 = .ok (.ifCond .eq 17, 3) := by decide +kernel
theorem d_Mod_round_45 : decode M_Mod_round.2.1 45 = .ok (.aload_n 0, 1) := by decide +kernel
theorem d_Mod_round_46 : decode M_Mod_round.2.1 46 = .ok (.getfield 49, 3) := by decide +kernel
theorem d_Mod_round_49 : decode M_Mod_round.2.1 49 = .ok (.bipush 12, 2) := by decide +kernel
theorem d_Mod_round_51 : decode M_Mod_round.2.1 51 = .ok (.iload_n 1, 1) := by decide +kernel
theorem d_Mod_round_52 : decode M_Mod_round.2.1 52 = .ok (.imul, 1) := by decide +kernel
theorem d_Mod_round_53 : decode M_Mod_round.2.1 53 = .ok (.iload_n 2, 1) := by decide +kernel
theorem d_Mod_round_54 : decode M_Mod_round.2.1 54 = .ok (.iadd, 1) := by decide +kernel
theorem d_Mod_round_55 : decode M_Mod_round.2.1 55 = .ok (.iaload, 1) := by decide +kernel
theorem d_Mod_round_56 : decode M_Mod_round.2.1 56 = .ok (.goto 9, 3) := by decide +kernel
theorem d_Mod_round_59 : decode M_Mod_round.2.1 59 = .ok (.aload_n 0, 1) := by decide +kernel
theorem d_Mod_round_60 : decode M_Mod_round.2.1 60 = .ok (.bipush (-3), 2) := by decide +kernel
theorem d_Mod_round_62 : decode M_Mod_round.2.1 62 = .ok (.invokevirtual 126, 3) := by decide +kernel
theorem d_Mod_round_65 : decode M_Mod_round.2.1 65 = .ok (.ireturn, 1) := by decide +kernel
theorem d_Mod_when_0 : decode M_Mod_when.2.1 0 = .ok (.aload_n 0, 1) := by decide +kernel
theorem d_Mod_when_1 : decode M_Mod_when.2.1 1 = .ok (.iload_n 1, 1) := by decide +kernel
theorem d_Mod_when_2 : decode M_Mod_when.2.1 2 = .ok (.invokevirtual 165, 3) := by decide +kernel
theorem d_Mod_when_5 : decode M_Mod_when.2.1 5 = .ok (.ifCond .eq 28, 3) := by decide +kernel
theorem d_Mod_when_8 : decode M_Mod_when.2.1 8 = .ok (.aload_n 0, 1) := by decide +kernel
theorem d_Mod_when_9 : decode M_Mod_when.2.1 9 = .ok (.getfield 52, 3) := by decide +kernel
theorem d_Mod_when_12 : decode M_Mod_when.2.1 12 = .ok (.iload_n 1, 1) := by decide +kernel
theorem d_Mod_when_13 : decode M_Mod_when.2.1 13 = .ok (.iaload, 1) := by decide +kernel
theorem d_Mod_when_14 : decode M_Mod_when.2.1 14 = .ok (.ifCond .eq 19, 3) := by decide +kernel
theorem d_Mod_when_17 : decode M_Mod_when.2.1 17 = .ok (.iload_n 2, 1) := by decide +kernel
theorem d_Mod_when_18 : decode M_Mod_when.2.1 18 = .ok (.i2l, 1) := by decide +kernel
theorem d_Mod_when_19 : decode M_Mod_when.2.1 19 = .ok (.lconst 0, 1) := by decide +kernel
theorem d_Mod_when_20 : decode M_Mod_when.2.1 20 = .ok (.aload_n 0, 1) := by decide +kernel
theorem d_Mod_when_21 : decode M_Mod_when.2.1 21 = .ok (.getfield 52, 3) := by decide +kernel
theorem d_Mod_when_24 : decode M_Mod_when.2.1 24 = .ok (.iload_n 1, 1) := by decide +kernel
theorem d_Mod_when_25 : decode M_Mod_when.2.1 25 = .ok (.iaload, 1) := by decide +kernel
theorem d_Mod_when_26 : decode M_Mod_when.2.1 26 = .ok (.i2l, 1) := by decide +kernel
theorem d_Mod_when_27 : decode M_Mod_when.2.1 27 = .ok (.invokestatic 122, 3) := by decide +kernel
theorem d_Mod_when_30 : decode M_Mod_when.2.1 30 = .ok (.ifCond .ne 10, 3) := by decide +kernel
theorem d_Mod_when_33 : decode M_Mod_when.2.1 33 = .ok (.aload_n 0, 1) := by decide +kernel
theorem d_Mod_when_34 : decode M_Mod_when.2.1 34 = .ok (.bipush (-3), 2) := by decide +kernel
theorem d_Mod_when_36 : decode M_Mod_when.2.1 36 = .ok (.invokevirtual 126, 3) := by decide +kernel
theorem d_Mod_when_39 : decode M_Mod_when.2.1 39 = .ok (.ireturn, 1) := by decide +kernel
theorem d_Mod_when_40 : decode M_Mod_when.2.1 40 = .ok (.iload_n 3, 1) := by decide +kernel
theorem d_Mod_when_41 : decode M_Mod_when.2.1 41 = .ok (.i2l, 1) := by decide +kernel
theorem d_Mod_when_42 : decode M_Mod_when.2.1 42 = .ok (.lconst 0, 1) := by decide +kernel
theorem d_Mod_when_43 : decode M_Mod_when.2.1 43 = .ok (.iload_n 2, 1) := by decide +kernel
theorem d_Mod_when_44 : decode M_Mod_when.2.1 44 = .ok (.aload_n 0, 1) := by decide +kernel
theorem d_Mod_when_45 : decode M_Mod_when.2.1 45 = .ok (.getfield 52, 3) := by decide +kernel
theorem d_Mod_when_48 : decode M_Mod_when.2.1 48 = .ok (.iload_n 1, 1) := by decide +kernel
theorem d_Mod_when_49 : decode M_Mod_when.2.1 49 = .ok (.iaload, 1) := by decide +kernel
theorem d_Mod_when_50 : decode M_Mod_when.2.1 50 = .ok (.if_icmp .ne 7, 3) := by decide +kernel
theorem d_Mod_when_53 : decode M_Mod_when.2.1 53 = .ok (.lconst 0, 1) := by decide +kernel
theorem d_Mod_when_54 : decode M_Mod_when.2.1 54 = .ok (.goto 6, 3) := by decide +kernel
theorem d_Mod_when_57 : decode M_Mod_when.2.1 57 = .ok (.ldc2_w 207, 3) := by decide +kernel
theorem d_Mod_when_60 : decode M_Mod_when.2.1 60 = .ok (.invokestatic 122, 3) := by decide +kernel
theorem d_Mod_when_63 : decode M_Mod_when.2.1 63 = .ok (.ifCond .ne 10, 3) := by decide +kernel
theorem d_Mod_when_66 : decode M_Mod_when.2.1 66 = .ok (.aload_n 0, 1) := by decide +kernel
theorem d_Mod_when_67 : decode M_Mod_when.2.1 67 = .ok (.bipush (-7), 2) := by decide +kernel
theorem d_Mod_when_69 : decode M_Mod_when.2.1 69 = .ok (.invokevirtual 126, 3) := by decide +kernel
theorem d_Mod_when_72 : decode M_Mod_when.2.1 72 = .ok (.ireturn, 1) := by decide +kernel
theorem d_Mod_when_73 : decode M_Mod_when.2.1 73 = .ok (.aload_n 0, 1) := by decide +kernel
theorem d_Mod_when_74 : decode M_Mod_when.2.1 74 = .ok (.iload_n 1, 1) := by decide +kernel
theorem d_Mod_when_75 : decode M_Mod_when.2.1 75 = .ok (.invokevirtual 201, 3) := by decide +kernel
theorem d_Mod_when_78 : decode M_Mod_when.2.1 78 = .ok (.istore 4, 2) := by decide +kernel
theorem d_Mod_when_80 : decode M_Mod_when.2.1 80 = .ok (.iload_n 2, 1) := by decide +kernel
theorem d_Mod_when_81 : decode M_Mod_when.2.1 81 = .ok (.aload_n 0, 1) := by decide +kernel
theorem d_Mod_when_82 : decode M_Mod_when.2.1 82 = .ok (.getfield 52, 3) := by decide +kernel
theorem d_Mod_when_85 : decode M_Mod_when.2.1 85 = .ok (.iload_n 1, 1) := by decide +kernel
theorem d_Mod_when_86 : decode M_Mod_when.2.1 86 = .ok (.iaload, 1) := by decide +kernel
theorem d_Mod_when_87 : decode M_Mod_when.2.1 87 = .ok (.if_icmp .ne 8, 3) := by decide +kernel
theorem d_Mod_when_90 : decode M_Mod_when.2.1 90 = .ok (.aload_n 0, 1) := by decide +kernel
theorem d_Mod_when_91 : decode M_Mod_when.2.1 91 = .ok (.getfield 188, 3) := by decide +kernel
theorem d_Mod_when_94 : decode M_Mod_when.2.1 94 = .ok (.ireturn, 1) := by decide +kernel
theorem d_Mod_when_95 : decode M_Mod_when.2.1 95 = .ok (.iload_n 3, 1) := by decide +kernel
theorem d_Mod_when_96 : decode M_Mod_when.2.1 96 = .ok (.ifCond .ne 12, 3) := by decide +kernel
theorem d_Mod_when_99 : decode M_Mod_when.2.1 99 = .ok (.aload_n 0, 1) := by decide +kernel
theorem d_Mod_when_100 : decode M_Mod_when.2.1 100 = .ok (.getfield 77, 3) := by decide +kernel
theorem d_Mod_when_103 : decode M_Mod_when.2.1 103 = .ok (.iload_n 2, 1) := by decide +kernel
theorem d_Mod_when_104 : decode M_Mod_when.2.1 104 = .ok (.iaload, 1) := by decide +kernel
theorem d_Mod_when_105 : decode M_Mod_when.2.1 105 = .ok (.goto 37, 3) := by decide +kernel
theorem d_Mod_when_108 : decode M_Mod_when.2.1 108 = .ok (.iload_n 3, 1) := by decide +kernel
theorem d_Mod_when_109 : decode M_Mod_when.2.1 109 = .ok (.iconst 1, 1) := by decide +kernel
theorem d_Mod_when_110 : decode M_Mod_when.2.1 110 = .ok (.if_icmp .ne 12, 3) := by decide +kernel
theorem d_Mod_when_113 : decode M_Mod_when.2.1 113 = .ok (.aload_n 0, 1) := by decide +kernel
theorem d_Mod_when_114 : decode M_Mod_when.2.1 114 = .ok (.getfield 80, 3) := by decide +kernel
theorem d_Mod_when_117 : decode M_Mod_when.2.1 117 = .ok (.iload_n 2, 1) := by decide +kernel
theorem d_Mod_when_118 : decode M_Mod_when.2.1 118 = .ok (.iaload, 1) := by decide +kernel
theorem d_Mod_when_119 : decode M_Mod_when.2.1 119 = .ok (.goto 23, 3) := by decide +kernel
theorem d_Mod_when_122 : decode M_Mod_when.2.1 122 = .ok (.iload_n 3, 1) := by decide +kernel
theorem d_Mod_when_123 : decode M_Mod_when.2.1 123 = .ok (.iconst 2, 1) := by decide +kernel
theorem d_Mod_when_124 : decode M_Mod_when.2.1 124 = .ok (.if_icmp .ne 12, 3) := by decide +kernel
theorem d_Mod_when_127 : decode M_Mod_when.2.1 127 = .ok (.aload_n 0, 1) := by decide +kernel
theorem d_Mod_when_128 : decode M_Mod_when.2.1 128 = .ok (.getfield 83, 3) := by decide +kernel
theorem d_Mod_when_131 : decode M_Mod_when.2.1 131 = .ok (.iload_n 2, 1) := by decide +kernel
theorem d_Mod_when_132 : decode M_Mod_when.2.1 132 = .ok (.iaload, 1) := by decide +kernel
theorem d_Mod_when_133 : decode M_Mod_when.2.1 133 = .ok (.goto 9, 3) := by decide +kernel
theorem d_Mod_when_136 : decode M_Mod_when.2.1 136 = .ok (.aload_n 0, 1) := by decide +kernel
theorem d_Mod_when_137 : decode M_Mod_when.2.1 137 = .ok (.getfield 86, 3) := by decide +kernel
theorem d_Mod_when_140 : decode M_Mod_when.2.1 140 = .ok (.iload_n 2, 1) := by decide +kernel
theorem d_Mod_when_141 : decode M_Mod_when.2.1 141 = .ok (.iaload, 1) := by decide +kernel
theorem d_Mod_when_142 : decode M_Mod_when.2.1 142 = .ok (.ireturn, 1) := by decide +kernel
theorem d_Mod_cost_0 : decode M_Mod_cost.2.1 0 = .ok (.iload_n 1, 1) := by decide +kernel
theorem d_Mod_cost_1 : decode M_Mod_cost.2.1 1 = .ok (.iconst (-1), 1) := by decide +kernel
theorem d_Mod_cost_2 : decode M_Mod_cost.2.1 2 = .ok (.if_icmp .ne 8, 3) := by decide +kernel
theorem d_Mod_cost_5 : decode M_Mod_cost.2.1 5 = .ok (.aload_n 0, 1) := by decide +kernel
theorem d_Mod_cost_6 : decode M_Mod_cost.2.1 6 = .ok (.invokevirtual 209, 3) := by decide +kernel
theorem d_Mod_cost_9 : decode M_Mod_cost.2.1 9 = .ok (.ireturn, 1) := by decide +kernel
theorem d_Mod_cost_10 : decode M_Mod_cost.2.1 10 = .ok (.aload_n 0, 1) := by decide +kernel
theorem d_Mod_cost_11 : decode M_Mod_cost.2.1 11 = .ok (.iload_n 1, 1) := by decide +kernel
theorem d_Mod_cost_12 : decode M_Mod_cost.2.1 12 = .ok (.invokevirtual 165, 3) := by decide +kernel
theorem d_Mod_cost_15 : decode M_Mod_cost.2.1 15 = .ok (.ifCond .eq 11, 3) := by decide +kernel
theorem d_Mod_cost_18 : decode M_Mod_cost.2.1 18 = .ok (.aload_n 0, 1) := by decide +kernel
theorem d_Mod_cost_19 : decode M_Mod_cost.2.1 19 = .ok (.iload_n 1, 1) := by decide +kernel
theorem d_Mod_cost_20 : decode M_Mod_cost.2.1 20 = .ok (.invokevirtual 204, 3) := by decide +kernel
theorem d_Mod_cost_23 : decode M_Mod_cost.2.1 23 = .ok (.goto 9, 3) := by decide +kernel
theorem d_Mod_cost_26 : decode M_Mod_cost.2.1 26 = .ok (.aload_n 0, 1) := by decide +kernel
theorem d_Mod_cost_27 : decode M_Mod_cost.2.1 27 = .ok (.bipush (-3), 2) := by decide +kernel
theorem d_Mod_cost_29 : decode M_Mod_cost.2.1 29 = .ok (.invokevirtual 126, 3) := by decide +kernel
theorem d_Mod_cost_32 : decode M_Mod_cost.2.1 32 = .ok (.ireturn, 1) := by decide +kernel
theorem d_Mod_costAll_0 : decode M_Mod_costAll.2.1 0 = .ok (.iconst 0, 1) := by decide +kernel
theorem d_Mod_costAll_1 : decode M_Mod_costAll.2.1 1 = .ok (.istore_n 1, 1) := by decide +kernel
theorem d_Mod_costAll_2 : decode M_Mod_costAll.2.1 2 = .ok (.iconst 0, 1) := by decide +kernel
theorem d_Mod_costAll_3 : decode M_Mod_costAll.2.1 3 = .ok (.istore_n 2, 1) := by decide +kernel
theorem d_Mod_costAll_4 : decode M_Mod_costAll.2.1 4 = .ok (.iload_n 2, 1) := by decide +kernel
theorem d_Mod_costAll_5 : decode M_Mod_costAll.2.1 5 = .ok (.aload_n 0, 1) := by decide +kernel
theorem d_Mod_costAll_6 : decode M_Mod_costAll.2.1 6 = .ok (.getfield 105, 3) := by decide +kernel
theorem d_Mod_costAll_9 : decode M_Mod_costAll.2.1 9 = .ok (.if_icmp .ge 17, 3) := by decide +kernel
theorem d_Mod_costAll_12 : decode M_Mod_costAll.2.1 12 = .ok (.iload_n 1, 1) := by decide +kernel
theorem d_Mod_costAll_13 : decode M_Mod_costAll.2.1 13 = .ok (.aload_n 0, 1) := by decide +kernel
theorem d_Mod_costAll_14 : decode M_Mod_costAll.2.1 14 = .ok (.iload_n 2, 1) := by decide +kernel
theorem d_Mod_costAll_15 : decode M_Mod_costAll.2.1 15 = .ok (.invokevirtual 204, 3) := by decide +kernel
theorem d_Mod_costAll_18 : decode M_Mod_costAll.2.1 18 = .ok (.iadd, 1) := by decide +kernel
theorem d_Mod_costAll_19 : decode M_Mod_costAll.2.1 19 = .ok (.istore_n 1, 1) := by decide +kernel
theorem d_Mod_costAll_20 : decode M_Mod_costAll.2.1 20 = .ok (.iinc 2 1, 3) := by decide +kernel
theorem d_Mod_costAll_23 : decode M_Mod_costAll.2.1 23 = .ok (.goto (-19), 3) := by decide +kernel
theorem d_Mod_costAll_26 : decode M_Mod_costAll.2.1 26 = .ok (.iload_n 1, 1) := by decide +kernel
theorem d_Mod_costAll_27 : decode M_Mod_costAll.2.1 27 = .ok (.ireturn, 1) := by decide +kernel
theorem d_Mod_costOf_0 : decode M_Mod_costOf.2.1 0 = .ok (.aload_n 0, 1) := by decide +kernel
theorem d_Mod_costOf_1 : decode M_Mod_costOf.2.1 1 = .ok (.iload_n 1, 1) := by decide +kernel
theorem d_Mod_costOf_2 : decode M_Mod_costOf.2.1 2 = .ok (.invokevirtual 201, 3) := by decide +kernel
theorem d_Mod_costOf_5 : decode M_Mod_costOf.2.1 5 = .ok (.istore_n 2, 1) := by decide +kernel
theorem d_Mod_costOf_6 : decode M_Mod_costOf.2.1 6 = .ok (.aload_n 0, 1) := by decide +kernel
theorem d_Mod_costOf_7 : decode M_Mod_costOf.2.1 7 = .ok (.getfield 185, 3) := by decide +kernel
theorem d_Mod_costOf_10 : decode M_Mod_costOf.2.1 10 = .ok (.ireturn, 1) := by decide +kernel
theorem d_Mod_why_0 : decode M_Mod_why.2.1 0 = .ok (.aload_n 0, 1) := by decide +kernel
theorem d_Mod_why_1 : decode M_Mod_why.2.1 1 = .ok (.iload_n 1, 1) := by decide +kernel
theorem d_Mod_why_2 : decode M_Mod_why.2.1 2 = .ok (.invokevirtual 148, 3) := by decide +kernel
theorem d_Mod_why_5 : decode M_Mod_why.2.1 5 = .ok (.ifCond .eq 27, 3) := by decide +kernel
theorem d_Mod_why_8 : decode M_Mod_why.2.1 8 = .ok (.aload_n 0, 1) := by decide +kernel
theorem d_Mod_why_9 : decode M_Mod_why.2.1 9 = .ok (.iload_n 2, 1) := by decide +kernel
theorem d_Mod_why_10 : decode M_Mod_why.2.1 10 = .ok (.invokevirtual 165, 3) := by decide +kernel
theorem d_Mod_why_13 : decode M_Mod_why.2.1 13 = .ok (.ifCond .eq 19, 3) := by decide +kernel
theorem d_Mod_why_16 : decode M_Mod_why.2.1 16 = .ok (.iload_n 3, 1) := by decide +kernel
theorem d_Mod_why_17 : decode M_Mod_why.2.1 17 = .ok (.i2l, 1) := by decide +kernel
theorem d_Mod_why_18 : decode M_Mod_why.2.1 18 = .ok (.lconst 0, 1) := by decide +kernel
theorem d_Mod_why_19 : decode M_Mod_why.2.1 19 = .ok (.aload_n 0, 1) := by decide +kernel
theorem d_Mod_why_20 : decode M_Mod_why.2.1 20 = .ok (.getfield 52, 3) := by decide +kernel
theorem d_Mod_why_23 : decode M_Mod_why.2.1 23 = .ok (.iload_n 2, 1) := by decide +kernel
theorem d_Mod_why_24 : decode M_Mod_why.2.1 24 = .ok (.iaload, 1) := by decide +kernel
theorem d_Mod_why_25 : decode M_Mod_why.2.1 25 = .ok (.i2l, 1) := by decide +kernel
theorem d_Mod_why_26 : decode M_Mod_why.2.1 26 = .ok (.invokestatic 122, 3) := by decide +kernel
theorem d_Mod_why_29 : decode M_Mod_why.2.1 29 = .ok (.ifCond .ne 10, 3) := by decide +kernel
theorem d_Mod_why_32 : decode M_Mod_why.2.1 32 = .ok (.aload_n 0, 1) := by decide +kernel
theorem d_Mod_why_33 : decode M_Mod_why.2.1 33 = .ok (.bipush (-3), 2) := by decide +kernel
theorem d_Mod_why_35 : decode M_Mod_why.2.1 35 = .ok (.invokevirtual 126, 3) := by decide +kernel
theorem d_Mod_why_38 : decode M_Mod_why.2.1 38 = .ok (.ireturn, 1) := by decide +kernel
theorem d_Mod_why_39 : decode M_Mod_why.2.1 39 = .ok (.aload_n 0, 1) := by decide +kernel
theorem d_Mod_why_40 : decode M_Mod_why.2.1 40 = .ok (.iload_n 1, 1) := by decide +kernel
theorem d_Mod_why_41 : decode M_Mod_why.2.1 41 = .ok (.invokevirtual 156, 3) := by decide +kernel
theorem d_Mod_why_44 : decode M_Mod_why.2.1 44 = .ok (.ifCond .lt 10, 3) := by decide +kernel
theorem d_Mod_why_47 : decode M_Mod_why.2.1 47 = .ok (.aload_n 0, 1) := by decide +kernel
theorem d_Mod_why_48 : decode M_Mod_why.2.1 48 = .ok (.bipush (-7), 2) := by decide +kernel
theorem d_Mod_why_50 : decode M_Mod_why.2.1 50 = .ok (.invokevirtual 126, 3) := by decide +kernel
theorem d_Mod_why_53 : decode M_Mod_why.2.1 53 = .ok (.ireturn, 1) := by decide +kernel
theorem d_Mod_why_54 : decode M_Mod_why.2.1 54 = .ok (.aload_n 0, 1) := by decide +kernel
theorem d_Mod_why_55 : decode M_Mod_why.2.1 55 = .ok (.iload_n 1, 1) := by decide +kernel
theorem d_Mod_why_56 : decode M_Mod_why.2.1 56 = .ok (.iload_n 2, 1) := by decide +kernel
theorem d_Mod_why_57 : decode M_Mod_why.2.1 57 = .ok (.iload_n 3, 1) := by decide +kernel
theorem d_Mod_why_58 : decode M_Mod_why.2.1 58 = .ok (.invokevirtual 224, 3) := by decide +kernel
theorem d_Mod_why_61 : decode M_Mod_why.2.1 61 = .ok (.aload_n 0, 1) := by decide +kernel
theorem d_Mod_why_62 : decode M_Mod_why.2.1 62 = .ok (.iload_n 2, 1) := by decide +kernel
theorem d_Mod_why_63 : decode M_Mod_why.2.1 63 = .ok (.invokevirtual 201, 3) := by decide +kernel
theorem d_Mod_why_66 : decode M_Mod_why.2.1 66 = .ok (.istore 4, 2) := by decide +kernel
theorem d_Mod_why_68 : decode M_Mod_why.2.1 68 = .ok (.aload_n 0, 1) := by decide +kernel
theorem d_Mod_why_69 : decode M_Mod_why.2.1 69 = .ok (.iload_n 1, 1) := by decide +kernel
theorem d_Mod_why_70 : decode M_Mod_why.2.1 70 = .ok (.invokevirtual 228, 3) := by decide +kernel
theorem d_Mod_why_73 : decode M_Mod_why.2.1 73 = .ok (.aload_n 0, 1) := by decide +kernel
theorem d_Mod_why_74 : decode M_Mod_why.2.1 74 = .ok (.aload_n 0, 1) := by decide +kernel
theorem d_Mod_why_75 : decode M_Mod_why.2.1 75 = .ok (.getfield 174, 3) := by decide +kernel
theorem d_Mod_why_78 : decode M_Mod_why.2.1 78 = .ok (.putfield 89, 3) := by decide +kernel
theorem d_Mod_why_81 : decode M_Mod_why.2.1 81 = .ok (.aload_n 0, 1) := by decide +kernel
theorem d_Mod_why_82 : decode M_Mod_why.2.1 82 = .ok (.getfield 171, 3) := by decide +kernel
theorem d_Mod_why_85 : decode M_Mod_why.2.1 85 = .ok (.ireturn, 1) := by decide +kernel
theorem d_Mod_puts_0 : decode M_Mod_puts.2.1 0 = .ok (.aload_n 0, 1) := by decide +kernel
theorem d_Mod_puts_1 : decode M_Mod_puts.2.1 1 = .ok (.getfield 52, 3) := by decide +kernel
theorem d_Mod_puts_4 : decode M_Mod_puts.2.1 4 = .ok (.iload_n 2, 1) := by decide +kernel
theorem d_Mod_puts_5 : decode M_Mod_puts.2.1 5 = .ok (.iaload, 1) := by decide +kernel
theorem d_Mod_puts_6 : decode M_Mod_puts.2.1 6 = .ok (.istore 4, 2) := by decide +kernel
theorem d_Mod_puts_8 : decode M_Mod_puts.2.1 8 = .ok (.iload 4, 2) := by decide +kernel
theorem d_Mod_puts_10 : decode M_Mod_puts.2.1 10 = .ok (.iload_n 3, 1) := by decide +kernel
theorem d_Mod_puts_11 : decode M_Mod_puts.2.1 11 = .ok (.if_icmp .le 35, 3) := by decide +kernel
theorem d_Mod_puts_14 : decode M_Mod_puts.2.1 14 = .ok (.aload_n 0, 1) := by decide +kernel
theorem d_Mod_puts_15 : decode M_Mod_puts.2.1 15 = .ok (.getfield 49, 3) := by decide +kernel
theorem d_Mod_puts_18 : decode M_Mod_puts.2.1 18 = .ok (.bipush 12, 2) := by decide +kernel
theorem d_Mod_puts_20 : decode M_Mod_puts.2.1 20 = .ok (.iload_n 2, 1) := by decide +kernel
theorem d_Mod_puts_21 : decode M_Mod_puts.2.1 21 = .ok (.imul, 1) := by decide +kernel
theorem d_Mod_puts_22 : decode M_Mod_puts.2.1 22 = .ok (.iload 4, 2) := by decide +kernel
theorem d_Mod_puts_24 : decode M_Mod_puts.2.1 24 = .ok (.iadd, 1) := by decide +kernel
theorem d_Mod_puts_25 : decode M_Mod_puts.2.1 25 = .ok (.aload_n 0, 1) := by decide +kernel
theorem d_Mod_puts_26 : decode M_Mod_puts.2.1 26 = .ok (.getfield 49, 3) := by decide +kernel
theorem d_Mod_puts_29 : decode M_Mod_puts.2.1 29 = .ok (.bipush 12, 2) := by decide +kernel
theorem d_Mod_puts_31 : decode M_Mod_puts.2.1 31 = .ok (.iload_n 2, 1) := by decide +kernel
theorem d_Mod_puts_32 : decode M_Mod_puts.2.1 32 = .ok (.imul, 1) := by decide +kernel
theorem d_Mod_puts_33 : decode M_Mod_puts.2.1 33 = .ok (.iload 4, 2) := by decide +kernel
theorem d_Mod_puts_35 : decode M_Mod_puts.2.1 35 = .ok (.iadd, 1) := by decide +kernel
theorem d_Mod_puts_36 : decode M_Mod_puts.2.1 36 = .ok (.iconst 1, 1) := by decide +kernel
theorem d_Mod_puts_37 : decode M_Mod_puts.2.1 37 = .ok (.isub, 1) := by decide +kernel
theorem d_Mod_puts_38 : decode M_Mod_puts.2.1 38 = .ok (.iaload, 1) := by decide +kernel
theorem d_Mod_puts_39 : decode M_Mod_puts.2.1 39 = .ok (.iastore, 1) := by decide +kernel
theorem d_Mod_puts_40 : decode M_Mod_puts.2.1 40 = .ok (.iinc 4 (-1), 3) := by decide +kernel
theorem d_Mod_puts_43 : decode M_Mod_puts.2.1 43 = .ok (.goto (-35), 3) := by decide +kernel
theorem d_Mod_puts_46 : decode M_Mod_puts.2.1 46 = .ok (.aload_n 0, 1) := by decide +kernel
theorem d_Mod_puts_47 : decode M_Mod_puts.2.1 47 = .ok (.getfield 49, 3) := by decide +kernel
theorem d_Mod_puts_50 : decode M_Mod_puts.2.1 50 = .ok (.bipush 12, 2) := by decide +kernel
theorem d_Mod_puts_52 : decode M_Mod_puts.2.1 52 = .ok (.iload_n 2, 1) := by decide +kernel
theorem d_Mod_puts_53 : decode M_Mod_puts.2.1 53 = .ok (.imul, 1) := by decide +kernel
theorem d_Mod_puts_54 : decode M_Mod_puts.2.1 54 = .ok (.iload_n 3, 1) := by decide +kernel
theorem d_Mod_puts_55 : decode M_Mod_puts.2.1 55 = .ok (.iadd, 1) := by decide +kernel
theorem d_Mod_puts_56 : decode M_Mod_puts.2.1 56 = .ok (.iload_n 1, 1) := by decide +kernel
theorem d_Mod_puts_57 : decode M_Mod_puts.2.1 57 = .ok (.iastore, 1) := by decide +kernel
theorem d_Mod_puts_58 : decode M_Mod_puts.2.1 58 = .ok (.aload_n 0, 1) := by decide +kernel
theorem d_Mod_puts_59 : decode M_Mod_puts.2.1 59 = .ok (.getfield 52, 3) := by decide +kernel
theorem d_Mod_puts_62 : decode M_Mod_puts.2.1 62 = .ok (.iload_n 2, 1) := by decide +kernel
theorem d_Mod_puts_63 : decode M_Mod_puts.2.1 63 = .ok (.dup2, 1) := by decide +kernel
theorem d_Mod_puts_64 : decode M_Mod_puts.2.1 64 = .ok (.iaload, 1) := by decide +kernel
theorem d_Mod_puts_65 : decode M_Mod_puts.2.1 65 = .ok (.iconst 1, 1) := by decide +kernel
theorem d_Mod_puts_66 : decode M_Mod_puts.2.1 66 = .ok (.iadd, 1) := by decide +kernel
theorem d_Mod_puts_67 : decode M_Mod_puts.2.1 67 = .ok (.iastore, 1) := by decide +kernel
theorem d_Mod_puts_68 : decode M_Mod_puts.2.1 68 = .ok (.return_, 1) := by decide +kernel
theorem d_Mod_takesOut_0 : decode M_Mod_takesOut.2.1 0 = .ok (.aload_n 0, 1) := by decide +kernel
theorem d_Mod_takesOut_1 : decode M_Mod_takesOut.2.1 1 = .ok (.iload_n 1, 1) := by decide +kernel
theorem d_Mod_takesOut_2 : decode M_Mod_takesOut.2.1 2 = .ok (.invokevirtual 156, 3) := by decide +kernel
theorem d_Mod_takesOut_5 : decode M_Mod_takesOut.2.1 5 = .ok (.istore_n 2, 1) := by decide +kernel
theorem d_Mod_takesOut_6 : decode M_Mod_takesOut.2.1 6 = .ok (.aload_n 0, 1) := by decide +kernel
theorem d_Mod_takesOut_7 : decode M_Mod_takesOut.2.1 7 = .ok (.iload_n 1, 1) := by decide +kernel
theorem d_Mod_takesOut_8 : decode M_Mod_takesOut.2.1 8 = .ok (.invokevirtual 168, 3) := by decide +kernel
theorem d_Mod_takesOut_11 : decode M_Mod_takesOut.2.1 11 = .ok (.istore_n 3, 1) := by decide +kernel
theorem d_Mod_takesOut_12 : decode M_Mod_takesOut.2.1 12 = .ok (.aload_n 0, 1) := by decide +kernel
theorem d_Mod_takesOut_13 : decode M_Mod_takesOut.2.1 13 = .ok (.getfield 52, 3) := by decide +kernel
theorem d_Mod_takesOut_16 : decode M_Mod_takesOut.2.1 16 = .ok (.iload_n 2, 1) := by decide +kernel
theorem d_Mod_takesOut_17 : decode M_Mod_takesOut.2.1 17 = .ok (.dup2, 1) := by decide +kernel
theorem d_Mod_takesOut_18 : decode M_Mod_takesOut.2.1 18 = .ok (.iaload, 1) := by decide +kernel
theorem d_Mod_takesOut_19 : decode M_Mod_takesOut.2.1 19 = .ok (.iconst 1, 1) := by decide +kernel
theorem d_Mod_takesOut_20 : decode M_Mod_takesOut.2.1 20 = .ok (.isub, 1) := by decide +kernel
theorem d_Mod_takesOut_21 : decode M_Mod_takesOut.2.1 21 = .ok (.iastore, 1) := by decide +kernel
theorem d_Mod_takesOut_22 : decode M_Mod_takesOut.2.1 22 = .ok (.iload_n 3, 1) := by decide +kernel
theorem d_Mod_takesOut_23 : decode M_Mod_takesOut.2.1 23 = .ok (.istore 4, 2) := by decide +kernel
theorem d_Mod_takesOut_25 : decode M_Mod_takesOut.2.1 25 = .ok (.iload 4, 2) := by decide +kernel
theorem d_Mod_takesOut_27 : decode M_Mod_takesOut.2.1 27 = .ok (.aload_n 0, 1) := by decide +kernel
theorem d_Mod_takesOut_28 : decode M_Mod_takesOut.2.1 28 = .ok (.getfield 52, 3) := by decide +kernel
theorem d_Mod_takesOut_31 : decode M_Mod_takesOut.2.1 31 = .ok (.iload_n 2, 1) := by decide +kernel
theorem d_Mod_takesOut_32 : decode M_Mod_takesOut.2.1 32 = .ok (.iaload, 1) := by decide +kernel
theorem d_Mod_takesOut_33 : decode M_Mod_takesOut.2.1 33 = .ok (.if_icmp .ge 35, 3) := by decide +kernel
theorem d_Mod_takesOut_36 : decode M_Mod_takesOut.2.1 36 = .ok (.aload_n 0, 1) := by decide +kernel
theorem d_Mod_takesOut_37 : decode M_Mod_takesOut.2.1 37 = .ok (.getfield 49, 3) := by decide +kernel
theorem d_Mod_takesOut_40 : decode M_Mod_takesOut.2.1 40 = .ok (.bipush 12, 2) := by decide +kernel
theorem d_Mod_takesOut_42 : decode M_Mod_takesOut.2.1 42 = .ok (.iload_n 2, 1) := by decide +kernel
theorem d_Mod_takesOut_43 : decode M_Mod_takesOut.2.1 43 = .ok (.imul, 1) := by decide +kernel
theorem d_Mod_takesOut_44 : decode M_Mod_takesOut.2.1 44 = .ok (.iload 4, 2) := by decide +kernel
theorem d_Mod_takesOut_46 : decode M_Mod_takesOut.2.1 46 = .ok (.iadd, 1) := by decide +kernel
theorem d_Mod_takesOut_47 : decode M_Mod_takesOut.2.1 47 = .ok (.aload_n 0, 1) := by decide +kernel
theorem d_Mod_takesOut_48 : decode M_Mod_takesOut.2.1 48 = .ok (.getfield 49, 3) := by decide +kernel
theorem d_Mod_takesOut_51 : decode M_Mod_takesOut.2.1 51 = .ok (.bipush 12, 2) := by decide +kernel
theorem d_Mod_takesOut_53 : decode M_Mod_takesOut.2.1 53 = .ok (.iload_n 2, 1) := by decide +kernel
theorem d_Mod_takesOut_54 : decode M_Mod_takesOut.2.1 54 = .ok (.imul, 1) := by decide +kernel
theorem d_Mod_takesOut_55 : decode M_Mod_takesOut.2.1 55 = .ok (.iload 4, 2) := by decide +kernel
theorem d_Mod_takesOut_57 : decode M_Mod_takesOut.2.1 57 = .ok (.iadd, 1) := by decide +kernel
theorem d_Mod_takesOut_58 : decode M_Mod_takesOut.2.1 58 = .ok (.iconst 1, 1) := by decide +kernel
theorem d_Mod_takesOut_59 : decode M_Mod_takesOut.2.1 59 = .ok (.iadd, 1) := by decide +kernel
theorem d_Mod_takesOut_60 : decode M_Mod_takesOut.2.1 60 = .ok (.iaload, 1) := by decide +kernel
theorem d_Mod_takesOut_61 : decode M_Mod_takesOut.2.1 61 = .ok (.iastore, 1) := by decide +kernel
theorem d_Mod_takesOut_62 : decode M_Mod_takesOut.2.1 62 = .ok (.iinc 4 1, 3) := by decide +kernel
theorem d_Mod_takesOut_65 : decode M_Mod_takesOut.2.1 65 = .ok (.goto (-40), 3) := by decide +kernel
theorem d_Mod_takesOut_68 : decode M_Mod_takesOut.2.1 68 = .ok (.return_, 1) := by decide +kernel
theorem d_Mod_where_0 : decode M_Mod_where.2.1 0 = .ok (.aload_n 0, 1) := by decide +kernel
theorem d_Mod_where_1 : decode M_Mod_where.2.1 1 = .ok (.getfield 89, 3) := by decide +kernel
theorem d_Mod_where_4 : decode M_Mod_where.2.1 4 = .ok (.ireturn, 1) := by decide +kernel
theorem d_Mod_put_0 : decode M_Mod_put.2.1 0 = .ok (.aload_n 0, 1) := by decide +kernel
theorem d_Mod_put_1 : decode M_Mod_put.2.1 1 = .ok (.iload_n 1, 1) := by decide +kernel
theorem d_Mod_put_2 : decode M_Mod_put.2.1 2 = .ok (.invokevirtual 148, 3) := by decide +kernel
theorem d_Mod_put_5 : decode M_Mod_put.2.1 5 = .ok (.ifCond .eq 27, 3) := by decide +kernel
theorem d_Mod_put_8 : decode M_Mod_put.2.1 8 = .ok (.aload_n 0, 1) := by decide +kernel
theorem d_Mod_put_9 : decode M_Mod_put.2.1 9 = .ok (.iload_n 2, 1) := by decide +kernel
theorem d_Mod_put_10 : decode M_Mod_put.2.1 10 = .ok (.invokevirtual 165, 3) := by decide +kernel
theorem d_Mod_put_13 : decode M_Mod_put.2.1 13 = .ok (.ifCond .eq 19, 3) := by decide +kernel
theorem d_Mod_put_16 : decode M_Mod_put.2.1 16 = .ok (.iload_n 3, 1) := by decide +kernel
theorem d_Mod_put_17 : decode M_Mod_put.2.1 17 = .ok (.i2l, 1) := by decide +kernel
theorem d_Mod_put_18 : decode M_Mod_put.2.1 18 = .ok (.lconst 0, 1) := by decide +kernel
theorem d_Mod_put_19 : decode M_Mod_put.2.1 19 = .ok (.aload_n 0, 1) := by decide +kernel
theorem d_Mod_put_20 : decode M_Mod_put.2.1 20 = .ok (.getfield 52, 3) := by decide +kernel
theorem d_Mod_put_23 : decode M_Mod_put.2.1 23 = .ok (.iload_n 2, 1) := by decide +kernel
theorem d_Mod_put_24 : decode M_Mod_put.2.1 24 = .ok (.iaload, 1) := by decide +kernel
theorem d_Mod_put_25 : decode M_Mod_put.2.1 25 = .ok (.i2l, 1) := by decide +kernel
theorem d_Mod_put_26 : decode M_Mod_put.2.1 26 = .ok (.invokestatic 122, 3) := by decide +kernel
theorem d_Mod_put_29 : decode M_Mod_put.2.1 29 = .ok (.ifCond .ne 10, 3) := by decide +kernel
theorem d_Mod_put_32 : decode M_Mod_put.2.1 32 = .ok (.aload_n 0, 1) := by decide +kernel
theorem d_Mod_put_33 : decode M_Mod_put.2.1 33 = .ok (.bipush (-3), 2) := by decide +kernel
theorem d_Mod_put_35 : decode M_Mod_put.2.1 35 = .ok (.invokevirtual 126, 3) := by decide +kernel
theorem d_Mod_put_38 : decode M_Mod_put.2.1 38 = .ok (.ireturn, 1) := by decide +kernel
theorem d_Mod_put_39 : decode M_Mod_put.2.1 39 = .ok (.aload_n 0, 1) := by decide +kernel
theorem d_Mod_put_40 : decode M_Mod_put.2.1 40 = .ok (.iload_n 1, 1) := by decide +kernel
theorem d_Mod_put_41 : decode M_Mod_put.2.1 41 = .ok (.invokevirtual 156, 3) := by decide +kernel
theorem d_Mod_put_44 : decode M_Mod_put.2.1 44 = .ok (.ifCond .lt 10, 3) := by decide +kernel
theorem d_Mod_put_47 : decode M_Mod_put.2.1 47 = .ok (.aload_n 0, 1) := by decide +kernel
theorem d_Mod_put_48 : decode M_Mod_put.2.1 48 = .ok (.bipush (-7), 2) := by decide +kernel
theorem d_Mod_put_50 : decode M_Mod_put.2.1 50 = .ok (.invokevirtual 126, 3) := by decide +kernel
theorem d_Mod_put_53 : decode M_Mod_put.2.1 53 = .ok (.ireturn, 1) := by decide +kernel
theorem d_Mod_put_54 : decode M_Mod_put.2.1 54 = .ok (.aload_n 0, 1) := by decide +kernel
theorem d_Mod_put_55 : decode M_Mod_put.2.1 55 = .ok (.aload_n 0, 1) := by decide +kernel
theorem d_Mod_put_56 : decode M_Mod_put.2.1 56 = .ok (.getfield 58, 3) := by decide +kernel
theorem d_Mod_put_59 : decode M_Mod_put.2.1 59 = .ok (.iconst 0, 1) := by decide +kernel
theorem d_Mod_put_60 : decode M_Mod_put.2.1 60 = .ok (.invokevirtual 231, 3) := by decide +kernel
theorem d_Mod_put_63 : decode M_Mod_put.2.1 63 = .ok (.aload_n 0, 1) := by decide +kernel
theorem d_Mod_put_64 : decode M_Mod_put.2.1 64 = .ok (.iload_n 1, 1) := by decide +kernel
theorem d_Mod_put_65 : decode M_Mod_put.2.1 65 = .ok (.iload_n 2, 1) := by decide +kernel
theorem d_Mod_put_66 : decode M_Mod_put.2.1 66 = .ok (.iload_n 3, 1) := by decide +kernel
theorem d_Mod_put_67 : decode M_Mod_put.2.1 67 = .ok (.invokevirtual 224, 3) := by decide +kernel
theorem d_Mod_put_70 : decode M_Mod_put.2.1 70 = .ok (.aload_n 0, 1) := by decide +kernel
theorem d_Mod_put_71 : decode M_Mod_put.2.1 71 = .ok (.invokevirtual 234, 3) := by decide +kernel
theorem d_Mod_put_74 : decode M_Mod_put.2.1 74 = .ok (.ireturn, 1) := by decide +kernel
theorem d_Mod_keeps_0 : decode M_Mod_keeps.2.1 0 = .ok (.iconst 0, 1) := by decide +kernel
theorem d_Mod_keeps_1 : decode M_Mod_keeps.2.1 1 = .ok (.istore_n 3, 1) := by decide +kernel
theorem d_Mod_keeps_2 : decode M_Mod_keeps.2.1 2 = .ok (.iload_n 3, 1) := by decide +kernel
theorem d_Mod_keeps_3 : decode M_Mod_keeps.2.1 3 = .ok (.bipush 36, 2) := by decide +kernel
theorem d_Mod_keeps_5 : decode M_Mod_keeps.2.1 5 = .ok (.if_icmp .ge 20, 3) := by decide +kernel
theorem d_Mod_keeps_8 : decode M_Mod_keeps.2.1 8 = .ok (.aload_n 1, 1) := by decide +kernel
theorem d_Mod_keeps_9 : decode M_Mod_keeps.2.1 9 = .ok (.iload_n 2, 1) := by decide +kernel
theorem d_Mod_keeps_10 : decode M_Mod_keeps.2.1 10 = .ok (.iload_n 3, 1) := by decide +kernel
theorem d_Mod_keeps_11 : decode M_Mod_keeps.2.1 11 = .ok (.iadd, 1) := by decide +kernel
theorem d_Mod_keeps_12 : decode M_Mod_keeps.2.1 12 = .ok (.aload_n 0, 1) := by decide +kernel
theorem d_Mod_keeps_13 : decode M_Mod_keeps.2.1 13 = .ok (.getfield 49, 3) := by decide +kernel
theorem d_Mod_keeps_16 : decode M_Mod_keeps.2.1 16 = .ok (.iload_n 3, 1) := by decide +kernel
theorem d_Mod_keeps_17 : decode M_Mod_keeps.2.1 17 = .ok (.iaload, 1) := by decide +kernel
theorem d_Mod_keeps_18 : decode M_Mod_keeps.2.1 18 = .ok (.iastore, 1) := by decide +kernel
theorem d_Mod_keeps_19 : decode M_Mod_keeps.2.1 19 = .ok (.iinc 3 1, 3) := by decide +kernel
theorem d_Mod_keeps_22 : decode M_Mod_keeps.2.1 22 = .ok (.goto (-20), 3) := by decide +kernel
theorem d_Mod_keeps_25 : decode M_Mod_keeps.2.1 25 = .ok (.iconst 0, 1) := by decide +kernel
theorem d_Mod_keeps_26 : decode M_Mod_keeps.2.1 26 = .ok (.istore_n 3, 1) := by decide +kernel
theorem d_Mod_keeps_27 : decode M_Mod_keeps.2.1 27 = .ok (.iload_n 3, 1) := by decide +kernel
theorem d_Mod_keeps_28 : decode M_Mod_keeps.2.1 28 = .ok (.iconst 3, 1) := by decide +kernel
theorem d_Mod_keeps_29 : decode M_Mod_keeps.2.1 29 = .ok (.if_icmp .ge 23, 3) := by decide +kernel
theorem d_Mod_keeps_32 : decode M_Mod_keeps.2.1 32 = .ok (.aload_n 1, 1) := by decide +kernel
theorem d_Mod_keeps_33 : decode M_Mod_keeps.2.1 33 = .ok (.iload_n 2, 1) := by decide +kernel
theorem d_Mod_keeps_34 : decode M_Mod_keeps.2.1 34 = .ok (.bipush 36, 2) := by decide +kernel
theorem d_Mod_keeps_36 : decode M_Mod_keeps.2.1 36 = .ok (.iadd, 1) := by decide +kernel
theorem d_Mod_keeps_37 : decode M_Mod_keeps.2.1 37 = .ok (.iload_n 3, 1) := by decide +kernel
theorem d_Mod_keeps_38 : decode M_Mod_keeps.2.1 38 = .ok (.iadd, 1) := by decide +kernel
theorem d_Mod_keeps_39 : decode M_Mod_keeps.2.1 39 = .ok (.aload_n 0, 1) := by decide +kernel
theorem d_Mod_keeps_40 : decode M_Mod_keeps.2.1 40 = .ok (.getfield 52, 3) := by decide +kernel
theorem d_Mod_keeps_43 : decode M_Mod_keeps.2.1 43 = .ok (.iload_n 3, 1) := by decide +kernel
theorem d_Mod_keeps_44 : decode M_Mod_keeps.2.1 44 = .ok (.iaload, 1) := by decide +kernel
theorem d_Mod_keeps_45 : decode M_Mod_keeps.2.1 45 = .ok (.iastore, 1) := by decide +kernel
theorem d_Mod_keeps_46 : decode M_Mod_keeps.2.1 46 = .ok (.iinc 3 1, 3) := by decide +kernel
theorem d_Mod_keeps_49 : decode M_Mod_keeps.2.1 49 = .ok (.goto (-22), 3) := by decide +kernel
theorem d_Mod_keeps_52 : decode M_Mod_keeps.2.1 52 = .ok (.return_, 1) := by decide +kernel
theorem d_Mod_settles_0 : decode M_Mod_settles.2.1 0 = .ok (.aload_n 0, 1) := by decide +kernel
theorem d_Mod_settles_1 : decode M_Mod_settles.2.1 1 = .ok (.invokevirtual 133, 3) := by decide +kernel
theorem d_Mod_settles_4 : decode M_Mod_settles.2.1 4 = .ok (.ifCond .ne 19, 3) := by decide +kernel
theorem d_Mod_settles_7 : decode M_Mod_settles.2.1 7 = .ok (.aload_n 0, 1) := by decide +kernel
theorem d_Mod_settles_8 : decode M_Mod_settles.2.1 8 = .ok (.aload_n 0, 1) := by decide +kernel
theorem d_Mod_settles_9 : decode M_Mod_settles.2.1 9 = .ok (.getfield 58, 3) := by decide +kernel
theorem d_Mod_settles_12 : decode M_Mod_settles.2.1 12 = .ok (.iconst 0, 1) := by decide +kernel
theorem d_Mod_settles_13 : decode M_Mod_settles.2.1 13 = .ok (.invokevirtual 217, 3) := by decide +kernel
theorem d_Mod_settles_16 : decode M_Mod_settles.2.1 16 = .ok (.aload_n 0, 1) := by decide +kernel
theorem d_Mod_settles_17 : decode M_Mod_settles.2.1 17 = .ok (.bipush (-7), 2) := by decide +kernel
theorem d_Mod_settles_19 : decode M_Mod_settles.2.1 19 = .ok (.invokevirtual 126, 3) := by decide +kernel
theorem d_Mod_settles_22 : decode M_Mod_settles.2.1 22 = .ok (.ireturn, 1) := by decide +kernel
theorem d_Mod_settles_23 : decode M_Mod_settles.2.1 23 = .ok (.aload_n 0, 1) := by decide +kernel
theorem d_Mod_settles_24 : decode M_Mod_settles.2.1 24 = .ok (.invokevirtual 221, 3) := by decide +kernel
theorem d_Mod_settles_27 : decode M_Mod_settles.2.1 27 = .ok (.aload_n 0, 1) := by decide +kernel
theorem d_Mod_settles_28 : decode M_Mod_settles.2.1 28 = .ok (.invokevirtual 209, 3) := by decide +kernel
theorem d_Mod_settles_31 : decode M_Mod_settles.2.1 31 = .ok (.ireturn, 1) := by decide +kernel
theorem d_Mod_takes_0 : decode M_Mod_takes.2.1 0 = .ok (.iconst 0, 1) := by decide +kernel
theorem d_Mod_takes_1 : decode M_Mod_takes.2.1 1 = .ok (.istore_n 3, 1) := by decide +kernel
theorem d_Mod_takes_2 : decode M_Mod_takes.2.1 2 = .ok (.iload_n 3, 1) := by decide +kernel
theorem d_Mod_takes_3 : decode M_Mod_takes.2.1 3 = .ok (.bipush 36, 2) := by decide +kernel
theorem d_Mod_takes_5 : decode M_Mod_takes.2.1 5 = .ok (.if_icmp .ge 20, 3) := by decide +kernel
theorem d_Mod_takes_8 : decode M_Mod_takes.2.1 8 = .ok (.aload_n 0, 1) := by decide +kernel
theorem d_Mod_takes_9 : decode M_Mod_takes.2.1 9 = .ok (.getfield 49, 3) := by decide +kernel
theorem d_Mod_takes_12 : decode M_Mod_takes.2.1 12 = .ok (.iload_n 3, 1) := by decide +kernel
theorem d_Mod_takes_13 : decode M_Mod_takes.2.1 13 = .ok (.aload_n 1, 1) := by decide +kernel
theorem d_Mod_takes_14 : decode M_Mod_takes.2.1 14 = .ok (.iload_n 2, 1) := by decide +kernel
theorem d_Mod_takes_15 : decode M_Mod_takes.2.1 15 = .ok (.iload_n 3, 1) := by decide +kernel
theorem d_Mod_takes_16 : decode M_Mod_takes.2.1 16 = .ok (.iadd, 1) := by decide +kernel
theorem d_Mod_takes_17 : decode M_Mod_takes.2.1 17 = .ok (.iaload, 1) := by decide +kernel
theorem d_Mod_takes_18 : decode M_Mod_takes.2.1 18 = .ok (.iastore, 1) := by decide +kernel
theorem d_Mod_takes_19 : decode M_Mod_takes.2.1 19 = .ok (.iinc 3 1, 3) := by decide +kernel
theorem d_Mod_takes_22 : decode M_Mod_takes.2.1 22 = .ok (.goto (-20), 3) := by decide +kernel
theorem d_Mod_takes_25 : decode M_Mod_takes.2.1 25 = .ok (.iconst 0, 1) := by decide +kernel
theorem d_Mod_takes_26 : decode M_Mod_takes.2.1 26 = .ok (.istore_n 3, 1) := by decide +kernel
theorem d_Mod_takes_27 : decode M_Mod_takes.2.1 27 = .ok (.iload_n 3, 1) := by decide +kernel
theorem d_Mod_takes_28 : decode M_Mod_takes.2.1 28 = .ok (.iconst 3, 1) := by decide +kernel
theorem d_Mod_takes_29 : decode M_Mod_takes.2.1 29 = .ok (.if_icmp .ge 23, 3) := by decide +kernel
theorem d_Mod_takes_32 : decode M_Mod_takes.2.1 32 = .ok (.aload_n 0, 1) := by decide +kernel
theorem d_Mod_takes_33 : decode M_Mod_takes.2.1 33 = .ok (.getfield 52, 3) := by decide +kernel
theorem d_Mod_takes_36 : decode M_Mod_takes.2.1 36 = .ok (.iload_n 3, 1) := by decide +kernel
theorem d_Mod_takes_37 : decode M_Mod_takes.2.1 37 = .ok (.aload_n 1, 1) := by decide +kernel
theorem d_Mod_takes_38 : decode M_Mod_takes.2.1 38 = .ok (.iload_n 2, 1) := by decide +kernel
theorem d_Mod_takes_39 : decode M_Mod_takes.2.1 39 = .ok (.bipush 36, 2) := by decide +kernel
theorem d_Mod_takes_41 : decode M_Mod_takes.2.1 41 = .ok (.iadd, 1) := by decide +kernel
theorem d_Mod_takes_42 : decode M_Mod_takes.2.1 42 = .ok (.iload_n 3, 1) := by decide +kernel
theorem d_Mod_takes_43 : decode M_Mod_takes.2.1 43 = .ok (.iadd, 1) := by decide +kernel
theorem d_Mod_takes_44 : decode M_Mod_takes.2.1 44 = .ok (.iaload, 1) := by decide +kernel
theorem d_Mod_takes_45 : decode M_Mod_takes.2.1 45 = .ok (.iastore, 1) := by decide +kernel
theorem d_Mod_takes_46 : decode M_Mod_takes.2.1 46 = .ok (.iinc 3 1, 3) := by decide +kernel
theorem d_Mod_takes_49 : decode M_Mod_takes.2.1 49 = .ok (.goto (-22), 3) := by decide +kernel
theorem d_Mod_takes_52 : decode M_Mod_takes.2.1 52 = .ok (.return_, 1) := by decide +kernel
theorem d_Mod_notes_0 : decode M_Mod_notes.2.1 0 = .ok (.aload_n 0, 1) := by decide +kernel
theorem d_Mod_notes_1 : decode M_Mod_notes.2.1 1 = .ok (.aload_n 0, 1) := by decide +kernel
theorem d_Mod_notes_2 : decode M_Mod_notes.2.1 2 = .ok (.getfield 58, 3) := by decide +kernel
theorem d_Mod_notes_5 : decode M_Mod_notes.2.1 5 = .ok (.iconst 0, 1) := by decide +kernel
theorem d_Mod_notes_6 : decode M_Mod_notes.2.1 6 = .ok (.invokevirtual 213, 3) := by decide +kernel
theorem d_Mod_notes_9 : decode M_Mod_notes.2.1 9 = .ok (.ifCond .eq 4, 3) := by decide +kernel
theorem d_Mod_notes_12 : decode M_Mod_notes.2.1 12 = .ok (.return_, 1) := by decide +kernel
theorem d_Mod_notes_13 : decode M_Mod_notes.2.1 13 = .ok (.aload_n 0, 1) := by decide +kernel
theorem d_Mod_notes_14 : decode M_Mod_notes.2.1 14 = .ok (.getfield 137, 3) := by decide +kernel
theorem d_Mod_notes_17 : decode M_Mod_notes.2.1 17 = .ok (.bipush 20, 2) := by decide +kernel
theorem d_Mod_notes_19 : decode M_Mod_notes.2.1 19 = .ok (.if_icmp .ne 43, 3) := by decide +kernel
theorem d_Mod_notes_22 : decode M_Mod_notes.2.1 22 = .ok (.iconst 0, 1) := by decide +kernel
theorem d_Mod_notes_23 : decode M_Mod_notes.2.1 23 = .ok (.istore_n 1, 1) := by decide +kernel
theorem d_Mod_notes_24 : decode M_Mod_notes.2.1 24 = .ok (.iload_n 1, 1) := by decide +kernel
theorem d_Mod_notes_25 : decode M_Mod_notes.2.1 25 = .ok (.sipush 741, 3) := by decide +kernel
theorem d_Mod_notes_28 : decode M_Mod_notes.2.1 28 = .ok (.if_icmp .ge 24, 3) := by decide +kernel
theorem d_Mod_notes_31 : decode M_Mod_notes.2.1 31 = .ok (.aload_n 0, 1) := by decide +kernel
theorem d_Mod_notes_32 : decode M_Mod_notes.2.1 32 = .ok (.getfield 55, 3) := by decide +kernel
theorem d_Mod_notes_35 : decode M_Mod_notes.2.1 35 = .ok (.iload_n 1, 1) := by decide +kernel
theorem d_Mod_notes_36 : decode M_Mod_notes.2.1 36 = .ok (.aload_n 0, 1) := by decide +kernel
theorem d_Mod_notes_37 : decode M_Mod_notes.2.1 37 = .ok (.getfield 55, 3) := by decide +kernel
theorem d_Mod_notes_40 : decode M_Mod_notes.2.1 40 = .ok (.iload_n 1, 1) := by decide +kernel
theorem d_Mod_notes_41 : decode M_Mod_notes.2.1 41 = .ok (.bipush 39, 2) := by decide +kernel
theorem d_Mod_notes_43 : decode M_Mod_notes.2.1 43 = .ok (.iadd, 1) := by decide +kernel
theorem d_Mod_notes_44 : decode M_Mod_notes.2.1 44 = .ok (.iaload, 1) := by decide +kernel
theorem d_Mod_notes_45 : decode M_Mod_notes.2.1 45 = .ok (.iastore, 1) := by decide +kernel
theorem d_Mod_notes_46 : decode M_Mod_notes.2.1 46 = .ok (.iinc 1 1, 3) := by decide +kernel
theorem d_Mod_notes_49 : decode M_Mod_notes.2.1 49 = .ok (.goto (-25), 3) := by decide +kernel
theorem d_Mod_notes_52 : decode M_Mod_notes.2.1 52 = .ok (.aload_n 0, 1) := by decide +kernel
theorem d_Mod_notes_53 : decode M_Mod_notes.2.1 53 = .ok (.dup, 1) := by decide +kernel
theorem d_Mod_notes_54 : decode M_Mod_notes.2.1 54 = .ok (.getfield 137, 3) := by decide +kernel
theorem d_Mod_notes_57 : decode M_Mod_notes.2.1 57 = .ok (.iconst 1, 1) := by decide +kernel
theorem d_Mod_notes_58 : decode M_Mod_notes.2.1 58 = .ok (.isub, 1) := by decide +kernel
theorem d_Mod_notes_59 : decode M_Mod_notes.2.1 59 = .ok (.putfield 137, 3) := by decide +kernel
theorem d_Mod_notes_62 : decode M_Mod_notes.2.1 62 = .ok (.iconst 0, 1) := by decide +kernel
theorem d_Mod_notes_63 : decode M_Mod_notes.2.1 63 = .ok (.istore_n 1, 1) := by decide +kernel
theorem d_Mod_notes_64 : decode M_Mod_notes.2.1 64 = .ok (.iload_n 1, 1) := by decide +kernel
theorem d_Mod_notes_65 : decode M_Mod_notes.2.1 65 = .ok (.bipush 39, 2) := by decide +kernel
theorem d_Mod_notes_67 : decode M_Mod_notes.2.1 67 = .ok (.if_icmp .ge 29, 3) := by decide +kernel
theorem d_Mod_notes_70 : decode M_Mod_notes.2.1 70 = .ok (.aload_n 0, 1) := by decide +kernel
theorem d_Mod_notes_71 : decode M_Mod_notes.2.1 71 = .ok (.getfield 55, 3) := by decide +kernel
theorem d_Mod_notes_74 : decode M_Mod_notes.2.1 74 = .ok (.bipush 39, 2) := by decide +kernel
theorem d_Mod_notes_76 : decode M_Mod_notes.2.1 76 = .ok (.aload_n 0, 1) := by decide +kernel
theorem d_Mod_notes_77 : decode M_Mod_notes.2.1 77 = .ok (.getfield 137, 3) := by decide +kernel
theorem d_Mod_notes_80 : decode M_Mod_notes.2.1 80 = .ok (.imul, 1) := by decide +kernel
theorem d_Mod_notes_81 : decode M_Mod_notes.2.1 81 = .ok (.iload_n 1, 1) := by decide +kernel
theorem d_Mod_notes_82 : decode M_Mod_notes.2.1 82 = .ok (.iadd, 1) := by decide +kernel
theorem d_Mod_notes_83 : decode M_Mod_notes.2.1 83 = .ok (.aload_n 0, 1) := by decide +kernel
theorem d_Mod_notes_84 : decode M_Mod_notes.2.1 84 = .ok (.getfield 58, 3) := by decide +kernel
theorem d_Mod_notes_87 : decode M_Mod_notes.2.1 87 = .ok (.iload_n 1, 1) := by decide +kernel
theorem d_Mod_notes_88 : decode M_Mod_notes.2.1 88 = .ok (.iaload, 1) := by decide +kernel
theorem d_Mod_notes_89 : decode M_Mod_notes.2.1 89 = .ok (.iastore, 1) := by decide +kernel
theorem d_Mod_notes_90 : decode M_Mod_notes.2.1 90 = .ok (.iinc 1 1, 3) := by decide +kernel
theorem d_Mod_notes_93 : decode M_Mod_notes.2.1 93 = .ok (.goto (-29), 3) := by decide +kernel
theorem d_Mod_notes_96 : decode M_Mod_notes.2.1 96 = .ok (.aload_n 0, 1) := by decide +kernel
theorem d_Mod_notes_97 : decode M_Mod_notes.2.1 97 = .ok (.dup, 1) := by decide +kernel
theorem d_Mod_notes_98 : decode M_Mod_notes.2.1 98 = .ok (.getfield 137, 3) := by decide +kernel
theorem d_Mod_notes_101 : decode M_Mod_notes.2.1 101 = .ok (.iconst 1, 1) := by decide +kernel
theorem d_Mod_notes_102 : decode M_Mod_notes.2.1 102 = .ok (.iadd, 1) := by decide +kernel
theorem d_Mod_notes_103 : decode M_Mod_notes.2.1 103 = .ok (.putfield 137, 3) := by decide +kernel
theorem d_Mod_notes_106 : decode M_Mod_notes.2.1 106 = .ok (.return_, 1) := by decide +kernel
theorem d_Mod_isAs_0 : decode M_Mod_isAs.2.1 0 = .ok (.iconst 1, 1) := by decide +kernel
theorem d_Mod_isAs_1 : decode M_Mod_isAs.2.1 1 = .ok (.istore_n 3, 1) := by decide +kernel
theorem d_Mod_isAs_2 : decode M_Mod_isAs.2.1 2 = .ok (.iconst 0, 1) := by decide +kernel
theorem d_Mod_isAs_3 : decode M_Mod_isAs.2.1 3 = .ok (.istore 4, 2) := by decide +kernel
theorem d_Mod_isAs_5 : decode M_Mod_isAs.2.1 5 = .ok (.iload 4, 2) := by decide +kernel
theorem d_Mod_isAs_7 : decode M_Mod_isAs.2.1 7 = .ok (.iconst 3, 1) := by decide +kernel
theorem d_Mod_isAs_8 : decode M_Mod_isAs.2.1 8 = .ok (.if_icmp .ge 97, 3) := by decide +kernel
theorem d_Mod_isAs_11 : decode M_Mod_isAs.2.1 11 = .ok (.iload_n 3, 1) := by decide +kernel
theorem d_Mod_isAs_12 : decode M_Mod_isAs.2.1 12 = .ok (.ifCond .eq 26, 3) := by decide +kernel
theorem d_Mod_isAs_15 : decode M_Mod_isAs.2.1 15 = .ok (.aload_n 1, 1) := by decide +kernel
theorem d_Mod_isAs_16 : decode M_Mod_isAs.2.1 16 = .ok (.iload_n 2, 1) := by decide +kernel
theorem d_Mod_isAs_17 : decode M_Mod_isAs.2.1 17 = .ok (.bipush 36, 2) := by decide +kernel
theorem d_Mod_isAs_19 : decode M_Mod_isAs.2.1 19 = .ok (.iadd, 1) := by decide +kernel
theorem d_Mod_isAs_20 : decode M_Mod_isAs.2.1 20 = .ok (.iload 4, 2) := by decide +kernel
theorem d_Mod_isAs_22 : decode M_Mod_isAs.2.1 22 = .ok (.iadd, 1) := by decide +kernel
theorem d_Mod_isAs_23 : decode M_Mod_isAs.2.1 23 = .ok (.iaload, 1) := by decide +kernel
theorem d_Mod_isAs_24 : decode M_Mod_isAs.2.1 24 = .ok (.aload_n 0, 1) := by decide +kernel
theorem d_Mod_isAs_25 : decode M_Mod_isAs.2.1 25 = .ok (.getfield 52, 3) := by decide +kernel
theorem d_Mod_isAs_28 : decode M_Mod_isAs.2.1 28 = .ok (.iload 4, 2) := by decide +kernel
theorem d_Mod_isAs_30 : decode M_Mod_isAs.2.1 30 = .ok (.iaload, 1) := by decide +kernel
theorem d_Mod_isAs_31 : decode M_Mod_isAs.2.1 31 = .ok (.if_icmp .ne 7, 3) := by decide +kernel
theorem d_Mod_isAs_34 : decode M_Mod_isAs.2.1 34 = .ok (.iconst 1, 1) := by decide +kernel
theorem d_Mod_isAs_35 : decode M_Mod_isAs.2.1 35 = .ok (.goto 4, 3) := by decide +kernel
theorem d_Mod_isAs_38 : decode M_Mod_isAs.2.1 38 = .ok (.iconst 0, 1) := by decide +kernel
theorem d_Mod_isAs_39 : decode M_Mod_isAs.2.1 39 = .ok (.istore_n 3, 1) := by decide +kernel
theorem d_Mod_isAs_40 : decode M_Mod_isAs.2.1 40 = .ok (.iconst 0, 1) := by decide +kernel
theorem d_Mod_isAs_41 : decode M_Mod_isAs.2.1 41 = .ok (.istore 5, 2) := by decide +kernel
theorem d_Mod_isAs_43 : decode M_Mod_isAs.2.1 43 = .ok (.iload 5, 2) := by decide +kernel
theorem d_Mod_isAs_45 : decode M_Mod_isAs.2.1 45 = .ok (.aload_n 0, 1) := by decide +kernel
theorem d_Mod_isAs_46 : decode M_Mod_isAs.2.1 46 = .ok (.getfield 52, 3) := by decide +kernel
theorem d_Mod_isAs_49 : decode M_Mod_isAs.2.1 49 = .ok (.iload 4, 2) := by decide +kernel
theorem d_Mod_isAs_51 : decode M_Mod_isAs.2.1 51 = .ok (.iaload, 1) := by decide +kernel
theorem d_Mod_isAs_52 : decode M_Mod_isAs.2.1 52 = .ok (.if_icmp .ge 47, 3) := by decide +kernel
theorem d_Mod_isAs_55 : decode M_Mod_isAs.2.1 55 = .ok (.iload_n 3, 1) := by decide +kernel
theorem d_Mod_isAs_56 : decode M_Mod_isAs.2.1 56 = .ok (.ifCond .eq 35, 3) := by decide +kernel
theorem d_Mod_isAs_59 : decode M_Mod_isAs.2.1 59 = .ok (.aload_n 1, 1) := by decide +kernel
theorem d_Mod_isAs_60 : decode M_Mod_isAs.2.1 60 = .ok (.iload_n 2, 1) := by decide +kernel
theorem d_Mod_isAs_61 : decode M_Mod_isAs.2.1 61 = .ok (.bipush 12, 2) := by decide +kernel
theorem d_Mod_isAs_63 : decode M_Mod_isAs.2.1 63 = .ok (.iload 4, 2) := by decide +kernel
theorem d_Mod_isAs_65 : decode M_Mod_isAs.2.1 65 = .ok (.imul, 1) := by decide +kernel
theorem d_Mod_isAs_66 : decode M_Mod_isAs.2.1 66 = .ok (.iadd, 1) := by decide +kernel
theorem d_Mod_isAs_67 : decode M_Mod_isAs.2.1 67 = .ok (.iload 5, 2) := by decide +kernel
theorem d_Mod_isAs_69 : decode M_Mod_isAs.2.1 69 = .ok (.iadd, 1) := by decide +kernel
theorem d_Mod_isAs_70 : decode M_Mod_isAs.2.1 70 = .ok (.iaload, 1) := by decide +kernel
theorem d_Mod_isAs_71 : decode M_Mod_isAs.2.1 71 = .ok (.aload_n 0, 1) := by decide +kernel
theorem d_Mod_isAs_72 : decode M_Mod_isAs.2.1 72 = .ok (.getfield 49, 3) := by decide +kernel
theorem d_Mod_isAs_75 : decode M_Mod_isAs.2.1 75 = .ok (.bipush 12, 2) := by decide +kernel
theorem d_Mod_isAs_77 : decode M_Mod_isAs.2.1 77 = .ok (.iload 4, 2) := by decide +kernel
theorem d_Mod_isAs_79 : decode M_Mod_isAs.2.1 79 = .ok (.imul, 1) := by decide +kernel
theorem d_Mod_isAs_80 : decode M_Mod_isAs.2.1 80 = .ok (.iload 5, 2) := by decide +kernel
theorem d_Mod_isAs_82 : decode M_Mod_isAs.2.1 82 = .ok (.iadd, 1) := by decide +kernel
theorem d_Mod_isAs_83 : decode M_Mod_isAs.2.1 83 = .ok (.iaload, 1) := by decide +kernel
theorem d_Mod_isAs_84 : decode M_Mod_isAs.2.1 84 = .ok (.if_icmp .ne 7, 3) := by decide +kernel
theorem d_Mod_isAs_87 : decode M_Mod_isAs.2.1 87 = .ok (.iconst 1, 1) := by decide +kernel
theorem d_Mod_isAs_88 : decode M_Mod_isAs.2.1 88 = .ok (.goto 4, 3) := by decide +kernel
theorem d_Mod_isAs_91 : decode M_Mod_isAs.2.1 91 = .ok (.iconst 0, 1) := by decide +kernel
theorem d_Mod_isAs_92 : decode M_Mod_isAs.2.1 92 = .ok (.istore_n 3, 1) := by decide +kernel
theorem d_Mod_isAs_93 : decode M_Mod_isAs.2.1 93 = .ok (.iinc 5 1, 3) := by decide +kernel
theorem d_Mod_isAs_96 : decode M_Mod_isAs.2.1 96 = .ok (.goto (-53), 3) := by decide +kernel
theorem d_Mod_isAs_99 : decode M_Mod_isAs.2.1 99 = .ok (.iinc 4 1, 3) := by decide +kernel
theorem d_Mod_isAs_102 : decode M_Mod_isAs.2.1 102 = .ok (.goto (-97), 3) := by decide +kernel
theorem d_Mod_isAs_105 : decode M_Mod_isAs.2.1 105 = .ok (.iload_n 3, 1) := by decide +kernel
theorem d_Mod_isAs_106 : decode M_Mod_isAs.2.1 106 = .ok (.ireturn, 1) := by decide +kernel
theorem d_Mod_pair_0 : decode M_Mod_pair.2.1 0 = .ok (.aload_n 0, 1) := by decide +kernel
theorem d_Mod_pair_1 : decode M_Mod_pair.2.1 1 = .ok (.iload_n 1, 1) := by decide +kernel
theorem d_Mod_pair_2 : decode M_Mod_pair.2.1 2 = .ok (.invokevirtual 148, 3) := by decide +kernel
theorem d_Mod_pair_5 : decode M_Mod_pair.2.1 5 = .ok (.ifCond .eq 11, 3) := by decide +kernel
theorem d_Mod_pair_8 : decode M_Mod_pair.2.1 8 = .ok (.aload_n 0, 1) := by decide +kernel
theorem d_Mod_pair_9 : decode M_Mod_pair.2.1 9 = .ok (.iload_n 2, 1) := by decide +kernel
theorem d_Mod_pair_10 : decode M_Mod_pair.2.1 10 = .ok (.invokevirtual 165, 3) := by decide +kernel
theorem d_Mod_pair_13 : decode M_Mod_pair.2.1 13 = .ok (.ifCond .ne 10, 3) := by decide +kernel
theorem d_Mod_pair_16 : decode M_Mod_pair.2.1 16 = .ok (.aload_n 0, 1) := by decide +kernel
theorem d_Mod_pair_17 : decode M_Mod_pair.2.1 17 = .ok (.bipush (-3), 2) := by decide +kernel
theorem d_Mod_pair_19 : decode M_Mod_pair.2.1 19 = .ok (.invokevirtual 126, 3) := by decide +kernel
theorem d_Mod_pair_22 : decode M_Mod_pair.2.1 22 = .ok (.ireturn, 1) := by decide +kernel
theorem d_Mod_pair_23 : decode M_Mod_pair.2.1 23 = .ok (.aload_n 0, 1) := by decide +kernel
theorem d_Mod_pair_24 : decode M_Mod_pair.2.1 24 = .ok (.getfield 13, 3) := by decide +kernel
theorem d_Mod_pair_27 : decode M_Mod_pair.2.1 27 = .ok (.iload_n 1, 1) := by decide +kernel
theorem d_Mod_pair_28 : decode M_Mod_pair.2.1 28 = .ok (.iaload, 1) := by decide +kernel
theorem d_Mod_pair_29 : decode M_Mod_pair.2.1 29 = .ok (.iconst 1, 1) := by decide +kernel
theorem d_Mod_pair_30 : decode M_Mod_pair.2.1 30 = .ok (.if_icmp .eq 10, 3) := by decide +kernel
theorem d_Mod_pair_33 : decode M_Mod_pair.2.1 33 = .ok (.aload_n 0, 1) := by decide +kernel
theorem d_Mod_pair_34 : decode M_Mod_pair.2.1 34 = .ok (.bipush (-5), 2) := by decide +kernel
theorem d_Mod_pair_36 : decode M_Mod_pair.2.1 36 = .ok (.invokevirtual 126, 3) := by decide +kernel
theorem d_Mod_pair_39 : decode M_Mod_pair.2.1 39 = .ok (.ireturn, 1) := by decide +kernel
theorem d_Mod_pair_40 : decode M_Mod_pair.2.1 40 = .ok (.aload_n 0, 1) := by decide +kernel
theorem d_Mod_pair_41 : decode M_Mod_pair.2.1 41 = .ok (.getfield 31, 3) := by decide +kernel
theorem d_Mod_pair_44 : decode M_Mod_pair.2.1 44 = .ok (.iload_n 1, 1) := by decide +kernel
theorem d_Mod_pair_45 : decode M_Mod_pair.2.1 45 = .ok (.iaload, 1) := by decide +kernel
theorem d_Mod_pair_46 : decode M_Mod_pair.2.1 46 = .ok (.ifCond .ge 10, 3) := by decide +kernel
theorem d_Mod_pair_49 : decode M_Mod_pair.2.1 49 = .ok (.aload_n 0, 1) := by decide +kernel
theorem d_Mod_pair_50 : decode M_Mod_pair.2.1 50 = .ok (.bipush (-2), 2) := by decide +kernel
theorem d_Mod_pair_52 : decode M_Mod_pair.2.1 52 = .ok (.invokevirtual 126, 3) := by decide +kernel
theorem d_Mod_pair_55 : decode M_Mod_pair.2.1 55 = .ok (.ireturn, 1) := by decide +kernel
theorem d_Mod_pair_56 : decode M_Mod_pair.2.1 56 = .ok (.iload_n 3, 1) := by decide +kernel
theorem d_Mod_pair_57 : decode M_Mod_pair.2.1 57 = .ok (.i2l, 1) := by decide +kernel
theorem d_Mod_pair_58 : decode M_Mod_pair.2.1 58 = .ok (.lconst 0, 1) := by decide +kernel
theorem d_Mod_pair_59 : decode M_Mod_pair.2.1 59 = .ok (.aload_n 0, 1) := by decide +kernel
theorem d_Mod_pair_60 : decode M_Mod_pair.2.1 60 = .ok (.getfield 52, 3) := by decide +kernel
theorem d_Mod_pair_63 : decode M_Mod_pair.2.1 63 = .ok (.iload_n 2, 1) := by decide +kernel
theorem d_Mod_pair_64 : decode M_Mod_pair.2.1 64 = .ok (.iaload, 1) := by decide +kernel
theorem d_Mod_pair_65 : decode M_Mod_pair.2.1 65 = .ok (.i2l, 1) := by decide +kernel
theorem d_Mod_pair_66 : decode M_Mod_pair.2.1 66 = .ok (.invokestatic 122, 3) := by decide +kernel
theorem d_Mod_pair_69 : decode M_Mod_pair.2.1 69 = .ok (.ifCond .eq 22, 3) := by decide +kernel
theorem d_Mod_pair_72 : decode M_Mod_pair.2.1 72 = .ok (.iload 4, 2) := by decide +kernel
theorem d_Mod_pair_74 : decode M_Mod_pair.2.1 74 = .ok (.i2l, 1) := by decide +kernel
theorem d_Mod_pair_75 : decode M_Mod_pair.2.1 75 = .ok (.lconst 0, 1) := by decide +kernel
theorem d_Mod_pair_76 : decode M_Mod_pair.2.1 76 = .ok (.aload_n 0, 1) := by decide +kernel
theorem d_Mod_pair_77 : decode M_Mod_pair.2.1 77 = .ok (.getfield 52, 3) := by decide +kernel
theorem d_Mod_pair_80 : decode M_Mod_pair.2.1 80 = .ok (.iload_n 2, 1) := by decide +kernel
theorem d_Mod_pair_81 : decode M_Mod_pair.2.1 81 = .ok (.iaload, 1) := by decide +kernel
theorem d_Mod_pair_82 : decode M_Mod_pair.2.1 82 = .ok (.iconst 1, 1) := by decide +kernel
theorem d_Mod_pair_83 : decode M_Mod_pair.2.1 83 = .ok (.iadd, 1) := by decide +kernel
theorem d_Mod_pair_84 : decode M_Mod_pair.2.1 84 = .ok (.i2l, 1) := by decide +kernel
theorem d_Mod_pair_85 : decode M_Mod_pair.2.1 85 = .ok (.invokestatic 122, 3) := by decide +kernel
theorem d_Mod_pair_88 : decode M_Mod_pair.2.1 88 = .ok (.ifCond .ne 10, 3) := by decide +kernel
theorem d_Mod_pair_91 : decode M_Mod_pair.2.1 91 = .ok (.aload_n 0, 1) := by decide +kernel
theorem d_Mod_pair_92 : decode M_Mod_pair.2.1 92 = .ok (.bipush (-3), 2) := by decide +kernel
theorem d_Mod_pair_94 : decode M_Mod_pair.2.1 94 = .ok (.invokevirtual 126, 3) := by decide +kernel
theorem d_Mod_pair_97 : decode M_Mod_pair.2.1 97 = .ok (.ireturn, 1) := by decide +kernel
theorem d_Mod_pair_98 : decode M_Mod_pair.2.1 98 = .ok (.aload_n 0, 1) := by decide +kernel
theorem d_Mod_pair_99 : decode M_Mod_pair.2.1 99 = .ok (.iload_n 1, 1) := by decide +kernel
theorem d_Mod_pair_100 : decode M_Mod_pair.2.1 100 = .ok (.invokevirtual 156, 3) := by decide +kernel
theorem d_Mod_pair_103 : decode M_Mod_pair.2.1 103 = .ok (.ifCond .ge 16, 3) := by decide +kernel
theorem d_Mod_pair_106 : decode M_Mod_pair.2.1 106 = .ok (.aload_n 0, 1) := by decide +kernel
theorem d_Mod_pair_107 : decode M_Mod_pair.2.1 107 = .ok (.aload_n 0, 1) := by decide +kernel
theorem d_Mod_pair_108 : decode M_Mod_pair.2.1 108 = .ok (.getfield 31, 3) := by decide +kernel
theorem d_Mod_pair_111 : decode M_Mod_pair.2.1 111 = .ok (.iload_n 1, 1) := by decide +kernel
theorem d_Mod_pair_112 : decode M_Mod_pair.2.1 112 = .ok (.iaload, 1) := by decide +kernel
theorem d_Mod_pair_113 : decode M_Mod_pair.2.1 113 = .ok (.invokevirtual 156, 3) := by decide +kernel
theorem d_Mod_pair_116 : decode M_Mod_pair.2.1 116 = .ok (.ifCond .lt 10, 3) := by decide +kernel
theorem d_Mod_pair_119 : decode M_Mod_pair.2.1 119 = .ok (.aload_n 0, 1) := by decide +kernel
theorem d_Mod_pair_120 : decode M_Mod_pair.2.1 120 = .ok (.bipush (-7), 2) := by decide +kernel
theorem d_Mod_pair_122 : decode M_Mod_pair.2.1 122 = .ok (.invokevirtual 126, 3) := by decide +kernel
theorem d_Mod_pair_125 : decode M_Mod_pair.2.1 125 = .ok (.ireturn, 1) := by decide +kernel
theorem d_Mod_pair_126 : decode M_Mod_pair.2.1 126 = .ok (.aload_n 0, 1) := by decide +kernel
theorem d_Mod_pair_127 : decode M_Mod_pair.2.1 127 = .ok (.aload_n 0, 1) := by decide +kernel
theorem d_Mod_pair_128 : decode M_Mod_pair.2.1 128 = .ok (.getfield 58, 3) := by decide +kernel
theorem d_Mod_pair_131 : decode M_Mod_pair.2.1 131 = .ok (.iconst 0, 1) := by decide +kernel
theorem d_Mod_pair_132 : decode M_Mod_pair.2.1 132 = .ok (.invokevirtual 231, 3) := by decide +kernel
theorem d_Mod_pair_135 : decode M_Mod_pair.2.1 135 = .ok (.aload_n 0, 1) := by decide +kernel
theorem d_Mod_pair_136 : decode M_Mod_pair.2.1 136 = .ok (.iload_n 1, 1) := by decide +kernel
theorem d_Mod_pair_137 : decode M_Mod_pair.2.1 137 = .ok (.iload_n 2, 1) := by decide +kernel
theorem d_Mod_pair_138 : decode M_Mod_pair.2.1 138 = .ok (.iload_n 3, 1) := by decide +kernel
theorem d_Mod_pair_139 : decode M_Mod_pair.2.1 139 = .ok (.invokevirtual 224, 3) := by decide +kernel
theorem d_Mod_pair_142 : decode M_Mod_pair.2.1 142 = .ok (.aload_n 0, 1) := by decide +kernel
theorem d_Mod_pair_143 : decode M_Mod_pair.2.1 143 = .ok (.aload_n 0, 1) := by decide +kernel
theorem d_Mod_pair_144 : decode M_Mod_pair.2.1 144 = .ok (.getfield 31, 3) := by decide +kernel
theorem d_Mod_pair_147 : decode M_Mod_pair.2.1 147 = .ok (.iload_n 1, 1) := by decide +kernel
theorem d_Mod_pair_148 : decode M_Mod_pair.2.1 148 = .ok (.iaload, 1) := by decide +kernel
theorem d_Mod_pair_149 : decode M_Mod_pair.2.1 149 = .ok (.iload_n 2, 1) := by decide +kernel
theorem d_Mod_pair_150 : decode M_Mod_pair.2.1 150 = .ok (.iload 4, 2) := by decide +kernel
theorem d_Mod_pair_152 : decode M_Mod_pair.2.1 152 = .ok (.invokevirtual 224, 3) := by decide +kernel
theorem d_Mod_pair_155 : decode M_Mod_pair.2.1 155 = .ok (.aload_n 0, 1) := by decide +kernel
theorem d_Mod_pair_156 : decode M_Mod_pair.2.1 156 = .ok (.invokevirtual 234, 3) := by decide +kernel
theorem d_Mod_pair_159 : decode M_Mod_pair.2.1 159 = .ok (.ireturn, 1) := by decide +kernel
theorem d_Mod_take_0 : decode M_Mod_take.2.1 0 = .ok (.aload_n 0, 1) := by decide +kernel
theorem d_Mod_take_1 : decode M_Mod_take.2.1 1 = .ok (.iload_n 1, 1) := by decide +kernel
theorem d_Mod_take_2 : decode M_Mod_take.2.1 2 = .ok (.invokevirtual 148, 3) := by decide +kernel
theorem d_Mod_take_5 : decode M_Mod_take.2.1 5 = .ok (.ifCond .ne 10, 3) := by decide +kernel
theorem d_Mod_take_8 : decode M_Mod_take.2.1 8 = .ok (.aload_n 0, 1) := by decide +kernel
theorem d_Mod_take_9 : decode M_Mod_take.2.1 9 = .ok (.bipush (-3), 2) := by decide +kernel
theorem d_Mod_take_11 : decode M_Mod_take.2.1 11 = .ok (.invokevirtual 126, 3) := by decide +kernel
theorem d_Mod_take_14 : decode M_Mod_take.2.1 14 = .ok (.ireturn, 1) := by decide +kernel
theorem d_Mod_take_15 : decode M_Mod_take.2.1 15 = .ok (.aload_n 0, 1) := by decide +kernel
theorem d_Mod_take_16 : decode M_Mod_take.2.1 16 = .ok (.iload_n 1, 1) := by decide +kernel
theorem d_Mod_take_17 : decode M_Mod_take.2.1 17 = .ok (.invokevirtual 156, 3) := by decide +kernel
theorem d_Mod_take_20 : decode M_Mod_take.2.1 20 = .ok (.ifCond .ge 10, 3) := by decide +kernel
theorem d_Mod_take_23 : decode M_Mod_take.2.1 23 = .ok (.aload_n 0, 1) := by decide +kernel
theorem d_Mod_take_24 : decode M_Mod_take.2.1 24 = .ok (.bipush (-7), 2) := by decide +kernel
theorem d_Mod_take_26 : decode M_Mod_take.2.1 26 = .ok (.invokevirtual 126, 3) := by decide +kernel
theorem d_Mod_take_29 : decode M_Mod_take.2.1 29 = .ok (.ireturn, 1) := by decide +kernel
theorem d_Mod_take_30 : decode M_Mod_take.2.1 30 = .ok (.aload_n 0, 1) := by decide +kernel
theorem d_Mod_take_31 : decode M_Mod_take.2.1 31 = .ok (.aload_n 0, 1) := by decide +kernel
theorem d_Mod_take_32 : decode M_Mod_take.2.1 32 = .ok (.getfield 58, 3) := by decide +kernel
theorem d_Mod_take_35 : decode M_Mod_take.2.1 35 = .ok (.iconst 0, 1) := by decide +kernel
theorem d_Mod_take_36 : decode M_Mod_take.2.1 36 = .ok (.invokevirtual 231, 3) := by decide +kernel
theorem d_Mod_take_39 : decode M_Mod_take.2.1 39 = .ok (.aload_n 0, 1) := by decide +kernel
theorem d_Mod_take_40 : decode M_Mod_take.2.1 40 = .ok (.iload_n 1, 1) := by decide +kernel
theorem d_Mod_take_41 : decode M_Mod_take.2.1 41 = .ok (.invokevirtual 228, 3) := by decide +kernel
theorem d_Mod_take_44 : decode M_Mod_take.2.1 44 = .ok (.aload_n 0, 1) := by decide +kernel
theorem d_Mod_take_45 : decode M_Mod_take.2.1 45 = .ok (.getfield 31, 3) := by decide +kernel
theorem d_Mod_take_48 : decode M_Mod_take.2.1 48 = .ok (.iload_n 1, 1) := by decide +kernel
theorem d_Mod_take_49 : decode M_Mod_take.2.1 49 = .ok (.iaload, 1) := by decide +kernel
theorem d_Mod_take_50 : decode M_Mod_take.2.1 50 = .ok (.ifCond .lt 13, 3) := by decide +kernel
theorem d_Mod_take_53 : decode M_Mod_take.2.1 53 = .ok (.aload_n 0, 1) := by decide +kernel
theorem d_Mod_take_54 : decode M_Mod_take.2.1 54 = .ok (.aload_n 0, 1) := by decide +kernel
theorem d_Mod_take_55 : decode M_Mod_take.2.1 55 = .ok (.getfield 31, 3) := by decide +kernel
theorem d_Mod_take_58 : decode M_Mod_take.2.1 58 = .ok (.iload_n 1, 1) := by decide +kernel
theorem d_Mod_take_59 : decode M_Mod_take.2.1 59 = .ok (.iaload, 1) := by decide +kernel
theorem d_Mod_take_60 : decode M_Mod_take.2.1 60 = .ok (.invokevirtual 228, 3) := by decide +kernel
theorem d_Mod_take_63 : decode M_Mod_take.2.1 63 = .ok (.aload_n 0, 1) := by decide +kernel
theorem d_Mod_take_64 : decode M_Mod_take.2.1 64 = .ok (.invokevirtual 234, 3) := by decide +kernel
theorem d_Mod_take_67 : decode M_Mod_take.2.1 67 = .ok (.ireturn, 1) := by decide +kernel
theorem d_Mod_move_0 : decode M_Mod_move.2.1 0 = .ok (.aload_n 0, 1) := by decide +kernel
theorem d_Mod_move_1 : decode M_Mod_move.2.1 1 = .ok (.iload_n 1, 1) := by decide +kernel
theorem d_Mod_move_2 : decode M_Mod_move.2.1 2 = .ok (.invokevirtual 148, 3) := by decide +kernel
theorem d_Mod_move_5 : decode M_Mod_move.2.1 5 = .ok (.ifCond .eq 11, 3) := by decide +kernel
theorem d_Mod_move_8 : decode M_Mod_move.2.1 8 = .ok (.aload_n 0, 1) := by decide +kernel
theorem d_Mod_move_9 : decode M_Mod_move.2.1 9 = .ok (.iload_n 2, 1) := by decide +kernel
theorem d_Mod_move_10 : decode M_Mod_move.2.1 10 = .ok (.invokevirtual 165, 3) := by decide +kernel
theorem d_Mod_move_13 : decode M_Mod_move.2.1 13 = .ok (.ifCond .ne 10, 3) := by decide +kernel
theorem d_Mod_move_16 : decode M_Mod_move.2.1 16 = .ok (.aload_n 0, 1) := by decide +kernel
theorem d_Mod_move_17 : decode M_Mod_move.2.1 17 = .ok (.bipush (-3), 2) := by decide +kernel
theorem d_Mod_move_19 : decode M_Mod_move.2.1 19 = .ok (.invokevirtual 126, 3) := by decide +kernel
theorem d_Mod_move_22 : decode M_Mod_move.2.1 22 = .ok (.ireturn, 1) := by decide +kernel
theorem d_Mod_move_23 : decode M_Mod_move.2.1 23 = .ok (.aload_n 0, 1) := by decide +kernel
theorem d_Mod_move_24 : decode M_Mod_move.2.1 24 = .ok (.iload_n 1, 1) := by decide +kernel
theorem d_Mod_move_25 : decode M_Mod_move.2.1 25 = .ok (.invokevirtual 156, 3) := by decide +kernel
theorem d_Mod_move_28 : decode M_Mod_move.2.1 28 = .ok (.istore 4, 2) := by decide +kernel
theorem d_Mod_move_30 : decode M_Mod_move.2.1 30 = .ok (.iload 4, 2) := by decide +kernel
theorem d_Mod_move_32 : decode M_Mod_move.2.1 32 = .ok (.ifCond .ge 10, 3) := by decide +kernel
theorem d_Mod_move_35 : decode M_Mod_move.2.1 35 = .ok (.aload_n 0, 1) := by decide +kernel
theorem d_Mod_move_36 : decode M_Mod_move.2.1 36 = .ok (.bipush (-7), 2) := by decide +kernel
theorem d_Mod_move_38 : decode M_Mod_move.2.1 38 = .ok (.invokevirtual 126, 3) := by decide +kernel
theorem d_Mod_move_41 : decode M_Mod_move.2.1 41 = .ok (.ireturn, 1) := by decide +kernel
theorem d_Mod_move_42 : decode M_Mod_move.2.1 42 = .ok (.iload_n 3, 1) := by decide +kernel
theorem d_Mod_move_43 : decode M_Mod_move.2.1 43 = .ok (.i2l, 1) := by decide +kernel
theorem d_Mod_move_44 : decode M_Mod_move.2.1 44 = .ok (.lconst 0, 1) := by decide +kernel
theorem d_Mod_move_45 : decode M_Mod_move.2.1 45 = .ok (.aload_n 0, 1) := by decide +kernel
theorem d_Mod_move_46 : decode M_Mod_move.2.1 46 = .ok (.getfield 52, 3) := by decide +kernel
theorem d_Mod_move_49 : decode M_Mod_move.2.1 49 = .ok (.iload_n 2, 1) := by decide +kernel
theorem d_Mod_move_50 : decode M_Mod_move.2.1 50 = .ok (.iaload, 1) := by decide +kernel
theorem d_Mod_move_51 : decode M_Mod_move.2.1 51 = .ok (.iload 4, 2) := by decide +kernel
theorem d_Mod_move_53 : decode M_Mod_move.2.1 53 = .ok (.iload_n 2, 1) := by decide +kernel
theorem d_Mod_move_54 : decode M_Mod_move.2.1 54 = .ok (.if_icmp .ne 7, 3) := by decide +kernel
theorem d_Mod_move_57 : decode M_Mod_move.2.1 57 = .ok (.iconst 1, 1) := by decide +kernel
theorem d_Mod_move_58 : decode M_Mod_move.2.1 58 = .ok (.goto 4, 3) := by decide +kernel
theorem d_Mod_move_61 : decode M_Mod_move.2.1 61 = .ok (.iconst 0, 1) := by decide +kernel
theorem d_Mod_move_62 : decode M_Mod_move.2.1 62 = .ok (.isub, 1) := by decide +kernel
theorem d_Mod_move_63 : decode M_Mod_move.2.1 63 = .ok (.i2l, 1) := by decide +kernel
theorem d_Mod_move_64 : decode M_Mod_move.2.1 64 = .ok (.invokestatic 122, 3) := by decide +kernel
theorem d_Mod_move_67 : decode M_Mod_move.2.1 67 = .ok (.ifCond .ne 10, 3) := by decide +kernel
theorem d_Mod_move_70 : decode M_Mod_move.2.1 70 = .ok (.aload_n 0, 1) := by decide +kernel
theorem d_Mod_move_71 : decode M_Mod_move.2.1 71 = .ok (.bipush (-3), 2) := by decide +kernel
theorem d_Mod_move_73 : decode M_Mod_move.2.1 73 = .ok (.invokevirtual 126, 3) := by decide +kernel
theorem d_Mod_move_76 : decode M_Mod_move.2.1 76 = .ok (.ireturn, 1) := by decide +kernel
theorem d_Mod_move_77 : decode M_Mod_move.2.1 77 = .ok (.aload_n 0, 1) := by decide +kernel
theorem d_Mod_move_78 : decode M_Mod_move.2.1 78 = .ok (.aload_n 0, 1) := by decide +kernel
theorem d_Mod_move_79 : decode M_Mod_move.2.1 79 = .ok (.getfield 58, 3) := by decide +kernel
theorem d_Mod_move_82 : decode M_Mod_move.2.1 82 = .ok (.iconst 0, 1) := by decide +kernel
theorem d_Mod_move_83 : decode M_Mod_move.2.1 83 = .ok (.invokevirtual 231, 3) := by decide +kernel
theorem d_Mod_move_86 : decode M_Mod_move.2.1 86 = .ok (.aload_n 0, 1) := by decide +kernel
theorem d_Mod_move_87 : decode M_Mod_move.2.1 87 = .ok (.iload_n 1, 1) := by decide +kernel
theorem d_Mod_move_88 : decode M_Mod_move.2.1 88 = .ok (.invokevirtual 228, 3) := by decide +kernel
theorem d_Mod_move_91 : decode M_Mod_move.2.1 91 = .ok (.aload_n 0, 1) := by decide +kernel
theorem d_Mod_move_92 : decode M_Mod_move.2.1 92 = .ok (.iload_n 1, 1) := by decide +kernel
theorem d_Mod_move_93 : decode M_Mod_move.2.1 93 = .ok (.iload_n 2, 1) := by decide +kernel
theorem d_Mod_move_94 : decode M_Mod_move.2.1 94 = .ok (.iload_n 3, 1) := by decide +kernel
theorem d_Mod_move_95 : decode M_Mod_move.2.1 95 = .ok (.invokevirtual 224, 3) := by decide +kernel
theorem d_Mod_move_98 : decode M_Mod_move.2.1 98 = .ok (.aload_n 0, 1) := by decide +kernel
theorem d_Mod_move_99 : decode M_Mod_move.2.1 99 = .ok (.invokevirtual 234, 3) := by decide +kernel
theorem d_Mod_move_102 : decode M_Mod_move.2.1 102 = .ok (.ireturn, 1) := by decide +kernel
theorem d_Mod_cross_0 : decode M_Mod_cross.2.1 0 = .ok (.aload_n 0, 1) := by decide +kernel
theorem d_Mod_cross_1 : decode M_Mod_cross.2.1 1 = .ok (.iload_n 1, 1) := by decide +kernel
theorem d_Mod_cross_2 : decode M_Mod_cross.2.1 2 = .ok (.invokevirtual 165, 3) := by decide +kernel
theorem d_Mod_cross_5 : decode M_Mod_cross.2.1 5 = .ok (.ifCond .eq 44, 3) := by decide +kernel
theorem d_Mod_cross_8 : decode M_Mod_cross.2.1 8 = .ok (.aload_n 0, 1) := by decide +kernel
theorem d_Mod_cross_9 : decode M_Mod_cross.2.1 9 = .ok (.iload_n 3, 1) := by decide +kernel
theorem d_Mod_cross_10 : decode M_Mod_cross.2.1 10 = .ok (.invokevirtual 165, 3) := by decide +kernel
theorem d_Mod_cross_13 : decode M_Mod_cross.2.1 13 = .ok (.ifCond .eq 36, 3) := by decide +kernel
theorem d_Mod_cross_16 : decode M_Mod_cross.2.1 16 = .ok (.iload_n 2, 1) := by decide +kernel
theorem d_Mod_cross_17 : decode M_Mod_cross.2.1 17 = .ok (.i2l, 1) := by decide +kernel
theorem d_Mod_cross_18 : decode M_Mod_cross.2.1 18 = .ok (.lconst 0, 1) := by decide +kernel
theorem d_Mod_cross_19 : decode M_Mod_cross.2.1 19 = .ok (.aload_n 0, 1) := by decide +kernel
theorem d_Mod_cross_20 : decode M_Mod_cross.2.1 20 = .ok (.getfield 52, 3) := by decide +kernel
theorem d_Mod_cross_23 : decode M_Mod_cross.2.1 23 = .ok (.iload_n 1, 1) := by decide +kernel
theorem d_Mod_cross_24 : decode M_Mod_cross.2.1 24 = .ok (.iaload, 1) := by decide +kernel
theorem d_Mod_cross_25 : decode M_Mod_cross.2.1 25 = .ok (.i2l, 1) := by decide +kernel
theorem d_Mod_cross_26 : decode M_Mod_cross.2.1 26 = .ok (.invokestatic 122, 3) := by decide +kernel
theorem d_Mod_cross_29 : decode M_Mod_cross.2.1 29 = .ok (.ifCond .eq 20, 3) := by decide +kernel
theorem d_Mod_cross_32 : decode M_Mod_cross.2.1 32 = .ok (.iload 4, 2) := by decide +kernel
theorem d_Mod_cross_34 : decode M_Mod_cross.2.1 34 = .ok (.i2l, 1) := by decide +kernel
theorem d_Mod_cross_35 : decode M_Mod_cross.2.1 35 = .ok (.lconst 0, 1) := by decide +kernel
theorem d_Mod_cross_36 : decode M_Mod_cross.2.1 36 = .ok (.aload_n 0, 1) := by decide +kernel
theorem d_Mod_cross_37 : decode M_Mod_cross.2.1 37 = .ok (.getfield 52, 3) := by decide +kernel
theorem d_Mod_cross_40 : decode M_Mod_cross.2.1 40 = .ok (.iload_n 3, 1) := by decide +kernel
theorem d_Mod_cross_41 : decode M_Mod_cross.2.1 41 = .ok (.iaload, 1) := by decide +kernel
theorem d_Mod_cross_42 : decode M_Mod_cross.2.1 42 = .ok (.i2l, 1) := by decide +kernel
theorem d_Mod_cross_43 : decode M_Mod_cross.2.1 43 = .ok (.invokestatic 122, 3) := by decide +kernel
theorem d_Mod_cross_46 : decode M_Mod_cross.2.1 46 = .ok (.ifCond .ne 10, 3) := by decide +kernel
theorem d_Mod_cross_49 : decode M_Mod_cross.2.1 49 = .ok (.aload_n 0, 1) := by decide +kernel
theorem d_Mod_cross_50 : decode M_Mod_cross.2.1 50 = .ok (.bipush (-3), 2) := by decide +kernel
theorem d_Mod_cross_52 : decode M_Mod_cross.2.1 52 = .ok (.invokevirtual 126, 3) := by decide +kernel
theorem d_Mod_cross_55 : decode M_Mod_cross.2.1 55 = .ok (.ireturn, 1) := by decide +kernel
theorem d_Mod_cross_56 : decode M_Mod_cross.2.1 56 = .ok (.iload_n 1, 1) := by decide +kernel
theorem d_Mod_cross_57 : decode M_Mod_cross.2.1 57 = .ok (.iload_n 3, 1) := by decide +kernel
theorem d_Mod_cross_58 : decode M_Mod_cross.2.1 58 = .ok (.if_icmp .ne 10, 3) := by decide +kernel
theorem d_Mod_cross_61 : decode M_Mod_cross.2.1 61 = .ok (.aload_n 0, 1) := by decide +kernel
theorem d_Mod_cross_62 : decode M_Mod_cross.2.1 62 = .ok (.bipush (-7), 2) := by decide +kernel
theorem d_Mod_cross_64 : decode M_Mod_cross.2.1 64 = .ok (.invokevirtual 126, 3) := by decide +kernel
theorem d_Mod_cross_67 : decode M_Mod_cross.2.1 67 = .ok (.ireturn, 1) := by decide +kernel
theorem d_Mod_cross_68 : decode M_Mod_cross.2.1 68 = .ok (.aload_n 0, 1) := by decide +kernel
theorem d_Mod_cross_69 : decode M_Mod_cross.2.1 69 = .ok (.aload_n 0, 1) := by decide +kernel
theorem d_Mod_cross_70 : decode M_Mod_cross.2.1 70 = .ok (.getfield 58, 3) := by decide +kernel
theorem d_Mod_cross_73 : decode M_Mod_cross.2.1 73 = .ok (.iconst 0, 1) := by decide +kernel
theorem d_Mod_cross_74 : decode M_Mod_cross.2.1 74 = .ok (.invokevirtual 231, 3) := by decide +kernel
theorem d_Mod_cross_77 : decode M_Mod_cross.2.1 77 = .ok (.aload_n 0, 1) := by decide +kernel
theorem d_Mod_cross_78 : decode M_Mod_cross.2.1 78 = .ok (.getfield 52, 3) := by decide +kernel
theorem d_Mod_cross_81 : decode M_Mod_cross.2.1 81 = .ok (.iload_n 1, 1) := by decide +kernel
theorem d_Mod_cross_82 : decode M_Mod_cross.2.1 82 = .ok (.iaload, 1) := by decide +kernel
theorem d_Mod_cross_83 : decode M_Mod_cross.2.1 83 = .ok (.iload_n 2, 1) := by decide +kernel
theorem d_Mod_cross_84 : decode M_Mod_cross.2.1 84 = .ok (.isub, 1) := by decide +kernel
theorem d_Mod_cross_85 : decode M_Mod_cross.2.1 85 = .ok (.istore 5, 2) := by decide +kernel
theorem d_Mod_cross_87 : decode M_Mod_cross.2.1 87 = .ok (.aload_n 0, 1) := by decide +kernel
theorem d_Mod_cross_88 : decode M_Mod_cross.2.1 88 = .ok (.getfield 52, 3) := by decide +kernel
theorem d_Mod_cross_91 : decode M_Mod_cross.2.1 91 = .ok (.iload_n 3, 1) := by decide +kernel
theorem d_Mod_cross_92 : decode M_Mod_cross.2.1 92 = .ok (.iaload, 1) := by decide +kernel
theorem d_Mod_cross_93 : decode M_Mod_cross.2.1 93 = .ok (.iload 4, 2) := by decide +kernel
theorem d_Mod_cross_95 : decode M_Mod_cross.2.1 95 = .ok (.isub, 1) := by decide +kernel
theorem d_Mod_cross_96 : decode M_Mod_cross.2.1 96 = .ok (.istore 6, 2) := by decide +kernel
theorem d_Mod_cross_98 : decode M_Mod_cross.2.1 98 = .ok (.iconst 0, 1) := by decide +kernel
theorem d_Mod_cross_99 : decode M_Mod_cross.2.1 99 = .ok (.istore 7, 2) := by decide +kernel
theorem d_Mod_cross_101 : decode M_Mod_cross.2.1 101 = .ok (.iload 7, 2) := by decide +kernel
theorem d_Mod_cross_103 : decode M_Mod_cross.2.1 103 = .ok (.iload 6, 2) := by decide +kernel
theorem d_Mod_cross_105 : decode M_Mod_cross.2.1 105 = .ok (.if_icmp .ge 38, 3) := by decide +kernel
theorem d_Mod_cross_108 : decode M_Mod_cross.2.1 108 = .ok (.aload_n 0, 1) := by decide +kernel
theorem d_Mod_cross_109 : decode M_Mod_cross.2.1 109 = .ok (.getfield 49, 3) := by decide +kernel
theorem d_Mod_cross_112 : decode M_Mod_cross.2.1 112 = .ok (.bipush 12, 2) := by decide +kernel
theorem d_Mod_cross_114 : decode M_Mod_cross.2.1 114 = .ok (.iload_n 1, 1) := by decide +kernel
theorem d_Mod_cross_115 : decode M_Mod_cross.2.1 115 = .ok (.imul, 1) := by decide +kernel
theorem d_Mod_cross_116 : decode M_Mod_cross.2.1 116 = .ok (.iload_n 2, 1) := by decide +kernel
theorem d_Mod_cross_117 : decode M_Mod_cross.2.1 117 = .ok (.iadd, 1) := by decide +kernel
theorem d_Mod_cross_118 : decode M_Mod_cross.2.1 118 = .ok (.iload 7, 2) := by decide +kernel
theorem d_Mod_cross_120 : decode M_Mod_cross.2.1 120 = .ok (.iadd, 1) := by decide +kernel
theorem d_Mod_cross_121 : decode M_Mod_cross.2.1 121 = .ok (.aload_n 0, 1) := by decide +kernel
theorem d_Mod_cross_122 : decode M_Mod_cross.2.1 122 = .ok (.getfield 58, 3) := by decide +kernel
theorem d_Mod_cross_125 : decode M_Mod_cross.2.1 125 = .ok (.bipush 12, 2) := by decide +kernel
theorem d_Mod_cross_127 : decode M_Mod_cross.2.1 127 = .ok (.iload_n 3, 1) := by decide +kernel
theorem d_Mod_cross_128 : decode M_Mod_cross.2.1 128 = .ok (.imul, 1) := by decide +kernel
theorem d_Mod_cross_129 : decode M_Mod_cross.2.1 129 = .ok (.iload 4, 2) := by decide +kernel
theorem d_Mod_cross_131 : decode M_Mod_cross.2.1 131 = .ok (.iadd, 1) := by decide +kernel
theorem d_Mod_cross_132 : decode M_Mod_cross.2.1 132 = .ok (.iload 7, 2) := by decide +kernel
theorem d_Mod_cross_134 : decode M_Mod_cross.2.1 134 = .ok (.iadd, 1) := by decide +kernel
theorem d_Mod_cross_135 : decode M_Mod_cross.2.1 135 = .ok (.iaload, 1) := by decide +kernel
theorem d_Mod_cross_136 : decode M_Mod_cross.2.1 136 = .ok (.iastore, 1) := by decide +kernel
theorem d_Mod_cross_137 : decode M_Mod_cross.2.1 137 = .ok (.iinc 7 1, 3) := by decide +kernel
theorem d_Mod_cross_140 : decode M_Mod_cross.2.1 140 = .ok (.goto (-39), 3) := by decide +kernel
theorem d_Mod_cross_143 : decode M_Mod_cross.2.1 143 = .ok (.iconst 0, 1) := by decide +kernel
theorem d_Mod_cross_144 : decode M_Mod_cross.2.1 144 = .ok (.istore 7, 2) := by decide +kernel
theorem d_Mod_cross_146 : decode M_Mod_cross.2.1 146 = .ok (.iload 7, 2) := by decide +kernel
theorem d_Mod_cross_148 : decode M_Mod_cross.2.1 148 = .ok (.iload 5, 2) := by decide +kernel
theorem d_Mod_cross_150 : decode M_Mod_cross.2.1 150 = .ok (.if_icmp .ge 38, 3) := by decide +kernel
theorem d_Mod_cross_153 : decode M_Mod_cross.2.1 153 = .ok (.aload_n 0, 1) := by decide +kernel
theorem d_Mod_cross_154 : decode M_Mod_cross.2.1 154 = .ok (.getfield 49, 3) := by decide +kernel
theorem d_Mod_cross_157 : decode M_Mod_cross.2.1 157 = .ok (.bipush 12, 2) := by decide +kernel
theorem d_Mod_cross_159 : decode M_Mod_cross.2.1 159 = .ok (.iload_n 3, 1) := by decide +kernel
theorem d_Mod_cross_160 : decode M_Mod_cross.2.1 160 = .ok (.imul, 1) := by decide +kernel
theorem d_Mod_cross_161 : decode M_Mod_cross.2.1 161 = .ok (.iload 4, 2) := by decide +kernel
theorem d_Mod_cross_163 : decode M_Mod_cross.2.1 163 = .ok (.iadd, 1) := by decide +kernel
theorem d_Mod_cross_164 : decode M_Mod_cross.2.1 164 = .ok (.iload 7, 2) := by decide +kernel
theorem d_Mod_cross_166 : decode M_Mod_cross.2.1 166 = .ok (.iadd, 1) := by decide +kernel
theorem d_Mod_cross_167 : decode M_Mod_cross.2.1 167 = .ok (.aload_n 0, 1) := by decide +kernel
theorem d_Mod_cross_168 : decode M_Mod_cross.2.1 168 = .ok (.getfield 58, 3) := by decide +kernel
theorem d_Mod_cross_171 : decode M_Mod_cross.2.1 171 = .ok (.bipush 12, 2) := by decide +kernel
theorem d_Mod_cross_173 : decode M_Mod_cross.2.1 173 = .ok (.iload_n 1, 1) := by decide +kernel
theorem d_Mod_cross_174 : decode M_Mod_cross.2.1 174 = .ok (.imul, 1) := by decide +kernel
theorem d_Mod_cross_175 : decode M_Mod_cross.2.1 175 = .ok (.iload_n 2, 1) := by decide +kernel
theorem d_Mod_cross_176 : decode M_Mod_cross.2.1 176 = .ok (.iadd, 1) := by decide +kernel
theorem d_Mod_cross_177 : decode M_Mod_cross.2.1 177 = .ok (.iload 7, 2) := by decide +kernel
theorem d_Mod_cross_179 : decode M_Mod_cross.2.1 179 = .ok (.iadd, 1) := by decide +kernel
theorem d_Mod_cross_180 : decode M_Mod_cross.2.1 180 = .ok (.iaload, 1) := by decide +kernel
theorem d_Mod_cross_181 : decode M_Mod_cross.2.1 181 = .ok (.iastore, 1) := by decide +kernel
theorem d_Mod_cross_182 : decode M_Mod_cross.2.1 182 = .ok (.iinc 7 1, 3) := by decide +kernel
theorem d_Mod_cross_185 : decode M_Mod_cross.2.1 185 = .ok (.goto (-39), 3) := by decide +kernel
theorem d_Mod_cross_188 : decode M_Mod_cross.2.1 188 = .ok (.aload_n 0, 1) := by decide +kernel
theorem d_Mod_cross_189 : decode M_Mod_cross.2.1 189 = .ok (.getfield 52, 3) := by decide +kernel
theorem d_Mod_cross_192 : decode M_Mod_cross.2.1 192 = .ok (.iload_n 1, 1) := by decide +kernel
theorem d_Mod_cross_193 : decode M_Mod_cross.2.1 193 = .ok (.iload_n 2, 1) := by decide +kernel
theorem d_Mod_cross_194 : decode M_Mod_cross.2.1 194 = .ok (.iload 6, 2) := by decide +kernel
theorem d_Mod_cross_196 : decode M_Mod_cross.2.1 196 = .ok (.iadd, 1) := by decide +kernel
theorem d_Mod_cross_197 : decode M_Mod_cross.2.1 197 = .ok (.iastore, 1) := by decide +kernel
theorem d_Mod_cross_198 : decode M_Mod_cross.2.1 198 = .ok (.aload_n 0, 1) := by decide +kernel
theorem d_Mod_cross_199 : decode M_Mod_cross.2.1 199 = .ok (.getfield 52, 3) := by decide +kernel
theorem d_Mod_cross_202 : decode M_Mod_cross.2.1 202 = .ok (.iload_n 3, 1) := by decide +kernel
theorem d_Mod_cross_203 : decode M_Mod_cross.2.1 203 = .ok (.iload 4, 2) := by decide +kernel
theorem d_Mod_cross_205 : decode M_Mod_cross.2.1 205 = .ok (.iload 5, 2) := by decide +kernel
theorem d_Mod_cross_207 : decode M_Mod_cross.2.1 207 = .ok (.iadd, 1) := by decide +kernel
theorem d_Mod_cross_208 : decode M_Mod_cross.2.1 208 = .ok (.iastore, 1) := by decide +kernel
theorem d_Mod_cross_209 : decode M_Mod_cross.2.1 209 = .ok (.aload_n 0, 1) := by decide +kernel
theorem d_Mod_cross_210 : decode M_Mod_cross.2.1 210 = .ok (.invokevirtual 234, 3) := by decide +kernel
theorem d_Mod_cross_213 : decode M_Mod_cross.2.1 213 = .ok (.ireturn, 1) := by decide +kernel
theorem d_Mod_turn_0 : decode M_Mod_turn.2.1 0 = .ok (.aload_n 0, 1) := by decide +kernel
theorem d_Mod_turn_1 : decode M_Mod_turn.2.1 1 = .ok (.iload_n 1, 1) := by decide +kernel
theorem d_Mod_turn_2 : decode M_Mod_turn.2.1 2 = .ok (.invokevirtual 165, 3) := by decide +kernel
theorem d_Mod_turn_5 : decode M_Mod_turn.2.1 5 = .ok (.ifCond .eq 39, 3) := by decide +kernel
theorem d_Mod_turn_8 : decode M_Mod_turn.2.1 8 = .ok (.iload_n 2, 1) := by decide +kernel
theorem d_Mod_turn_9 : decode M_Mod_turn.2.1 9 = .ok (.i2l, 1) := by decide +kernel
theorem d_Mod_turn_10 : decode M_Mod_turn.2.1 10 = .ok (.lconst 0, 1) := by decide +kernel
theorem d_Mod_turn_11 : decode M_Mod_turn.2.1 11 = .ok (.aload_n 0, 1) := by decide +kernel
theorem d_Mod_turn_12 : decode M_Mod_turn.2.1 12 = .ok (.getfield 52, 3) := by decide +kernel
theorem d_Mod_turn_15 : decode M_Mod_turn.2.1 15 = .ok (.iload_n 1, 1) := by decide +kernel
theorem d_Mod_turn_16 : decode M_Mod_turn.2.1 16 = .ok (.iaload, 1) := by decide +kernel
theorem d_Mod_turn_17 : decode M_Mod_turn.2.1 17 = .ok (.iconst 1, 1) := by decide +kernel
theorem d_Mod_turn_18 : decode M_Mod_turn.2.1 18 = .ok (.isub, 1) := by decide +kernel
theorem d_Mod_turn_19 : decode M_Mod_turn.2.1 19 = .ok (.i2l, 1) := by decide +kernel
theorem d_Mod_turn_20 : decode M_Mod_turn.2.1 20 = .ok (.invokestatic 122, 3) := by decide +kernel
theorem d_Mod_turn_23 : decode M_Mod_turn.2.1 23 = .ok (.ifCond .eq 21, 3) := by decide +kernel
theorem d_Mod_turn_26 : decode M_Mod_turn.2.1 26 = .ok (.iload_n 3, 1) := by decide +kernel
theorem d_Mod_turn_27 : decode M_Mod_turn.2.1 27 = .ok (.i2l, 1) := by decide +kernel
theorem d_Mod_turn_28 : decode M_Mod_turn.2.1 28 = .ok (.lconst 0, 1) := by decide +kernel
theorem d_Mod_turn_29 : decode M_Mod_turn.2.1 29 = .ok (.aload_n 0, 1) := by decide +kernel
theorem d_Mod_turn_30 : decode M_Mod_turn.2.1 30 = .ok (.getfield 52, 3) := by decide +kernel
theorem d_Mod_turn_33 : decode M_Mod_turn.2.1 33 = .ok (.iload_n 1, 1) := by decide +kernel
theorem d_Mod_turn_34 : decode M_Mod_turn.2.1 34 = .ok (.iaload, 1) := by decide +kernel
theorem d_Mod_turn_35 : decode M_Mod_turn.2.1 35 = .ok (.iconst 1, 1) := by decide +kernel
theorem d_Mod_turn_36 : decode M_Mod_turn.2.1 36 = .ok (.isub, 1) := by decide +kernel
theorem d_Mod_turn_37 : decode M_Mod_turn.2.1 37 = .ok (.i2l, 1) := by decide +kernel
theorem d_Mod_turn_38 : decode M_Mod_turn.2.1 38 = .ok (.invokestatic 122, 3) := by decide +kernel
theorem d_Mod_turn_41 : decode M_Mod_turn.2.1 41 = .ok (.ifCond .ne 10, 3) := by decide +kernel
theorem d_Mod_turn_44 : decode M_Mod_turn.2.1 44 = .ok (.aload_n 0, 1) := by decide +kernel
theorem d_Mod_turn_45 : decode M_Mod_turn.2.1 45 = .ok (.bipush (-3), 2) := by decide +kernel
theorem d_Mod_turn_47 : decode M_Mod_turn.2.1 47 = .ok (.invokevirtual 126, 3) := by decide +kernel
theorem d_Mod_turn_50 : decode M_Mod_turn.2.1 50 = .ok (.ireturn, 1) := by decide +kernel
theorem d_Mod_turn_51 : decode M_Mod_turn.2.1 51 = .ok (.iload_n 2, 1) := by decide +kernel
theorem d_Mod_turn_52 : decode M_Mod_turn.2.1 52 = .ok (.iload_n 3, 1) := by decide +kernel
theorem d_Mod_turn_53 : decode M_Mod_turn.2.1 53 = .ok (.if_icmp .lt 10, 3) := by decide +kernel
theorem d_Mod_turn_56 : decode M_Mod_turn.2.1 56 = .ok (.aload_n 0, 1) := by decide +kernel
theorem d_Mod_turn_57 : decode M_Mod_turn.2.1 57 = .ok (.bipush (-7), 2) := by decide +kernel
theorem d_Mod_turn_59 : decode M_Mod_turn.2.1 59 = .ok (.invokevirtual 126, 3) := by decide +kernel
theorem d_Mod_turn_62 : decode M_Mod_turn.2.1 62 = .ok (.ireturn, 1) := by decide +kernel
theorem d_Mod_turn_63 : decode M_Mod_turn.2.1 63 = .ok (.aload_n 0, 1) := by decide +kernel
theorem d_Mod_turn_64 : decode M_Mod_turn.2.1 64 = .ok (.aload_n 0, 1) := by decide +kernel
theorem d_Mod_turn_65 : decode M_Mod_turn.2.1 65 = .ok (.getfield 58, 3) := by decide +kernel
theorem d_Mod_turn_68 : decode M_Mod_turn.2.1 68 = .ok (.iconst 0, 1) := by decide +kernel
theorem d_Mod_turn_69 : decode M_Mod_turn.2.1 69 = .ok (.invokevirtual 231, 3) := by decide +kernel
theorem d_Mod_turn_72 : decode M_Mod_turn.2.1 72 = .ok (.iload_n 2, 1) := by decide +kernel
theorem d_Mod_turn_73 : decode M_Mod_turn.2.1 73 = .ok (.istore 4, 2) := by decide +kernel
theorem d_Mod_turn_75 : decode M_Mod_turn.2.1 75 = .ok (.iload 4, 2) := by decide +kernel
theorem d_Mod_turn_77 : decode M_Mod_turn.2.1 77 = .ok (.iload_n 3, 1) := by decide +kernel
theorem d_Mod_turn_78 : decode M_Mod_turn.2.1 78 = .ok (.if_icmp .gt 37, 3) := by decide +kernel
theorem d_Mod_turn_81 : decode M_Mod_turn.2.1 81 = .ok (.aload_n 0, 1) := by decide +kernel
theorem d_Mod_turn_82 : decode M_Mod_turn.2.1 82 = .ok (.getfield 49, 3) := by decide +kernel
theorem d_Mod_turn_85 : decode M_Mod_turn.2.1 85 = .ok (.bipush 12, 2) := by decide +kernel
theorem d_Mod_turn_87 : decode M_Mod_turn.2.1 87 = .ok (.iload_n 1, 1) := by decide +kernel
theorem d_Mod_turn_88 : decode M_Mod_turn.2.1 88 = .ok (.imul, 1) := by decide +kernel
theorem d_Mod_turn_89 : decode M_Mod_turn.2.1 89 = .ok (.iload 4, 2) := by decide +kernel
theorem d_Mod_turn_91 : decode M_Mod_turn.2.1 91 = .ok (.iadd, 1) := by decide +kernel
theorem d_Mod_turn_92 : decode M_Mod_turn.2.1 92 = .ok (.aload_n 0, 1) := by decide +kernel
theorem d_Mod_turn_93 : decode M_Mod_turn.2.1 93 = .ok (.getfield 58, 3) := by decide +kernel
theorem d_Mod_turn_96 : decode M_Mod_turn.2.1 96 = .ok (.bipush 12, 2) := by decide +kernel
theorem d_Mod_turn_98 : decode M_Mod_turn.2.1 98 = .ok (.iload_n 1, 1) := by decide +kernel
theorem d_Mod_turn_99 : decode M_Mod_turn.2.1 99 = .ok (.imul, 1) := by decide +kernel
theorem d_Mod_turn_100 : decode M_Mod_turn.2.1 100 = .ok (.iload_n 2, 1) := by decide +kernel
theorem d_Mod_turn_101 : decode M_Mod_turn.2.1 101 = .ok (.iadd, 1) := by decide +kernel
theorem d_Mod_turn_102 : decode M_Mod_turn.2.1 102 = .ok (.iload_n 3, 1) := by decide +kernel
theorem d_Mod_turn_103 : decode M_Mod_turn.2.1 103 = .ok (.iadd, 1) := by decide +kernel
theorem d_Mod_turn_104 : decode M_Mod_turn.2.1 104 = .ok (.iload 4, 2) := by decide +kernel
theorem d_Mod_turn_106 : decode M_Mod_turn.2.1 106 = .ok (.isub, 1) := by decide +kernel
theorem d_Mod_turn_107 : decode M_Mod_turn.2.1 107 = .ok (.iaload, 1) := by decide +kernel
theorem d_Mod_turn_108 : decode M_Mod_turn.2.1 108 = .ok (.iastore, 1) := by decide +kernel
theorem d_Mod_turn_109 : decode M_Mod_turn.2.1 109 = .ok (.iinc 4 1, 3) := by decide +kernel
theorem d_Mod_turn_112 : decode M_Mod_turn.2.1 112 = .ok (.goto (-37), 3) := by decide +kernel
theorem d_Mod_turn_115 : decode M_Mod_turn.2.1 115 = .ok (.aload_n 0, 1) := by decide +kernel
theorem d_Mod_turn_116 : decode M_Mod_turn.2.1 116 = .ok (.invokevirtual 234, 3) := by decide +kernel
theorem d_Mod_turn_119 : decode M_Mod_turn.2.1 119 = .ok (.ireturn, 1) := by decide +kernel
theorem d_Mod_build_0 : decode M_Mod_build.2.1 0 = .ok (.aload_n 0, 1) := by decide +kernel
theorem d_Mod_build_1 : decode M_Mod_build.2.1 1 = .ok (.aload_n 0, 1) := by decide +kernel
theorem d_Mod_build_2 : decode M_Mod_build.2.1 2 = .ok (.getfield 58, 3) := by decide +kernel
theorem d_Mod_build_5 : decode M_Mod_build.2.1 5 = .ok (.iconst 0, 1) := by decide +kernel
theorem d_Mod_build_6 : decode M_Mod_build.2.1 6 = .ok (.invokevirtual 231, 3) := by decide +kernel
theorem d_Mod_build_9 : decode M_Mod_build.2.1 9 = .ok (.iconst 0, 1) := by decide +kernel
theorem d_Mod_build_10 : decode M_Mod_build.2.1 10 = .ok (.istore_n 1, 1) := by decide +kernel
theorem d_Mod_build_11 : decode M_Mod_build.2.1 11 = .ok (.iconst 1, 1) := by decide +kernel
theorem d_Mod_build_12 : decode M_Mod_build.2.1 12 = .ok (.istore_n 2, 1) := by decide +kernel
theorem d_Mod_build_13 : decode M_Mod_build.2.1 13 = .ok (.iload_n 2, 1) := by decide +kernel
theorem d_Mod_build_14 : decode M_Mod_build.2.1 14 = .ok (.ifCond .eq 143, 3) := by decide +kernel
theorem d_Mod_build_17 : decode M_Mod_build.2.1 17 = .ok (.aload_n 0, 1) := by decide +kernel
theorem d_Mod_build_18 : decode M_Mod_build.2.1 18 = .ok (.iconst (-1), 1) := by decide +kernel
theorem d_Mod_build_19 : decode M_Mod_build.2.1 19 = .ok (.putfield 237, 3) := by decide +kernel
theorem d_Mod_build_22 : decode M_Mod_build.2.1 22 = .ok (.iconst 0, 1) := by decide +kernel
theorem d_Mod_build_23 : decode M_Mod_build.2.1 23 = .ok (.istore_n 3, 1) := by decide +kernel
theorem d_Mod_build_24 : decode M_Mod_build.2.1 24 = .ok (.iload_n 3, 1) := by decide +kernel
theorem d_Mod_build_25 : decode M_Mod_build.2.1 25 = .ok (.aload_n 0, 1) := by decide +kernel
theorem d_Mod_build_26 : decode M_Mod_build.2.1 26 = .ok (.getfield 102, 3) := by decide +kernel
theorem d_Mod_build_29 : decode M_Mod_build.2.1 29 = .ok (.if_icmp .ge 52, 3) := by decide +kernel
theorem d_Mod_build_32 : decode M_Mod_build.2.1 32 = .ok (.iconst 0, 1) := by decide +kernel
theorem d_Mod_build_33 : decode M_Mod_build.2.1 33 = .ok (.istore 4, 2) := by decide +kernel
theorem d_Mod_build_35 : decode M_Mod_build.2.1 35 = .ok (.iload 4, 2) := by decide +kernel
theorem d_Mod_build_37 : decode M_Mod_build.2.1 37 = .ok (.aload_n 0, 1) := by decide +kernel
theorem d_Mod_build_38 : decode M_Mod_build.2.1 38 = .ok (.getfield 105, 3) := by decide +kernel
theorem d_Mod_build_41 : decode M_Mod_build.2.1 41 = .ok (.if_icmp .ge 34, 3) := by decide +kernel
theorem d_Mod_build_44 : decode M_Mod_build.2.1 44 = .ok (.aload_n 0, 1) := by decide +kernel
theorem d_Mod_build_45 : decode M_Mod_build.2.1 45 = .ok (.getfield 13, 3) := by decide +kernel
theorem d_Mod_build_48 : decode M_Mod_build.2.1 48 = .ok (.iload_n 3, 1) := by decide +kernel
theorem d_Mod_build_49 : decode M_Mod_build.2.1 49 = .ok (.iaload, 1) := by decide +kernel
theorem d_Mod_build_50 : decode M_Mod_build.2.1 50 = .ok (.iconst 2, 1) := by decide +kernel
theorem d_Mod_build_51 : decode M_Mod_build.2.1 51 = .ok (.if_icmp .eq 18, 3) := by decide +kernel
theorem d_Mod_build_54 : decode M_Mod_build.2.1 54 = .ok (.aload_n 0, 1) := by decide +kernel
theorem d_Mod_build_55 : decode M_Mod_build.2.1 55 = .ok (.iload_n 3, 1) := by decide +kernel
theorem d_Mod_build_56 : decode M_Mod_build.2.1 56 = .ok (.invokevirtual 156, 3) := by decide +kernel
theorem d_Mod_build_59 : decode M_Mod_build.2.1 59 = .ok (.ifCond .ge 10, 3) := by decide +kernel
theorem d_Mod_build_62 : decode M_Mod_build.2.1 62 = .ok (.aload_n 0, 1) := by decide +kernel
theorem d_Mod_build_63 : decode M_Mod_build.2.1 63 = .ok (.iload_n 3, 1) := by decide +kernel
theorem d_Mod_build_64 : decode M_Mod_build.2.1 64 = .ok (.iload 4, 2) := by decide +kernel
theorem d_Mod_build_66 : decode M_Mod_build.2.1 66 = .ok (.invokevirtual 256, 3) := by decide +kernel
theorem d_Mod_build_69 : decode M_Mod_build.2.1 69 = .ok (.iinc 4 1, 3) := by decide +kernel
theorem d_Mod_build_72 : decode M_Mod_build.2.1 72 = .ok (.goto (-37), 3) := by decide +kernel
theorem d_Mod_build_75 : decode M_Mod_build.2.1 75 = .ok (.iinc 3 1, 3) := by decide +kernel
theorem d_Mod_build_78 : decode M_Mod_build.2.1 78 = .ok (.goto (-54), 3) := by decide +kernel
theorem d_Mod_build_81 : decode M_Mod_build.2.1 81 = .ok (.aload_n 0, 1) := by decide +kernel
theorem d_Mod_build_82 : decode M_Mod_build.2.1 82 = .ok (.getfield 237, 3) := by decide +kernel
theorem d_Mod_build_85 : decode M_Mod_build.2.1 85 = .ok (.ifCond .lt 7, 3) := by decide +kernel
theorem d_Mod_build_88 : decode M_Mod_build.2.1 88 = .ok (.iconst 1, 1) := by decide +kernel
theorem d_Mod_build_89 : decode M_Mod_build.2.1 89 = .ok (.goto 4, 3) := by decide +kernel
theorem d_Mod_build_92 : decode M_Mod_build.2.1 92 = .ok (.iconst 0, 1) := by decide +kernel
theorem d_Mod_build_93 : decode M_Mod_build.2.1 93 = .ok (.istore_n 2, 1) := by decide +kernel
theorem d_Mod_build_94 : decode M_Mod_build.2.1 94 = .ok (.iload_n 2, 1) := by decide +kernel
theorem d_Mod_build_95 : decode M_Mod_build.2.1 95 = .ok (.ifCond .ne 6, 3) := by decide +kernel
theorem d_Mod_build_98 : decode M_Mod_build.2.1 98 = .ok (.goto (-85), 3) := by decide +kernel
theorem d_Mod_build_101 : decode M_Mod_build.2.1 101 = .ok (.aload_n 0, 1) := by decide +kernel
theorem d_Mod_build_102 : decode M_Mod_build.2.1 102 = .ok (.aload_n 0, 1) := by decide +kernel
theorem d_Mod_build_103 : decode M_Mod_build.2.1 103 = .ok (.getfield 237, 3) := by decide +kernel
theorem d_Mod_build_106 : decode M_Mod_build.2.1 106 = .ok (.aload_n 0, 1) := by decide +kernel
theorem d_Mod_build_107 : decode M_Mod_build.2.1 107 = .ok (.getfield 243, 3) := by decide +kernel
theorem d_Mod_build_110 : decode M_Mod_build.2.1 110 = .ok (.aload_n 0, 1) := by decide +kernel
theorem d_Mod_build_111 : decode M_Mod_build.2.1 111 = .ok (.getfield 246, 3) := by decide +kernel
theorem d_Mod_build_114 : decode M_Mod_build.2.1 114 = .ok (.invokevirtual 224, 3) := by decide +kernel
theorem d_Mod_build_117 : decode M_Mod_build.2.1 117 = .ok (.iinc 1 1, 3) := by decide +kernel
theorem d_Mod_build_120 : decode M_Mod_build.2.1 120 = .ok (.aload_n 0, 1) := by decide +kernel
theorem d_Mod_build_121 : decode M_Mod_build.2.1 121 = .ok (.getfield 249, 3) := by decide +kernel
theorem d_Mod_build_124 : decode M_Mod_build.2.1 124 = .ok (.ifCond .ge 6, 3) := by decide +kernel
theorem d_Mod_build_127 : decode M_Mod_build.2.1 127 = .ok (.goto (-114), 3) := by decide +kernel
theorem d_Mod_build_130 : decode M_Mod_build.2.1 130 = .ok (.aload_n 0, 1) := by decide +kernel
theorem d_Mod_build_131 : decode M_Mod_build.2.1 131 = .ok (.aload_n 0, 1) := by decide +kernel
theorem d_Mod_build_132 : decode M_Mod_build.2.1 132 = .ok (.getfield 31, 3) := by decide +kernel
theorem d_Mod_build_135 : decode M_Mod_build.2.1 135 = .ok (.aload_n 0, 1) := by decide +kernel
theorem d_Mod_build_136 : decode M_Mod_build.2.1 136 = .ok (.getfield 237, 3) := by decide +kernel
theorem d_Mod_build_139 : decode M_Mod_build.2.1 139 = .ok (.iaload, 1) := by decide +kernel
theorem d_Mod_build_140 : decode M_Mod_build.2.1 140 = .ok (.aload_n 0, 1) := by decide +kernel
theorem d_Mod_build_141 : decode M_Mod_build.2.1 141 = .ok (.getfield 243, 3) := by decide +kernel
theorem d_Mod_build_144 : decode M_Mod_build.2.1 144 = .ok (.aload_n 0, 1) := by decide +kernel
theorem d_Mod_build_145 : decode M_Mod_build.2.1 145 = .ok (.getfield 249, 3) := by decide +kernel
theorem d_Mod_build_148 : decode M_Mod_build.2.1 148 = .ok (.invokevirtual 224, 3) := by decide +kernel
theorem d_Mod_build_151 : decode M_Mod_build.2.1 151 = .ok (.iinc 1 1, 3) := by decide +kernel
theorem d_Mod_build_154 : decode M_Mod_build.2.1 154 = .ok (.goto (-141), 3) := by decide +kernel
theorem d_Mod_build_157 : decode M_Mod_build.2.1 157 = .ok (.aload_n 0, 1) := by decide +kernel
theorem d_Mod_build_158 : decode M_Mod_build.2.1 158 = .ok (.invokevirtual 221, 3) := by decide +kernel
theorem d_Mod_build_161 : decode M_Mod_build.2.1 161 = .ok (.iload_n 1, 1) := by decide +kernel
theorem d_Mod_build_162 : decode M_Mod_build.2.1 162 = .ok (.ireturn, 1) := by decide +kernel
theorem d_Mod_triesAll_0 : decode M_Mod_triesAll.2.1 0 = .ok (.aload_n 0, 1) := by decide +kernel
theorem d_Mod_triesAll_1 : decode M_Mod_triesAll.2.1 1 = .ok (.iload_n 2, 1) := by decide +kernel
theorem d_Mod_triesAll_2 : decode M_Mod_triesAll.2.1 2 = .ok (.invokevirtual 204, 3) := by decide +kernel
theorem d_Mod_triesAll_5 : decode M_Mod_triesAll.2.1 5 = .ok (.istore_n 3, 1) := by decide +kernel
theorem d_Mod_triesAll_6 : decode M_Mod_triesAll.2.1 6 = .ok (.iconst 0, 1) := by decide +kernel
theorem d_Mod_triesAll_7 : decode M_Mod_triesAll.2.1 7 = .ok (.istore 4, 2) := by decide +kernel
theorem d_Mod_triesAll_9 : decode M_Mod_triesAll.2.1 9 = .ok (.iload 4, 2) := by decide +kernel
theorem d_Mod_triesAll_11 : decode M_Mod_triesAll.2.1 11 = .ok (.aload_n 0, 1) := by decide +kernel
theorem d_Mod_triesAll_12 : decode M_Mod_triesAll.2.1 12 = .ok (.getfield 52, 3) := by decide +kernel
theorem d_Mod_triesAll_15 : decode M_Mod_triesAll.2.1 15 = .ok (.iload_n 2, 1) := by decide +kernel
theorem d_Mod_triesAll_16 : decode M_Mod_triesAll.2.1 16 = .ok (.iaload, 1) := by decide +kernel
theorem d_Mod_triesAll_17 : decode M_Mod_triesAll.2.1 17 = .ok (.if_icmp .gt 104, 3) := by decide +kernel
theorem d_Mod_triesAll_20 : decode M_Mod_triesAll.2.1 20 = .ok (.aload_n 0, 1) := by decide +kernel
theorem d_Mod_triesAll_21 : decode M_Mod_triesAll.2.1 21 = .ok (.iload_n 1, 1) := by decide +kernel
theorem d_Mod_triesAll_22 : decode M_Mod_triesAll.2.1 22 = .ok (.iload_n 2, 1) := by decide +kernel
theorem d_Mod_triesAll_23 : decode M_Mod_triesAll.2.1 23 = .ok (.iload 4, 2) := by decide +kernel
theorem d_Mod_triesAll_25 : decode M_Mod_triesAll.2.1 25 = .ok (.invokevirtual 224, 3) := by decide +kernel
theorem d_Mod_triesAll_28 : decode M_Mod_triesAll.2.1 28 = .ok (.aload_n 0, 1) := by decide +kernel
theorem d_Mod_triesAll_29 : decode M_Mod_triesAll.2.1 29 = .ok (.getfield 31, 3) := by decide +kernel
theorem d_Mod_triesAll_32 : decode M_Mod_triesAll.2.1 32 = .ok (.iload_n 1, 1) := by decide +kernel
theorem d_Mod_triesAll_33 : decode M_Mod_triesAll.2.1 33 = .ok (.iaload, 1) := by decide +kernel
theorem d_Mod_triesAll_34 : decode M_Mod_triesAll.2.1 34 = .ok (.ifCond .ge 13, 3) := by decide +kernel
theorem d_Mod_triesAll_37 : decode M_Mod_triesAll.2.1 37 = .ok (.aload_n 0, 1) := by decide +kernel
theorem d_Mod_triesAll_38 : decode M_Mod_triesAll.2.1 38 = .ok (.iload_n 1, 1) := by decide +kernel
theorem d_Mod_triesAll_39 : decode M_Mod_triesAll.2.1 39 = .ok (.iload_n 2, 1) := by decide +kernel
theorem d_Mod_triesAll_40 : decode M_Mod_triesAll.2.1 40 = .ok (.iload 4, 2) := by decide +kernel
theorem d_Mod_triesAll_42 : decode M_Mod_triesAll.2.1 42 = .ok (.iconst (-1), 1) := by decide +kernel
theorem d_Mod_triesAll_43 : decode M_Mod_triesAll.2.1 43 = .ok (.iload_n 3, 1) := by decide +kernel
theorem d_Mod_triesAll_44 : decode M_Mod_triesAll.2.1 44 = .ok (.invokevirtual 252, 3) := by decide +kernel
theorem d_Mod_triesAll_47 : decode M_Mod_triesAll.2.1 47 = .ok (.iconst 0, 1) := by decide +kernel
theorem d_Mod_triesAll_48 : decode M_Mod_triesAll.2.1 48 = .ok (.istore 5, 2) := by decide +kernel
theorem d_Mod_triesAll_50 : decode M_Mod_triesAll.2.1 50 = .ok (.iload 5, 2) := by decide +kernel
theorem d_Mod_triesAll_52 : decode M_Mod_triesAll.2.1 52 = .ok (.aload_n 0, 1) := by decide +kernel
theorem d_Mod_triesAll_53 : decode M_Mod_triesAll.2.1 53 = .ok (.getfield 52, 3) := by decide +kernel
theorem d_Mod_triesAll_56 : decode M_Mod_triesAll.2.1 56 = .ok (.iload_n 2, 1) := by decide +kernel
theorem d_Mod_triesAll_57 : decode M_Mod_triesAll.2.1 57 = .ok (.iaload, 1) := by decide +kernel
theorem d_Mod_triesAll_58 : decode M_Mod_triesAll.2.1 58 = .ok (.if_icmp .gt 52, 3) := by decide +kernel
theorem d_Mod_triesAll_61 : decode M_Mod_triesAll.2.1 61 = .ok (.aload_n 0, 1) := by decide +kernel
theorem d_Mod_triesAll_62 : decode M_Mod_triesAll.2.1 62 = .ok (.getfield 31, 3) := by decide +kernel
theorem d_Mod_triesAll_65 : decode M_Mod_triesAll.2.1 65 = .ok (.iload_n 1, 1) := by decide +kernel
theorem d_Mod_triesAll_66 : decode M_Mod_triesAll.2.1 66 = .ok (.iaload, 1) := by decide +kernel
theorem d_Mod_triesAll_67 : decode M_Mod_triesAll.2.1 67 = .ok (.ifCond .lt 43, 3) := by decide +kernel
theorem d_Mod_triesAll_70 : decode M_Mod_triesAll.2.1 70 = .ok (.aload_n 0, 1) := by decide +kernel
theorem d_Mod_triesAll_71 : decode M_Mod_triesAll.2.1 71 = .ok (.aload_n 0, 1) := by decide +kernel
theorem d_Mod_triesAll_72 : decode M_Mod_triesAll.2.1 72 = .ok (.getfield 31, 3) := by decide +kernel
theorem d_Mod_triesAll_75 : decode M_Mod_triesAll.2.1 75 = .ok (.iload_n 1, 1) := by decide +kernel
theorem d_Mod_triesAll_76 : decode M_Mod_triesAll.2.1 76 = .ok (.iaload, 1) := by decide +kernel
theorem d_Mod_triesAll_77 : decode M_Mod_triesAll.2.1 77 = .ok (.iload_n 2, 1) := by decide +kernel
theorem d_Mod_triesAll_78 : decode M_Mod_triesAll.2.1 78 = .ok (.iload 5, 2) := by decide +kernel
theorem d_Mod_triesAll_80 : decode M_Mod_triesAll.2.1 80 = .ok (.invokevirtual 224, 3) := by decide +kernel
theorem d_Mod_triesAll_83 : decode M_Mod_triesAll.2.1 83 = .ok (.aload_n 0, 1) := by decide +kernel
theorem d_Mod_triesAll_84 : decode M_Mod_triesAll.2.1 84 = .ok (.iload_n 1, 1) := by decide +kernel
theorem d_Mod_triesAll_85 : decode M_Mod_triesAll.2.1 85 = .ok (.iload_n 2, 1) := by decide +kernel
theorem d_Mod_triesAll_86 : decode M_Mod_triesAll.2.1 86 = .ok (.iload 4, 2) := by decide +kernel
theorem d_Mod_triesAll_88 : decode M_Mod_triesAll.2.1 88 = .ok (.iload 5, 2) := by decide +kernel
theorem d_Mod_triesAll_90 : decode M_Mod_triesAll.2.1 90 = .ok (.iload_n 3, 1) := by decide +kernel
theorem d_Mod_triesAll_91 : decode M_Mod_triesAll.2.1 91 = .ok (.invokevirtual 252, 3) := by decide +kernel
theorem d_Mod_triesAll_94 : decode M_Mod_triesAll.2.1 94 = .ok (.aload_n 0, 1) := by decide +kernel
theorem d_Mod_triesAll_95 : decode M_Mod_triesAll.2.1 95 = .ok (.aload_n 0, 1) := by decide +kernel
theorem d_Mod_triesAll_96 : decode M_Mod_triesAll.2.1 96 = .ok (.getfield 31, 3) := by decide +kernel
theorem d_Mod_triesAll_99 : decode M_Mod_triesAll.2.1 99 = .ok (.iload_n 1, 1) := by decide +kernel
theorem d_Mod_triesAll_100 : decode M_Mod_triesAll.2.1 100 = .ok (.iaload, 1) := by decide +kernel
theorem d_Mod_triesAll_101 : decode M_Mod_triesAll.2.1 101 = .ok (.invokevirtual 228, 3) := by decide +kernel
theorem d_Mod_triesAll_104 : decode M_Mod_triesAll.2.1 104 = .ok (.iinc 5 1, 3) := by decide +kernel
theorem d_Mod_triesAll_107 : decode M_Mod_triesAll.2.1 107 = .ok (.goto (-57), 3) := by decide +kernel
theorem d_Mod_triesAll_110 : decode M_Mod_triesAll.2.1 110 = .ok (.aload_n 0, 1) := by decide +kernel
theorem d_Mod_triesAll_111 : decode M_Mod_triesAll.2.1 111 = .ok (.iload_n 1, 1) := by decide +kernel
theorem d_Mod_triesAll_112 : decode M_Mod_triesAll.2.1 112 = .ok (.invokevirtual 228, 3) := by decide +kernel
theorem d_Mod_triesAll_115 : decode M_Mod_triesAll.2.1 115 = .ok (.iinc 4 1, 3) := by decide +kernel
theorem d_Mod_triesAll_118 : decode M_Mod_triesAll.2.1 118 = .ok (.goto (-109), 3) := by decide +kernel
theorem d_Mod_triesAll_121 : decode M_Mod_triesAll.2.1 121 = .ok (.return_, 1) := by decide +kernel
theorem d_Mod_looksAt_0 : decode M_Mod_looksAt.2.1 0 = .ok (.aload_n 0, 1) := by decide +kernel
theorem d_Mod_looksAt_1 : decode M_Mod_looksAt.2.1 1 = .ok (.iload_n 2, 1) := by decide +kernel
theorem d_Mod_looksAt_2 : decode M_Mod_looksAt.2.1 2 = .ok (.invokevirtual 201, 3) := by decide +kernel
theorem d_Mod_looksAt_5 : decode M_Mod_looksAt.2.1 5 = .ok (.ifCond .ne 4, 3) := by decide +kernel
theorem d_Mod_looksAt_8 : decode M_Mod_looksAt.2.1 8 = .ok (.return_, 1) := by decide +kernel
theorem d_Mod_looksAt_9 : decode M_Mod_looksAt.2.1 9 = .ok (.aload_n 0, 1) := by decide +kernel
theorem d_Mod_looksAt_10 : decode M_Mod_looksAt.2.1 10 = .ok (.getfield 185, 3) := by decide +kernel
theorem d_Mod_looksAt_13 : decode M_Mod_looksAt.2.1 13 = .ok (.iload 5, 2) := by decide +kernel
theorem d_Mod_looksAt_15 : decode M_Mod_looksAt.2.1 15 = .ok (.isub, 1) := by decide +kernel
theorem d_Mod_looksAt_16 : decode M_Mod_looksAt.2.1 16 = .ok (.istore 6, 2) := by decide +kernel
theorem d_Mod_looksAt_18 : decode M_Mod_looksAt.2.1 18 = .ok (.aload_n 0, 1) := by decide +kernel
theorem d_Mod_looksAt_19 : decode M_Mod_looksAt.2.1 19 = .ok (.getfield 237, 3) := by decide +kernel
theorem d_Mod_looksAt_22 : decode M_Mod_looksAt.2.1 22 = .ok (.ifCond .lt 13, 3) := by decide +kernel
theorem d_Mod_looksAt_25 : decode M_Mod_looksAt.2.1 25 = .ok (.iload 6, 2) := by decide +kernel
theorem d_Mod_looksAt_27 : decode M_Mod_looksAt.2.1 27 = .ok (.aload_n 0, 1) := by decide +kernel
theorem d_Mod_looksAt_28 : decode M_Mod_looksAt.2.1 28 = .ok (.getfield 240, 3) := by decide +kernel
theorem d_Mod_looksAt_31 : decode M_Mod_looksAt.2.1 31 = .ok (.if_icmp .lt 4, 3) := by decide +kernel
theorem d_Mod_looksAt_34 : decode M_Mod_looksAt.2.1 34 = .ok (.return_, 1) := by decide +kernel
theorem d_Mod_looksAt_35 : decode M_Mod_looksAt.2.1 35 = .ok (.aload_n 0, 1) := by decide +kernel
theorem d_Mod_looksAt_36 : decode M_Mod_looksAt.2.1 36 = .ok (.iload 6, 2) := by decide +kernel
theorem d_Mod_looksAt_38 : decode M_Mod_looksAt.2.1 38 = .ok (.putfield 240, 3) := by decide +kernel
theorem d_Mod_looksAt_41 : decode M_Mod_looksAt.2.1 41 = .ok (.aload_n 0, 1) := by decide +kernel
theorem d_Mod_looksAt_42 : decode M_Mod_looksAt.2.1 42 = .ok (.iload_n 1, 1) := by decide +kernel
theorem d_Mod_looksAt_43 : decode M_Mod_looksAt.2.1 43 = .ok (.putfield 237, 3) := by decide +kernel
theorem d_Mod_looksAt_46 : decode M_Mod_looksAt.2.1 46 = .ok (.aload_n 0, 1) := by decide +kernel
theorem d_Mod_looksAt_47 : decode M_Mod_looksAt.2.1 47 = .ok (.iload_n 2, 1) := by decide +kernel
theorem d_Mod_looksAt_48 : decode M_Mod_looksAt.2.1 48 = .ok (.putfield 243, 3) := by decide +kernel
theorem d_Mod_looksAt_51 : decode M_Mod_looksAt.2.1 51 = .ok (.aload_n 0, 1) := by decide +kernel
theorem d_Mod_looksAt_52 : decode M_Mod_looksAt.2.1 52 = .ok (.iload_n 3, 1) := by decide +kernel
theorem d_Mod_looksAt_53 : decode M_Mod_looksAt.2.1 53 = .ok (.putfield 246, 3) := by decide +kernel
theorem d_Mod_looksAt_56 : decode M_Mod_looksAt.2.1 56 = .ok (.aload_n 0, 1) := by decide +kernel
theorem d_Mod_looksAt_57 : decode M_Mod_looksAt.2.1 57 = .ok (.iload 4, 2) := by decide +kernel
theorem d_Mod_looksAt_59 : decode M_Mod_looksAt.2.1 59 = .ok (.putfield 249, 3) := by decide +kernel
theorem d_Mod_looksAt_62 : decode M_Mod_looksAt.2.1 62 = .ok (.return_, 1) := by decide +kernel
theorem d_Mod_better_0 : decode M_Mod_better.2.1 0 = .ok (.iload_n 1, 1) := by decide +kernel
theorem d_Mod_better_1 : decode M_Mod_better.2.1 1 = .ok (.ifCond .ge 10, 3) := by decide +kernel
theorem d_Mod_better_4 : decode M_Mod_better.2.1 4 = .ok (.aload_n 0, 1) := by decide +kernel
theorem d_Mod_better_5 : decode M_Mod_better.2.1 5 = .ok (.bipush (-4), 2) := by decide +kernel
theorem d_Mod_better_7 : decode M_Mod_better.2.1 7 = .ok (.invokevirtual 126, 3) := by decide +kernel
theorem d_Mod_better_10 : decode M_Mod_better.2.1 10 = .ok (.ireturn, 1) := by decide +kernel
theorem d_Mod_better_11 : decode M_Mod_better.2.1 11 = .ok (.iload_n 1, 1) := by decide +kernel
theorem d_Mod_better_12 : decode M_Mod_better.2.1 12 = .ok (.bipush 100, 2) := by decide +kernel
theorem d_Mod_better_14 : decode M_Mod_better.2.1 14 = .ok (.if_icmp .le 10, 3) := by decide +kernel
theorem d_Mod_better_17 : decode M_Mod_better.2.1 17 = .ok (.aload_n 0, 1) := by decide +kernel
theorem d_Mod_better_18 : decode M_Mod_better.2.1 18 = .ok (.bipush (-7), 2) := by decide +kernel
theorem d_Mod_better_20 : decode M_Mod_better.2.1 20 = .ok (.invokevirtual 126, 3) := by decide +kernel
theorem d_Mod_better_23 : decode M_Mod_better.2.1 23 = .ok (.ireturn, 1) := by decide +kernel
theorem d_Mod_better_24 : decode M_Mod_better.2.1 24 = .ok (.aload_n 0, 1) := by decide +kernel
theorem d_Mod_better_25 : decode M_Mod_better.2.1 25 = .ok (.aload_n 0, 1) := by decide +kernel
theorem d_Mod_better_26 : decode M_Mod_better.2.1 26 = .ok (.getfield 58, 3) := by decide +kernel
theorem d_Mod_better_29 : decode M_Mod_better.2.1 29 = .ok (.iconst 0, 1) := by decide +kernel
theorem d_Mod_better_30 : decode M_Mod_better.2.1 30 = .ok (.invokevirtual 231, 3) := by decide +kernel
theorem d_Mod_better_33 : decode M_Mod_better.2.1 33 = .ok (.iconst 0, 1) := by decide +kernel
theorem d_Mod_better_34 : decode M_Mod_better.2.1 34 = .ok (.istore_n 2, 1) := by decide +kernel
theorem d_Mod_better_35 : decode M_Mod_better.2.1 35 = .ok (.iload_n 2, 1) := by decide +kernel
theorem d_Mod_better_36 : decode M_Mod_better.2.1 36 = .ok (.iload_n 1, 1) := by decide +kernel
theorem d_Mod_better_37 : decode M_Mod_better.2.1 37 = .ok (.if_icmp .ge 16, 3) := by decide +kernel
theorem d_Mod_better_40 : decode M_Mod_better.2.1 40 = .ok (.aload_n 0, 1) := by decide +kernel
theorem d_Mod_better_41 : decode M_Mod_better.2.1 41 = .ok (.invokevirtual 259, 3) := by decide +kernel
theorem d_Mod_better_44 : decode M_Mod_better.2.1 44 = .ok (.ifCond .eq 9, 3) := by decide +kernel
theorem d_Mod_better_47 : decode M_Mod_better.2.1 47 = .ok (.iinc 2 1, 3) := by decide +kernel
theorem d_Mod_better_50 : decode M_Mod_better.2.1 50 = .ok (.goto (-15), 3) := by decide +kernel
theorem d_Mod_better_53 : decode M_Mod_better.2.1 53 = .ok (.aload_n 0, 1) := by decide +kernel
theorem d_Mod_better_54 : decode M_Mod_better.2.1 54 = .ok (.invokevirtual 221, 3) := by decide +kernel
theorem d_Mod_better_57 : decode M_Mod_better.2.1 57 = .ok (.iload_n 2, 1) := by decide +kernel
theorem d_Mod_better_58 : decode M_Mod_better.2.1 58 = .ok (.ireturn, 1) := by decide +kernel
theorem d_Mod_isBettered_0 : decode M_Mod_isBettered.2.1 0 = .ok (.aload_n 0, 1) := by decide +kernel
theorem d_Mod_isBettered_1 : decode M_Mod_isBettered.2.1 1 = .ok (.invokevirtual 209, 3) := by decide +kernel
theorem d_Mod_isBettered_4 : decode M_Mod_isBettered.2.1 4 = .ok (.istore_n 1, 1) := by decide +kernel
theorem d_Mod_isBettered_5 : decode M_Mod_isBettered.2.1 5 = .ok (.iconst 0, 1) := by decide +kernel
theorem d_Mod_isBettered_6 : decode M_Mod_isBettered.2.1 6 = .ok (.istore_n 2, 1) := by decide +kernel
theorem d_Mod_isBettered_7 : decode M_Mod_isBettered.2.1 7 = .ok (.iload_n 2, 1) := by decide +kernel
theorem d_Mod_isBettered_8 : decode M_Mod_isBettered.2.1 8 = .ok (.aload_n 0, 1) := by decide +kernel
theorem d_Mod_isBettered_9 : decode M_Mod_isBettered.2.1 9 = .ok (.getfield 102, 3) := by decide +kernel
theorem d_Mod_isBettered_12 : decode M_Mod_isBettered.2.1 12 = .ok (.if_icmp .ge 123, 3) := by decide +kernel
theorem d_Mod_isBettered_15 : decode M_Mod_isBettered.2.1 15 = .ok (.aload_n 0, 1) := by decide +kernel
theorem d_Mod_isBettered_16 : decode M_Mod_isBettered.2.1 16 = .ok (.iload_n 2, 1) := by decide +kernel
theorem d_Mod_isBettered_17 : decode M_Mod_isBettered.2.1 17 = .ok (.invokevirtual 156, 3) := by decide +kernel
theorem d_Mod_isBettered_20 : decode M_Mod_isBettered.2.1 20 = .ok (.ifCond .ge 6, 3) := by decide +kernel
theorem d_Mod_isBettered_23 : decode M_Mod_isBettered.2.1 23 = .ok (.goto 106, 3) := by decide +kernel
theorem d_Mod_isBettered_26 : decode M_Mod_isBettered.2.1 26 = .ok (.iconst 0, 1) := by decide +kernel
theorem d_Mod_isBettered_27 : decode M_Mod_isBettered.2.1 27 = .ok (.istore_n 3, 1) := by decide +kernel
theorem d_Mod_isBettered_28 : decode M_Mod_isBettered.2.1 28 = .ok (.iload_n 3, 1) := by decide +kernel
theorem d_Mod_isBettered_29 : decode M_Mod_isBettered.2.1 29 = .ok (.aload_n 0, 1) := by decide +kernel
theorem d_Mod_isBettered_30 : decode M_Mod_isBettered.2.1 30 = .ok (.getfield 105, 3) := by decide +kernel
theorem d_Mod_isBettered_33 : decode M_Mod_isBettered.2.1 33 = .ok (.if_icmp .ge 96, 3) := by decide +kernel
theorem d_Mod_isBettered_36 : decode M_Mod_isBettered.2.1 36 = .ok (.aload_n 0, 1) := by decide +kernel
theorem d_Mod_isBettered_37 : decode M_Mod_isBettered.2.1 37 = .ok (.getfield 52, 3) := by decide +kernel
theorem d_Mod_isBettered_40 : decode M_Mod_isBettered.2.1 40 = .ok (.iload_n 3, 1) := by decide +kernel
theorem d_Mod_isBettered_41 : decode M_Mod_isBettered.2.1 41 = .ok (.iaload, 1) := by decide +kernel
theorem d_Mod_isBettered_42 : decode M_Mod_isBettered.2.1 42 = .ok (.aload_n 0, 1) := by decide +kernel
theorem d_Mod_isBettered_43 : decode M_Mod_isBettered.2.1 43 = .ok (.iload_n 2, 1) := by decide +kernel
theorem d_Mod_isBettered_44 : decode M_Mod_isBettered.2.1 44 = .ok (.invokevirtual 156, 3) := by decide +kernel
theorem d_Mod_isBettered_47 : decode M_Mod_isBettered.2.1 47 = .ok (.iload_n 3, 1) := by decide +kernel
theorem d_Mod_isBettered_48 : decode M_Mod_isBettered.2.1 48 = .ok (.if_icmp .ne 7, 3) := by decide +kernel
theorem d_Mod_isBettered_51 : decode M_Mod_isBettered.2.1 51 = .ok (.iconst 1, 1) := by decide +kernel
theorem d_Mod_isBettered_52 : decode M_Mod_isBettered.2.1 52 = .ok (.goto 4, 3) := by decide +kernel
theorem d_Mod_isBettered_55 : decode M_Mod_isBettered.2.1 55 = .ok (.iconst 0, 1) := by decide +kernel
theorem d_Mod_isBettered_56 : decode M_Mod_isBettered.2.1 56 = .ok (.isub, 1) := by decide +kernel
theorem d_Mod_isBettered_57 : decode M_Mod_isBettered.2.1 57 = .ok (.istore 4, 2) := by decide +kernel
theorem d_Mod_isBettered_59 : decode M_Mod_isBettered.2.1 59 = .ok (.iconst 0, 1) := by decide +kernel
theorem d_Mod_isBettered_60 : decode M_Mod_isBettered.2.1 60 = .ok (.istore 5, 2) := by decide +kernel
theorem d_Mod_isBettered_62 : decode M_Mod_isBettered.2.1 62 = .ok (.iload 5, 2) := by decide +kernel
theorem d_Mod_isBettered_64 : decode M_Mod_isBettered.2.1 64 = .ok (.iload 4, 2) := by decide +kernel
theorem d_Mod_isBettered_66 : decode M_Mod_isBettered.2.1 66 = .ok (.if_icmp .gt 57, 3) := by decide +kernel
theorem d_Mod_isBettered_69 : decode M_Mod_isBettered.2.1 69 = .ok (.aload_n 0, 1) := by decide +kernel
theorem d_Mod_isBettered_70 : decode M_Mod_isBettered.2.1 70 = .ok (.aload_n 0, 1) := by decide +kernel
theorem d_Mod_isBettered_71 : decode M_Mod_isBettered.2.1 71 = .ok (.getfield 61, 3) := by decide +kernel
theorem d_Mod_isBettered_74 : decode M_Mod_isBettered.2.1 74 = .ok (.iconst 0, 1) := by decide +kernel
theorem d_Mod_isBettered_75 : decode M_Mod_isBettered.2.1 75 = .ok (.invokevirtual 231, 3) := by decide +kernel
theorem d_Mod_isBettered_78 : decode M_Mod_isBettered.2.1 78 = .ok (.aload_n 0, 1) := by decide +kernel
theorem d_Mod_isBettered_79 : decode M_Mod_isBettered.2.1 79 = .ok (.iload_n 2, 1) := by decide +kernel
theorem d_Mod_isBettered_80 : decode M_Mod_isBettered.2.1 80 = .ok (.invokevirtual 228, 3) := by decide +kernel
theorem d_Mod_isBettered_83 : decode M_Mod_isBettered.2.1 83 = .ok (.aload_n 0, 1) := by decide +kernel
theorem d_Mod_isBettered_84 : decode M_Mod_isBettered.2.1 84 = .ok (.iload_n 2, 1) := by decide +kernel
theorem d_Mod_isBettered_85 : decode M_Mod_isBettered.2.1 85 = .ok (.iload_n 3, 1) := by decide +kernel
theorem d_Mod_isBettered_86 : decode M_Mod_isBettered.2.1 86 = .ok (.iload 5, 2) := by decide +kernel
theorem d_Mod_isBettered_88 : decode M_Mod_isBettered.2.1 88 = .ok (.invokevirtual 224, 3) := by decide +kernel
theorem d_Mod_isBettered_91 : decode M_Mod_isBettered.2.1 91 = .ok (.aload_n 0, 1) := by decide +kernel
theorem d_Mod_isBettered_92 : decode M_Mod_isBettered.2.1 92 = .ok (.invokevirtual 133, 3) := by decide +kernel
theorem d_Mod_isBettered_95 : decode M_Mod_isBettered.2.1 95 = .ok (.ifCond .eq 13, 3) := by decide +kernel
theorem d_Mod_isBettered_98 : decode M_Mod_isBettered.2.1 98 = .ok (.aload_n 0, 1) := by decide +kernel
theorem d_Mod_isBettered_99 : decode M_Mod_isBettered.2.1 99 = .ok (.invokevirtual 209, 3) := by decide +kernel
theorem d_Mod_isBettered_102 : decode M_Mod_isBettered.2.1 102 = .ok (.iload_n 1, 1) := by decide +kernel
theorem d_Mod_isBettered_103 : decode M_Mod_isBettered.2.1 103 = .ok (.if_icmp .ge 5, 3) := by decide +kernel
theorem d_Mod_isBettered_106 : decode M_Mod_isBettered.2.1 106 = .ok (.iconst 1, 1) := by decide +kernel
theorem d_Mod_isBettered_107 : decode M_Mod_isBettered.2.1 107 = .ok (.ireturn, 1) := by decide +kernel
theorem d_Mod_isBettered_108 : decode M_Mod_isBettered.2.1 108 = .ok (.aload_n 0, 1) := by decide +kernel
theorem d_Mod_isBettered_109 : decode M_Mod_isBettered.2.1 109 = .ok (.aload_n 0, 1) := by decide +kernel
theorem d_Mod_isBettered_110 : decode M_Mod_isBettered.2.1 110 = .ok (.getfield 61, 3) := by decide +kernel
theorem d_Mod_isBettered_113 : decode M_Mod_isBettered.2.1 113 = .ok (.iconst 0, 1) := by decide +kernel
theorem d_Mod_isBettered_114 : decode M_Mod_isBettered.2.1 114 = .ok (.invokevirtual 217, 3) := by decide +kernel
theorem d_Mod_isBettered_117 : decode M_Mod_isBettered.2.1 117 = .ok (.iinc 5 1, 3) := by decide +kernel
theorem d_Mod_isBettered_120 : decode M_Mod_isBettered.2.1 120 = .ok (.goto (-58), 3) := by decide +kernel
theorem d_Mod_isBettered_123 : decode M_Mod_isBettered.2.1 123 = .ok (.iinc 3 1, 3) := by decide +kernel
theorem d_Mod_isBettered_126 : decode M_Mod_isBettered.2.1 126 = .ok (.goto (-98), 3) := by decide +kernel
theorem d_Mod_isBettered_129 : decode M_Mod_isBettered.2.1 129 = .ok (.iinc 2 1, 3) := by decide +kernel
theorem d_Mod_isBettered_132 : decode M_Mod_isBettered.2.1 132 = .ok (.goto (-125), 3) := by decide +kernel
theorem d_Mod_isBettered_135 : decode M_Mod_isBettered.2.1 135 = .ok (.iconst 0, 1) := by decide +kernel
theorem d_Mod_isBettered_136 : decode M_Mod_isBettered.2.1 136 = .ok (.ireturn, 1) := by decide +kernel
theorem d_Mod_least_0 : decode M_Mod_least.2.1 0 = .ok (.aload_n 0, 1) := by decide +kernel
theorem d_Mod_least_1 : decode M_Mod_least.2.1 1 = .ok (.getfield 102, 3) := by decide +kernel
theorem d_Mod_least_4 : decode M_Mod_least.2.1 4 = .ok (.iconst 5, 1) := by decide +kernel
theorem d_Mod_least_5 : decode M_Mod_least.2.1 5 = .ok (.if_icmp .gt 11, 3) := by decide +kernel
theorem d_Mod_least_8 : decode M_Mod_least.2.1 8 = .ok (.aload_n 0, 1) := by decide +kernel
theorem d_Mod_least_9 : decode M_Mod_least.2.1 9 = .ok (.getfield 105, 3) := by decide +kernel
theorem d_Mod_least_12 : decode M_Mod_least.2.1 12 = .ok (.iconst 2, 1) := by decide +kernel
theorem d_Mod_least_13 : decode M_Mod_least.2.1 13 = .ok (.if_icmp .le 10, 3) := by decide +kernel
theorem d_Mod_least_16 : decode M_Mod_least.2.1 16 = .ok (.aload_n 0, 1) := by decide +kernel
theorem d_Mod_least_17 : decode M_Mod_least.2.1 17 = .ok (.bipush (-8), 2) := by decide +kernel
theorem d_Mod_least_19 : decode M_Mod_least.2.1 19 = .ok (.invokevirtual 126, 3) := by decide +kernel
theorem d_Mod_least_22 : decode M_Mod_least.2.1 22 = .ok (.ireturn, 1) := by decide +kernel
theorem d_Mod_least_23 : decode M_Mod_least.2.1 23 = .ok (.aload_n 0, 1) := by decide +kernel
theorem d_Mod_least_24 : decode M_Mod_least.2.1 24 = .ok (.aload_n 0, 1) := by decide +kernel
theorem d_Mod_least_25 : decode M_Mod_least.2.1 25 = .ok (.getfield 58, 3) := by decide +kernel
theorem d_Mod_least_28 : decode M_Mod_least.2.1 28 = .ok (.iconst 0, 1) := by decide +kernel
theorem d_Mod_least_29 : decode M_Mod_least.2.1 29 = .ok (.invokevirtual 231, 3) := by decide +kernel
theorem d_Mod_least_32 : decode M_Mod_least.2.1 32 = .ok (.aload_n 0, 1) := by decide +kernel
theorem d_Mod_least_33 : decode M_Mod_least.2.1 33 = .ok (.iconst 0, 1) := by decide +kernel
theorem d_Mod_least_34 : decode M_Mod_least.2.1 34 = .ok (.putfield 262, 3) := by decide +kernel
theorem d_Mod_least_37 : decode M_Mod_least.2.1 37 = .ok (.iconst 0, 1) := by decide +kernel
theorem d_Mod_least_38 : decode M_Mod_least.2.1 38 = .ok (.istore_n 1, 1) := by decide +kernel
theorem d_Mod_least_39 : decode M_Mod_least.2.1 39 = .ok (.iload_n 1, 1) := by decide +kernel
theorem d_Mod_least_40 : decode M_Mod_least.2.1 40 = .ok (.iconst 3, 1) := by decide +kernel
theorem d_Mod_least_41 : decode M_Mod_least.2.1 41 = .ok (.if_icmp .ge 16, 3) := by decide +kernel
theorem d_Mod_least_44 : decode M_Mod_least.2.1 44 = .ok (.aload_n 0, 1) := by decide +kernel
theorem d_Mod_least_45 : decode M_Mod_least.2.1 45 = .ok (.getfield 52, 3) := by decide +kernel
theorem d_Mod_least_48 : decode M_Mod_least.2.1 48 = .ok (.iload_n 1, 1) := by decide +kernel
theorem d_Mod_least_49 : decode M_Mod_least.2.1 49 = .ok (.iconst 0, 1) := by decide +kernel
theorem d_Mod_least_50 : decode M_Mod_least.2.1 50 = .ok (.iastore, 1) := by decide +kernel
theorem d_Mod_least_51 : decode M_Mod_least.2.1 51 = .ok (.iinc 1 1, 3) := by decide +kernel
theorem d_Mod_least_54 : decode M_Mod_least.2.1 54 = .ok (.goto (-15), 3) := by decide +kernel
theorem d_Mod_least_57 : decode M_Mod_least.2.1 57 = .ok (.aload_n 0, 1) := by decide +kernel
theorem d_Mod_least_58 : decode M_Mod_least.2.1 58 = .ok (.invokevirtual 278, 3) := by decide +kernel
theorem d_Mod_least_61 : decode M_Mod_least.2.1 61 = .ok (.iconst 1, 1) := by decide +kernel
theorem d_Mod_least_62 : decode M_Mod_least.2.1 62 = .ok (.istore_n 1, 1) := by decide +kernel
theorem d_Mod_least_63 : decode M_Mod_least.2.1 63 = .ok (.iload_n 1, 1) := by decide +kernel
theorem d_Mod_least_64 : decode M_Mod_least.2.1 64 = .ok (.aload_n 0, 1) := by decide +kernel
theorem d_Mod_least_65 : decode M_Mod_least.2.1 65 = .ok (.getfield 102, 3) := by decide +kernel
theorem d_Mod_least_68 : decode M_Mod_least.2.1 68 = .ok (.if_icmp .gt 75, 3) := by decide +kernel
theorem d_Mod_least_71 : decode M_Mod_least.2.1 71 = .ok (.aload_n 0, 1) := by decide +kernel
theorem d_Mod_least_72 : decode M_Mod_least.2.1 72 = .ok (.getfield 105, 3) := by decide +kernel
theorem d_Mod_least_75 : decode M_Mod_least.2.1 75 = .ok (.ifCond .le 68, 3) := by decide +kernel
theorem d_Mod_least_78 : decode M_Mod_least.2.1 78 = .ok (.iconst 0, 1) := by decide +kernel
theorem d_Mod_least_79 : decode M_Mod_least.2.1 79 = .ok (.istore_n 2, 1) := by decide +kernel
theorem d_Mod_least_80 : decode M_Mod_least.2.1 80 = .ok (.iload_n 2, 1) := by decide +kernel
theorem d_Mod_least_81 : decode M_Mod_least.2.1 81 = .ok (.aload_n 0, 1) := by decide +kernel
theorem d_Mod_least_82 : decode M_Mod_least.2.1 82 = .ok (.getfield 102, 3) := by decide +kernel
theorem d_Mod_least_85 : decode M_Mod_least.2.1 85 = .ok (.iload_n 1, 1) := by decide +kernel
theorem d_Mod_least_86 : decode M_Mod_least.2.1 86 = .ok (.invokestatic 281, 3) := by decide +kernel
theorem d_Mod_least_89 : decode M_Mod_least.2.1 89 = .ok (.if_icmp .ge 48, 3) := by decide +kernel
theorem d_Mod_least_92 : decode M_Mod_least.2.1 92 = .ok (.aload_n 0, 1) := by decide +kernel
theorem d_Mod_least_93 : decode M_Mod_least.2.1 93 = .ok (.getfield 105, 3) := by decide +kernel
theorem d_Mod_least_96 : decode M_Mod_least.2.1 96 = .ok (.iconst 1, 1) := by decide +kernel
theorem d_Mod_least_97 : decode M_Mod_least.2.1 97 = .ok (.if_icmp .ne 7, 3) := by decide +kernel
theorem d_Mod_least_100 : decode M_Mod_least.2.1 100 = .ok (.iload_n 1, 1) := by decide +kernel
theorem d_Mod_least_101 : decode M_Mod_least.2.1 101 = .ok (.goto 4, 3) := by decide +kernel
theorem d_Mod_least_104 : decode M_Mod_least.2.1 104 = .ok (.iconst 0, 1) := by decide +kernel
theorem d_Mod_least_105 : decode M_Mod_least.2.1 105 = .ok (.istore_n 3, 1) := by decide +kernel
theorem d_Mod_least_106 : decode M_Mod_least.2.1 106 = .ok (.iload_n 3, 1) := by decide +kernel
theorem d_Mod_least_107 : decode M_Mod_least.2.1 107 = .ok (.iload_n 1, 1) := by decide +kernel
theorem d_Mod_least_108 : decode M_Mod_least.2.1 108 = .ok (.if_icmp .gt 23, 3) := by decide +kernel
theorem d_Mod_least_111 : decode M_Mod_least.2.1 111 = .ok (.aload_n 0, 1) := by decide +kernel
theorem d_Mod_least_112 : decode M_Mod_least.2.1 112 = .ok (.iload_n 2, 1) := by decide +kernel
theorem d_Mod_least_113 : decode M_Mod_least.2.1 113 = .ok (.iload_n 1, 1) := by decide +kernel
theorem d_Mod_least_114 : decode M_Mod_least.2.1 114 = .ok (.iload_n 3, 1) := by decide +kernel
theorem d_Mod_least_115 : decode M_Mod_least.2.1 115 = .ok (.invokevirtual 285, 3) := by decide +kernel
theorem d_Mod_least_118 : decode M_Mod_least.2.1 118 = .ok (.ifCond .eq 7, 3) := by decide +kernel
theorem d_Mod_least_121 : decode M_Mod_least.2.1 121 = .ok (.aload_n 0, 1) := by decide +kernel
theorem d_Mod_least_122 : decode M_Mod_least.2.1 122 = .ok (.invokevirtual 278, 3) := by decide +kernel
theorem d_Mod_least_125 : decode M_Mod_least.2.1 125 = .ok (.iinc 3 1, 3) := by decide +kernel
theorem d_Mod_least_128 : decode M_Mod_least.2.1 128 = .ok (.goto (-22), 3) := by decide +kernel
theorem d_Mod_least_131 : decode M_Mod_least.2.1 131 = .ok (.iinc 2 1, 3) := by decide +kernel
theorem d_Mod_least_134 : decode M_Mod_least.2.1 134 = .ok (.goto (-54), 3) := by decide +kernel
theorem d_Mod_least_137 : decode M_Mod_least.2.1 137 = .ok (.iinc 1 1, 3) := by decide +kernel
theorem d_Mod_least_140 : decode M_Mod_least.2.1 140 = .ok (.goto (-77), 3) := by decide +kernel
theorem d_Mod_least_143 : decode M_Mod_least.2.1 143 = .ok (.aload_n 0, 1) := by decide +kernel
theorem d_Mod_least_144 : decode M_Mod_least.2.1 144 = .ok (.aload_n 0, 1) := by decide +kernel
theorem d_Mod_least_145 : decode M_Mod_least.2.1 145 = .ok (.getfield 61, 3) := by decide +kernel
theorem d_Mod_least_148 : decode M_Mod_least.2.1 148 = .ok (.iconst 0, 1) := by decide +kernel
theorem d_Mod_least_149 : decode M_Mod_least.2.1 149 = .ok (.invokevirtual 217, 3) := by decide +kernel
theorem d_Mod_least_152 : decode M_Mod_least.2.1 152 = .ok (.aload_n 0, 1) := by decide +kernel
theorem d_Mod_least_153 : decode M_Mod_least.2.1 153 = .ok (.invokevirtual 221, 3) := by decide +kernel
theorem d_Mod_least_156 : decode M_Mod_least.2.1 156 = .ok (.aload_n 0, 1) := by decide +kernel
theorem d_Mod_least_157 : decode M_Mod_least.2.1 157 = .ok (.getfield 269, 3) := by decide +kernel
theorem d_Mod_least_160 : decode M_Mod_least.2.1 160 = .ok (.ireturn, 1) := by decide +kernel
theorem d_Mod_weighs_0 : decode M_Mod_weighs.2.1 0 = .ok (.aload_n 0, 1) := by decide +kernel
theorem d_Mod_weighs_1 : decode M_Mod_weighs.2.1 1 = .ok (.invokevirtual 133, 3) := by decide +kernel
theorem d_Mod_weighs_4 : decode M_Mod_weighs.2.1 4 = .ok (.ifCond .ne 4, 3) := by decide +kernel
theorem d_Mod_weighs_7 : decode M_Mod_weighs.2.1 7 = .ok (.return_, 1) := by decide +kernel
theorem d_Mod_weighs_8 : decode M_Mod_weighs.2.1 8 = .ok (.iconst 0, 1) := by decide +kernel
theorem d_Mod_weighs_9 : decode M_Mod_weighs.2.1 9 = .ok (.istore_n 1, 1) := by decide +kernel
theorem d_Mod_weighs_10 : decode M_Mod_weighs.2.1 10 = .ok (.iconst 0, 1) := by decide +kernel
theorem d_Mod_weighs_11 : decode M_Mod_weighs.2.1 11 = .ok (.istore_n 2, 1) := by decide +kernel
theorem d_Mod_weighs_12 : decode M_Mod_weighs.2.1 12 = .ok (.iconst 0, 1) := by decide +kernel
theorem d_Mod_weighs_13 : decode M_Mod_weighs.2.1 13 = .ok (.istore_n 3, 1) := by decide +kernel
theorem d_Mod_weighs_14 : decode M_Mod_weighs.2.1 14 = .ok (.iload_n 3, 1) := by decide +kernel
theorem d_Mod_weighs_15 : decode M_Mod_weighs.2.1 15 = .ok (.aload_n 0, 1) := by decide +kernel
theorem d_Mod_weighs_16 : decode M_Mod_weighs.2.1 16 = .ok (.getfield 102, 3) := by decide +kernel
theorem d_Mod_weighs_19 : decode M_Mod_weighs.2.1 19 = .ok (.if_icmp .ge 60, 3) := by decide +kernel
theorem d_Mod_weighs_22 : decode M_Mod_weighs.2.1 22 = .ok (.aload_n 0, 1) := by decide +kernel
theorem d_Mod_weighs_23 : decode M_Mod_weighs.2.1 23 = .ok (.iload_n 3, 1) := by decide +kernel
theorem d_Mod_weighs_24 : decode M_Mod_weighs.2.1 24 = .ok (.invokevirtual 156, 3) := by decide +kernel
theorem d_Mod_weighs_27 : decode M_Mod_weighs.2.1 27 = .ok (.ifCond .lt 7, 3) := by decide +kernel
theorem d_Mod_weighs_30 : decode M_Mod_weighs.2.1 30 = .ok (.iconst 1, 1) := by decide +kernel
theorem d_Mod_weighs_31 : decode M_Mod_weighs.2.1 31 = .ok (.goto 4, 3) := by decide +kernel
theorem d_Mod_weighs_34 : decode M_Mod_weighs.2.1 34 = .ok (.iconst 0, 1) := by decide +kernel
theorem d_Mod_weighs_35 : decode M_Mod_weighs.2.1 35 = .ok (.istore 4, 2) := by decide +kernel
theorem d_Mod_weighs_37 : decode M_Mod_weighs.2.1 37 = .ok (.iload_n 2, 1) := by decide +kernel
theorem d_Mod_weighs_38 : decode M_Mod_weighs.2.1 38 = .ok (.iload 4, 2) := by decide +kernel
theorem d_Mod_weighs_40 : decode M_Mod_weighs.2.1 40 = .ok (.ifCond .eq 7, 3) := by decide +kernel
theorem d_Mod_weighs_43 : decode M_Mod_weighs.2.1 43 = .ok (.iconst 1, 1) := by decide +kernel
theorem d_Mod_weighs_44 : decode M_Mod_weighs.2.1 44 = .ok (.goto 4, 3) := by decide +kernel
theorem d_Mod_weighs_47 : decode M_Mod_weighs.2.1 47 = .ok (.iconst 0, 1) := by decide +kernel
theorem d_Mod_weighs_48 : decode M_Mod_weighs.2.1 48 = .ok (.iadd, 1) := by decide +kernel
theorem d_Mod_weighs_49 : decode M_Mod_weighs.2.1 49 = .ok (.istore_n 2, 1) := by decide +kernel
theorem d_Mod_weighs_50 : decode M_Mod_weighs.2.1 50 = .ok (.iload_n 1, 1) := by decide +kernel
theorem d_Mod_weighs_51 : decode M_Mod_weighs.2.1 51 = .ok (.iload 4, 2) := by decide +kernel
theorem d_Mod_weighs_53 : decode M_Mod_weighs.2.1 53 = .ok (.ifCond .eq 17, 3) := by decide +kernel
theorem d_Mod_weighs_56 : decode M_Mod_weighs.2.1 56 = .ok (.aload_n 0, 1) := by decide +kernel
theorem d_Mod_weighs_57 : decode M_Mod_weighs.2.1 57 = .ok (.getfield 13, 3) := by decide +kernel
theorem d_Mod_weighs_60 : decode M_Mod_weighs.2.1 60 = .ok (.iload_n 3, 1) := by decide +kernel
theorem d_Mod_weighs_61 : decode M_Mod_weighs.2.1 61 = .ok (.iaload, 1) := by decide +kernel
theorem d_Mod_weighs_62 : decode M_Mod_weighs.2.1 62 = .ok (.iconst 4, 1) := by decide +kernel
theorem d_Mod_weighs_63 : decode M_Mod_weighs.2.1 63 = .ok (.if_icmp .ne 7, 3) := by decide +kernel
theorem d_Mod_weighs_66 : decode M_Mod_weighs.2.1 66 = .ok (.iconst 1, 1) := by decide +kernel
theorem d_Mod_weighs_67 : decode M_Mod_weighs.2.1 67 = .ok (.goto 4, 3) := by decide +kernel
theorem d_Mod_weighs_70 : decode M_Mod_weighs.2.1 70 = .ok (.iconst 0, 1) := by decide +kernel
theorem d_Mod_weighs_71 : decode M_Mod_weighs.2.1 71 = .ok (.iadd, 1) := by decide +kernel
theorem d_Mod_weighs_72 : decode M_Mod_weighs.2.1 72 = .ok (.istore_n 1, 1) := by decide +kernel
theorem d_Mod_weighs_73 : decode M_Mod_weighs.2.1 73 = .ok (.iinc 3 1, 3) := by decide +kernel
theorem d_Mod_weighs_76 : decode M_Mod_weighs.2.1 76 = .ok (.goto (-62), 3) := by decide +kernel
theorem d_Mod_weighs_79 : decode M_Mod_weighs.2.1 79 = .ok (.aload_n 0, 1) := by decide +kernel
theorem d_Mod_weighs_80 : decode M_Mod_weighs.2.1 80 = .ok (.invokevirtual 209, 3) := by decide +kernel
theorem d_Mod_weighs_83 : decode M_Mod_weighs.2.1 83 = .ok (.istore_n 3, 1) := by decide +kernel
theorem d_Mod_weighs_84 : decode M_Mod_weighs.2.1 84 = .ok (.aload_n 0, 1) := by decide +kernel
theorem d_Mod_weighs_85 : decode M_Mod_weighs.2.1 85 = .ok (.getfield 262, 3) := by decide +kernel
theorem d_Mod_weighs_88 : decode M_Mod_weighs.2.1 88 = .ok (.ifCond .eq 11, 3) := by decide +kernel
theorem d_Mod_weighs_91 : decode M_Mod_weighs.2.1 91 = .ok (.iload_n 1, 1) := by decide +kernel
theorem d_Mod_weighs_92 : decode M_Mod_weighs.2.1 92 = .ok (.aload_n 0, 1) := by decide +kernel
theorem d_Mod_weighs_93 : decode M_Mod_weighs.2.1 93 = .ok (.getfield 266, 3) := by decide +kernel
theorem d_Mod_weighs_96 : decode M_Mod_weighs.2.1 96 = .ok (.if_icmp .le 7, 3) := by decide +kernel
theorem d_Mod_weighs_99 : decode M_Mod_weighs.2.1 99 = .ok (.iconst 1, 1) := by decide +kernel
theorem d_Mod_weighs_100 : decode M_Mod_weighs.2.1 100 = .ok (.goto 4, 3) := by decide +kernel
theorem d_Mod_weighs_103 : decode M_Mod_weighs.2.1 103 = .ok (.iconst 0, 1) := by decide +kernel
theorem d_Mod_weighs_104 : decode M_Mod_weighs.2.1 104 = .ok (.istore 4, 2) := by decide +kernel
theorem d_Mod_weighs_106 : decode M_Mod_weighs.2.1 106 = .ok (.iload 4, 2) := by decide +kernel
theorem d_Mod_weighs_108 : decode M_Mod_weighs.2.1 108 = .ok (.ifCond .ne 57, 3) := by decide +kernel
theorem d_Mod_weighs_111 : decode M_Mod_weighs.2.1 111 = .ok (.iload_n 1, 1) := by decide +kernel
theorem d_Mod_weighs_112 : decode M_Mod_weighs.2.1 112 = .ok (.aload_n 0, 1) := by decide +kernel
theorem d_Mod_weighs_113 : decode M_Mod_weighs.2.1 113 = .ok (.getfield 266, 3) := by decide +kernel
theorem d_Mod_weighs_116 : decode M_Mod_weighs.2.1 116 = .ok (.if_icmp .ne 49, 3) := by decide +kernel
theorem d_Mod_weighs_119 : decode M_Mod_weighs.2.1 119 = .ok (.iload_n 2, 1) := by decide +kernel
theorem d_Mod_weighs_120 : decode M_Mod_weighs.2.1 120 = .ok (.aload_n 0, 1) := by decide +kernel
theorem d_Mod_weighs_121 : decode M_Mod_weighs.2.1 121 = .ok (.getfield 269, 3) := by decide +kernel
theorem d_Mod_weighs_124 : decode M_Mod_weighs.2.1 124 = .ok (.if_icmp .gt 34, 3) := by decide +kernel
theorem d_Mod_weighs_127 : decode M_Mod_weighs.2.1 127 = .ok (.iload_n 2, 1) := by decide +kernel
theorem d_Mod_weighs_128 : decode M_Mod_weighs.2.1 128 = .ok (.aload_n 0, 1) := by decide +kernel
theorem d_Mod_weighs_129 : decode M_Mod_weighs.2.1 129 = .ok (.getfield 269, 3) := by decide +kernel
theorem d_Mod_weighs_132 : decode M_Mod_weighs.2.1 132 = .ok (.if_icmp .ne 30, 3) := by decide +kernel
theorem d_Mod_weighs_135 : decode M_Mod_weighs.2.1 135 = .ok (.iload_n 3, 1) := by decide +kernel
theorem d_Mod_weighs_136 : decode M_Mod_weighs.2.1 136 = .ok (.aload_n 0, 1) := by decide +kernel
theorem d_Mod_weighs_137 : decode M_Mod_weighs.2.1 137 = .ok (.getfield 272, 3) := by decide +kernel
theorem d_Mod_weighs_140 : decode M_Mod_weighs.2.1 140 = .ok (.if_icmp .lt 18, 3) := by decide +kernel
theorem d_Mod_weighs_143 : decode M_Mod_weighs.2.1 143 = .ok (.iload_n 3, 1) := by decide +kernel
theorem d_Mod_weighs_144 : decode M_Mod_weighs.2.1 144 = .ok (.aload_n 0, 1) := by decide +kernel
theorem d_Mod_weighs_145 : decode M_Mod_weighs.2.1 145 = .ok (.getfield 272, 3) := by decide +kernel
theorem d_Mod_weighs_148 : decode M_Mod_weighs.2.1 148 = .ok (.if_icmp .ne 14, 3) := by decide +kernel
theorem d_Mod_weighs_151 : decode M_Mod_weighs.2.1 151 = .ok (.aload_n 0, 1) := by decide +kernel
theorem d_Mod_weighs_152 : decode M_Mod_weighs.2.1 152 = .ok (.invokevirtual 275, 3) := by decide +kernel
theorem d_Mod_weighs_155 : decode M_Mod_weighs.2.1 155 = .ok (.ifCond .eq 7, 3) := by decide +kernel
theorem d_Mod_weighs_158 : decode M_Mod_weighs.2.1 158 = .ok (.iconst 1, 1) := by decide +kernel
theorem d_Mod_weighs_159 : decode M_Mod_weighs.2.1 159 = .ok (.goto 4, 3) := by decide +kernel
theorem d_Mod_weighs_162 : decode M_Mod_weighs.2.1 162 = .ok (.iconst 0, 1) := by decide +kernel
theorem d_Mod_weighs_163 : decode M_Mod_weighs.2.1 163 = .ok (.istore 4, 2) := by decide +kernel
theorem d_Mod_weighs_165 : decode M_Mod_weighs.2.1 165 = .ok (.iload 4, 2) := by decide +kernel
theorem d_Mod_weighs_167 : decode M_Mod_weighs.2.1 167 = .ok (.ifCond .ne 4, 3) := by decide +kernel
theorem d_Mod_weighs_170 : decode M_Mod_weighs.2.1 170 = .ok (.return_, 1) := by decide +kernel
theorem d_Mod_weighs_171 : decode M_Mod_weighs.2.1 171 = .ok (.aload_n 0, 1) := by decide +kernel
theorem d_Mod_weighs_172 : decode M_Mod_weighs.2.1 172 = .ok (.iconst 1, 1) := by decide +kernel
theorem d_Mod_weighs_173 : decode M_Mod_weighs.2.1 173 = .ok (.putfield 262, 3) := by decide +kernel
theorem d_Mod_weighs_176 : decode M_Mod_weighs.2.1 176 = .ok (.aload_n 0, 1) := by decide +kernel
theorem d_Mod_weighs_177 : decode M_Mod_weighs.2.1 177 = .ok (.iload_n 1, 1) := by decide +kernel
theorem d_Mod_weighs_178 : decode M_Mod_weighs.2.1 178 = .ok (.putfield 266, 3) := by decide +kernel
theorem d_Mod_weighs_181 : decode M_Mod_weighs.2.1 181 = .ok (.aload_n 0, 1) := by decide +kernel
theorem d_Mod_weighs_182 : decode M_Mod_weighs.2.1 182 = .ok (.iload_n 2, 1) := by decide +kernel
theorem d_Mod_weighs_183 : decode M_Mod_weighs.2.1 183 = .ok (.putfield 269, 3) := by decide +kernel
theorem d_Mod_weighs_186 : decode M_Mod_weighs.2.1 186 = .ok (.aload_n 0, 1) := by decide +kernel
theorem d_Mod_weighs_187 : decode M_Mod_weighs.2.1 187 = .ok (.iload_n 3, 1) := by decide +kernel
theorem d_Mod_weighs_188 : decode M_Mod_weighs.2.1 188 = .ok (.putfield 272, 3) := by decide +kernel
theorem d_Mod_weighs_191 : decode M_Mod_weighs.2.1 191 = .ok (.aload_n 0, 1) := by decide +kernel
theorem d_Mod_weighs_192 : decode M_Mod_weighs.2.1 192 = .ok (.aload_n 0, 1) := by decide +kernel
theorem d_Mod_weighs_193 : decode M_Mod_weighs.2.1 193 = .ok (.getfield 61, 3) := by decide +kernel
theorem d_Mod_weighs_196 : decode M_Mod_weighs.2.1 196 = .ok (.iconst 0, 1) := by decide +kernel
theorem d_Mod_weighs_197 : decode M_Mod_weighs.2.1 197 = .ok (.invokevirtual 231, 3) := by decide +kernel
theorem d_Mod_weighs_200 : decode M_Mod_weighs.2.1 200 = .ok (.return_, 1) := by decide +kernel
theorem d_Mod_isLess_0 : decode M_Mod_isLess.2.1 0 = .ok (.iconst 0, 1) := by decide +kernel
theorem d_Mod_isLess_1 : decode M_Mod_isLess.2.1 1 = .ok (.istore_n 1, 1) := by decide +kernel
theorem d_Mod_isLess_2 : decode M_Mod_isLess.2.1 2 = .ok (.iload_n 1, 1) := by decide +kernel
theorem d_Mod_isLess_3 : decode M_Mod_isLess.2.1 3 = .ok (.aload_n 0, 1) := by decide +kernel
theorem d_Mod_isLess_4 : decode M_Mod_isLess.2.1 4 = .ok (.getfield 105, 3) := by decide +kernel
theorem d_Mod_isLess_7 : decode M_Mod_isLess.2.1 7 = .ok (.if_icmp .ge 138, 3) := by decide +kernel
theorem d_Mod_isLess_10 : decode M_Mod_isLess.2.1 10 = .ok (.aload_n 0, 1) := by decide +kernel
theorem d_Mod_isLess_11 : decode M_Mod_isLess.2.1 11 = .ok (.getfield 52, 3) := by decide +kernel
theorem d_Mod_isLess_14 : decode M_Mod_isLess.2.1 14 = .ok (.iload_n 1, 1) := by decide +kernel
theorem d_Mod_isLess_15 : decode M_Mod_isLess.2.1 15 = .ok (.iaload, 1) := by decide +kernel
theorem d_Mod_isLess_16 : decode M_Mod_isLess.2.1 16 = .ok (.aload_n 0, 1) := by decide +kernel
theorem d_Mod_isLess_17 : decode M_Mod_isLess.2.1 17 = .ok (.getfield 61, 3) := by decide +kernel
theorem d_Mod_isLess_20 : decode M_Mod_isLess.2.1 20 = .ok (.bipush 36, 2) := by decide +kernel
theorem d_Mod_isLess_22 : decode M_Mod_isLess.2.1 22 = .ok (.iload_n 1, 1) := by decide +kernel
theorem d_Mod_isLess_23 : decode M_Mod_isLess.2.1 23 = .ok (.iadd, 1) := by decide +kernel
theorem d_Mod_isLess_24 : decode M_Mod_isLess.2.1 24 = .ok (.iaload, 1) := by decide +kernel
theorem d_Mod_isLess_25 : decode M_Mod_isLess.2.1 25 = .ok (.if_icmp .le 12, 3) := by decide +kernel
theorem d_Mod_isLess_28 : decode M_Mod_isLess.2.1 28 = .ok (.aload_n 0, 1) := by decide +kernel
theorem d_Mod_isLess_29 : decode M_Mod_isLess.2.1 29 = .ok (.getfield 52, 3) := by decide +kernel
theorem d_Mod_isLess_32 : decode M_Mod_isLess.2.1 32 = .ok (.iload_n 1, 1) := by decide +kernel
theorem d_Mod_isLess_33 : decode M_Mod_isLess.2.1 33 = .ok (.iaload, 1) := by decide +kernel
theorem d_Mod_isLess_34 : decode M_Mod_isLess.2.1 34 = .ok (.goto 12, 3) := by decide +kernel
theorem d_Mod_isLess_37 : decode M_Mod_isLess.2.1 37 = .ok (.aload_n 0, 1) := by decide +kernel
theorem d_Mod_isLess_38 : decode M_Mod_isLess.2.1 38 = .ok (.getfield 61, 3) := by decide +kernel
theorem d_Mod_isLess_41 : decode M_Mod_isLess.2.1 41 = .ok (.bipush 36, 2) := by decide +kernel
theorem d_Mod_isLess_43 : decode M_Mod_isLess.2.1 43 = .ok (.iload_n 1, 1) := by decide +kernel
theorem d_Mod_isLess_44 : decode M_Mod_isLess.2.1 44 = .ok (.iadd, 1) := by decide +kernel
theorem d_Mod_isLess_45 : decode M_Mod_isLess.2.1 45 = .ok (.iaload, 1) := by decide +kernel
theorem d_Mod_isLess_46 : decode M_Mod_isLess.2.1 46 = .ok (.istore_n 2, 1) := by decide +kernel
theorem d_Mod_isLess_47 : decode M_Mod_isLess.2.1 47 = .ok (.iconst 0, 1) := by decide +kernel
theorem d_Mod_isLess_48 : decode M_Mod_isLess.2.1 48 = .ok (.istore_n 3, 1) := by decide +kernel
theorem d_Mod_isLess_49 : decode M_Mod_isLess.2.1 49 = .ok (.iload_n 3, 1) := by decide +kernel
theorem d_Mod_isLess_50 : decode M_Mod_isLess.2.1 50 = .ok (.iload_n 2, 1) := by decide +kernel
theorem d_Mod_isLess_51 : decode M_Mod_isLess.2.1 51 = .ok (.if_icmp .gt 88, 3) := by decide +kernel
theorem d_Mod_isLess_54 : decode M_Mod_isLess.2.1 54 = .ok (.iload_n 3, 1) := by decide +kernel
theorem d_Mod_isLess_55 : decode M_Mod_isLess.2.1 55 = .ok (.aload_n 0, 1) := by decide +kernel
theorem d_Mod_isLess_56 : decode M_Mod_isLess.2.1 56 = .ok (.getfield 52, 3) := by decide +kernel
theorem d_Mod_isLess_59 : decode M_Mod_isLess.2.1 59 = .ok (.iload_n 1, 1) := by decide +kernel
theorem d_Mod_isLess_60 : decode M_Mod_isLess.2.1 60 = .ok (.iaload, 1) := by decide +kernel
theorem d_Mod_isLess_61 : decode M_Mod_isLess.2.1 61 = .ok (.if_icmp .ge 17, 3) := by decide +kernel
theorem d_Mod_isLess_64 : decode M_Mod_isLess.2.1 64 = .ok (.aload_n 0, 1) := by decide +kernel
theorem d_Mod_isLess_65 : decode M_Mod_isLess.2.1 65 = .ok (.getfield 49, 3) := by decide +kernel
theorem d_Mod_isLess_68 : decode M_Mod_isLess.2.1 68 = .ok (.bipush 12, 2) := by decide +kernel
theorem d_Mod_isLess_70 : decode M_Mod_isLess.2.1 70 = .ok (.iload_n 1, 1) := by decide +kernel
theorem d_Mod_isLess_71 : decode M_Mod_isLess.2.1 71 = .ok (.imul, 1) := by decide +kernel
theorem d_Mod_isLess_72 : decode M_Mod_isLess.2.1 72 = .ok (.iload_n 3, 1) := by decide +kernel
theorem d_Mod_isLess_73 : decode M_Mod_isLess.2.1 73 = .ok (.iadd, 1) := by decide +kernel
theorem d_Mod_isLess_74 : decode M_Mod_isLess.2.1 74 = .ok (.iaload, 1) := by decide +kernel
theorem d_Mod_isLess_75 : decode M_Mod_isLess.2.1 75 = .ok (.goto 5, 3) := by decide +kernel
theorem d_Mod_isLess_78 : decode M_Mod_isLess.2.1 78 = .ok (.bipush 99, 2) := by decide +kernel
theorem d_Mod_isLess_80 : decode M_Mod_isLess.2.1 80 = .ok (.istore 4, 2) := by decide +kernel
theorem d_Mod_isLess_82 : decode M_Mod_isLess.2.1 82 = .ok (.iload_n 3, 1) := by decide +kernel
theorem d_Mod_isLess_83 : decode M_Mod_isLess.2.1 83 = .ok (.aload_n 0, 1) := by decide +kernel
theorem d_Mod_isLess_84 : decode M_Mod_isLess.2.1 84 = .ok (.getfield 61, 3) := by decide +kernel
theorem d_Mod_isLess_87 : decode M_Mod_isLess.2.1 87 = .ok (.bipush 36, 2) := by decide +kernel
theorem d_Mod_isLess_89 : decode M_Mod_isLess.2.1 89 = .ok (.iload_n 1, 1) := by decide +kernel
theorem d_Mod_isLess_90 : decode M_Mod_isLess.2.1 90 = .ok (.iadd, 1) := by decide +kernel
theorem d_Mod_isLess_91 : decode M_Mod_isLess.2.1 91 = .ok (.iaload, 1) := by decide +kernel
theorem d_Mod_isLess_92 : decode M_Mod_isLess.2.1 92 = .ok (.if_icmp .ge 17, 3) := by decide +kernel
theorem d_Mod_isLess_95 : decode M_Mod_isLess.2.1 95 = .ok (.aload_n 0, 1) := by decide +kernel
theorem d_Mod_isLess_96 : decode M_Mod_isLess.2.1 96 = .ok (.getfield 61, 3) := by decide +kernel
theorem d_Mod_isLess_99 : decode M_Mod_isLess.2.1 99 = .ok (.bipush 12, 2) := by decide +kernel
theorem d_Mod_isLess_101 : decode M_Mod_isLess.2.1 101 = .ok (.iload_n 1, 1) := by decide +kernel
theorem d_Mod_isLess_102 : decode M_Mod_isLess.2.1 102 = .ok (.imul, 1) := by decide +kernel
theorem d_Mod_isLess_103 : decode M_Mod_isLess.2.1 103 = .ok (.iload_n 3, 1) := by decide +kernel
theorem d_Mod_isLess_104 : decode M_Mod_isLess.2.1 104 = .ok (.iadd, 1) := by decide +kernel
theorem d_Mod_isLess_105 : decode M_Mod_isLess.2.1 105 = .ok (.iaload, 1) := by decide +kernel
theorem d_Mod_isLess_106 : decode M_Mod_isLess.2.1 106 = .ok (.goto 5, 3) := by decide +kernel
theorem d_Mod_isLess_109 : decode M_Mod_isLess.2.1 109 = .ok (.bipush 99, 2) := by decide +kernel
theorem d_Mod_isLess_111 : decode M_Mod_isLess.2.1 111 = .ok (.istore 5, 2) := by decide +kernel
theorem d_Mod_isLess_113 : decode M_Mod_isLess.2.1 113 = .ok (.iload 4, 2) := by decide +kernel
theorem d_Mod_isLess_115 : decode M_Mod_isLess.2.1 115 = .ok (.iload 5, 2) := by decide +kernel
theorem d_Mod_isLess_117 : decode M_Mod_isLess.2.1 117 = .ok (.if_icmp .eq 16, 3) := by decide +kernel
theorem d_Mod_isLess_120 : decode M_Mod_isLess.2.1 120 = .ok (.iload 4, 2) := by decide +kernel
theorem d_Mod_isLess_122 : decode M_Mod_isLess.2.1 122 = .ok (.iload 5, 2) := by decide +kernel
theorem d_Mod_isLess_124 : decode M_Mod_isLess.2.1 124 = .ok (.if_icmp .ge 7, 3) := by decide +kernel
theorem d_Mod_isLess_127 : decode M_Mod_isLess.2.1 127 = .ok (.iconst 1, 1) := by decide +kernel
theorem d_Mod_isLess_128 : decode M_Mod_isLess.2.1 128 = .ok (.goto 4, 3) := by decide +kernel
theorem d_Mod_isLess_131 : decode M_Mod_isLess.2.1 131 = .ok (.iconst 0, 1) := by decide +kernel
theorem d_Mod_isLess_132 : decode M_Mod_isLess.2.1 132 = .ok (.ireturn, 1) := by decide +kernel
theorem d_Mod_isLess_133 : decode M_Mod_isLess.2.1 133 = .ok (.iinc 3 1, 3) := by decide +kernel
theorem d_Mod_isLess_136 : decode M_Mod_isLess.2.1 136 = .ok (.goto (-87), 3) := by decide +kernel
theorem d_Mod_isLess_139 : decode M_Mod_isLess.2.1 139 = .ok (.iinc 1 1, 3) := by decide +kernel
theorem d_Mod_isLess_142 : decode M_Mod_isLess.2.1 142 = .ok (.goto (-140), 3) := by decide +kernel
theorem d_Mod_isLess_145 : decode M_Mod_isLess.2.1 145 = .ok (.iconst 0, 1) := by decide +kernel
theorem d_Mod_isLess_146 : decode M_Mod_isLess.2.1 146 = .ok (.ireturn, 1) := by decide +kernel
theorem d_Mod_power_0 : decode M_Mod_power.2.1 0 = .ok (.iconst 1, 1) := by decide +kernel
theorem d_Mod_power_1 : decode M_Mod_power.2.1 1 = .ok (.istore_n 2, 1) := by decide +kernel
theorem d_Mod_power_2 : decode M_Mod_power.2.1 2 = .ok (.iconst 0, 1) := by decide +kernel
theorem d_Mod_power_3 : decode M_Mod_power.2.1 3 = .ok (.istore_n 3, 1) := by decide +kernel
theorem d_Mod_power_4 : decode M_Mod_power.2.1 4 = .ok (.iload_n 3, 1) := by decide +kernel
theorem d_Mod_power_5 : decode M_Mod_power.2.1 5 = .ok (.iload_n 1, 1) := by decide +kernel
theorem d_Mod_power_6 : decode M_Mod_power.2.1 6 = .ok (.if_icmp .ge 13, 3) := by decide +kernel
theorem d_Mod_power_9 : decode M_Mod_power.2.1 9 = .ok (.iload_n 2, 1) := by decide +kernel
theorem d_Mod_power_10 : decode M_Mod_power.2.1 10 = .ok (.iload_n 0, 1) := by decide +kernel
theorem d_Mod_power_11 : decode M_Mod_power.2.1 11 = .ok (.imul, 1) := by decide +kernel
theorem d_Mod_power_12 : decode M_Mod_power.2.1 12 = .ok (.istore_n 2, 1) := by decide +kernel
theorem d_Mod_power_13 : decode M_Mod_power.2.1 13 = .ok (.iinc 3 1, 3) := by decide +kernel
theorem d_Mod_power_16 : decode M_Mod_power.2.1 16 = .ok (.goto (-12), 3) := by decide +kernel
theorem d_Mod_power_19 : decode M_Mod_power.2.1 19 = .ok (.iload_n 2, 1) := by decide +kernel
theorem d_Mod_power_20 : decode M_Mod_power.2.1 20 = .ok (.ireturn, 1) := by decide +kernel
theorem d_Mod_lays_0 : decode M_Mod_lays.2.1 0 = .ok (.iconst 0, 1) := by decide +kernel
theorem d_Mod_lays_1 : decode M_Mod_lays.2.1 1 = .ok (.istore 4, 2) := by decide +kernel
theorem d_Mod_lays_3 : decode M_Mod_lays.2.1 3 = .ok (.iload_n 1, 1) := by decide +kernel
theorem d_Mod_lays_4 : decode M_Mod_lays.2.1 4 = .ok (.istore 5, 2) := by decide +kernel
theorem d_Mod_lays_6 : decode M_Mod_lays.2.1 6 = .ok (.iconst 0, 1) := by decide +kernel
theorem d_Mod_lays_7 : decode M_Mod_lays.2.1 7 = .ok (.istore 6, 2) := by decide +kernel
theorem d_Mod_lays_9 : decode M_Mod_lays.2.1 9 = .ok (.iload 6, 2) := by decide +kernel
theorem d_Mod_lays_11 : decode M_Mod_lays.2.1 11 = .ok (.iload_n 2, 1) := by decide +kernel
theorem d_Mod_lays_12 : decode M_Mod_lays.2.1 12 = .ok (.if_icmp .ge 74, 3) := by decide +kernel
theorem d_Mod_lays_15 : decode M_Mod_lays.2.1 15 = .ok (.iload 5, 2) := by decide +kernel
theorem d_Mod_lays_17 : decode M_Mod_lays.2.1 17 = .ok (.aload_n 0, 1) := by decide +kernel
theorem d_Mod_lays_18 : decode M_Mod_lays.2.1 18 = .ok (.getfield 102, 3) := by decide +kernel
theorem d_Mod_lays_21 : decode M_Mod_lays.2.1 21 = .ok (.irem, 1) := by decide +kernel
theorem d_Mod_lays_22 : decode M_Mod_lays.2.1 22 = .ok (.istore 7, 2) := by decide +kernel
theorem d_Mod_lays_24 : decode M_Mod_lays.2.1 24 = .ok (.iload 5, 2) := by decide +kernel
theorem d_Mod_lays_26 : decode M_Mod_lays.2.1 26 = .ok (.aload_n 0, 1) := by decide +kernel
theorem d_Mod_lays_27 : decode M_Mod_lays.2.1 27 = .ok (.getfield 102, 3) := by decide +kernel
theorem d_Mod_lays_30 : decode M_Mod_lays.2.1 30 = .ok (.idiv, 1) := by decide +kernel
theorem d_Mod_lays_31 : decode M_Mod_lays.2.1 31 = .ok (.istore 5, 2) := by decide +kernel
theorem d_Mod_lays_33 : decode M_Mod_lays.2.1 33 = .ok (.iload 4, 2) := by decide +kernel
theorem d_Mod_lays_35 : decode M_Mod_lays.2.1 35 = .ok (.iload 7, 2) := by decide +kernel
theorem d_Mod_lays_37 : decode M_Mod_lays.2.1 37 = .ok (.ishr, 1) := by decide +kernel
theorem d_Mod_lays_38 : decode M_Mod_lays.2.1 38 = .ok (.iconst 1, 1) := by decide +kernel
theorem d_Mod_lays_39 : decode M_Mod_lays.2.1 39 = .ok (.iand, 1) := by decide +kernel
theorem d_Mod_lays_40 : decode M_Mod_lays.2.1 40 = .ok (.iconst 1, 1) := by decide +kernel
theorem d_Mod_lays_41 : decode M_Mod_lays.2.1 41 = .ok (.if_icmp .ne 5, 3) := by decide +kernel
theorem d_Mod_lays_44 : decode M_Mod_lays.2.1 44 = .ok (.iconst 0, 1) := by decide +kernel
theorem d_Mod_lays_45 : decode M_Mod_lays.2.1 45 = .ok (.ireturn, 1) := by decide +kernel
theorem d_Mod_lays_46 : decode M_Mod_lays.2.1 46 = .ok (.iload 4, 2) := by decide +kernel
theorem d_Mod_lays_48 : decode M_Mod_lays.2.1 48 = .ok (.iconst 1, 1) := by decide +kernel
theorem d_Mod_lays_49 : decode M_Mod_lays.2.1 49 = .ok (.iload 7, 2) := by decide +kernel
theorem d_Mod_lays_51 : decode M_Mod_lays.2.1 51 = .ok (.ishl, 1) := by decide +kernel
theorem d_Mod_lays_52 : decode M_Mod_lays.2.1 52 = .ok (.ior, 1) := by decide +kernel
theorem d_Mod_lays_53 : decode M_Mod_lays.2.1 53 = .ok (.istore 4, 2) := by decide +kernel
theorem d_Mod_lays_55 : decode M_Mod_lays.2.1 55 = .ok (.aload_n 0, 1) := by decide +kernel
theorem d_Mod_lays_56 : decode M_Mod_lays.2.1 56 = .ok (.getfield 49, 3) := by decide +kernel
theorem d_Mod_lays_59 : decode M_Mod_lays.2.1 59 = .ok (.iload 6, 2) := by decide +kernel
theorem d_Mod_lays_61 : decode M_Mod_lays.2.1 61 = .ok (.iload_n 3, 1) := by decide +kernel
theorem d_Mod_lays_62 : decode M_Mod_lays.2.1 62 = .ok (.if_icmp .ge 8, 3) := by decide +kernel
theorem d_Mod_lays_65 : decode M_Mod_lays.2.1 65 = .ok (.iload 6, 2) := by decide +kernel
theorem d_Mod_lays_67 : decode M_Mod_lays.2.1 67 = .ok (.goto 10, 3) := by decide +kernel
theorem d_Mod_lays_70 : decode M_Mod_lays.2.1 70 = .ok (.bipush 12, 2) := by decide +kernel
theorem d_Mod_lays_72 : decode M_Mod_lays.2.1 72 = .ok (.iload 6, 2) := by decide +kernel
theorem d_Mod_lays_74 : decode M_Mod_lays.2.1 74 = .ok (.iadd, 1) := by decide +kernel
theorem d_Mod_lays_75 : decode M_Mod_lays.2.1 75 = .ok (.iload_n 3, 1) := by decide +kernel
theorem d_Mod_lays_76 : decode M_Mod_lays.2.1 76 = .ok (.isub, 1) := by decide +kernel
theorem d_Mod_lays_77 : decode M_Mod_lays.2.1 77 = .ok (.iload 7, 2) := by decide +kernel
theorem d_Mod_lays_79 : decode M_Mod_lays.2.1 79 = .ok (.iastore, 1) := by decide +kernel
theorem d_Mod_lays_80 : decode M_Mod_lays.2.1 80 = .ok (.iinc 6 1, 3) := by decide +kernel
theorem d_Mod_lays_83 : decode M_Mod_lays.2.1 83 = .ok (.goto (-74), 3) := by decide +kernel
theorem d_Mod_lays_86 : decode M_Mod_lays.2.1 86 = .ok (.aload_n 0, 1) := by decide +kernel
theorem d_Mod_lays_87 : decode M_Mod_lays.2.1 87 = .ok (.getfield 52, 3) := by decide +kernel
theorem d_Mod_lays_90 : decode M_Mod_lays.2.1 90 = .ok (.iconst 0, 1) := by decide +kernel
theorem d_Mod_lays_91 : decode M_Mod_lays.2.1 91 = .ok (.iload_n 3, 1) := by decide +kernel
theorem d_Mod_lays_92 : decode M_Mod_lays.2.1 92 = .ok (.iastore, 1) := by decide +kernel
theorem d_Mod_lays_93 : decode M_Mod_lays.2.1 93 = .ok (.aload_n 0, 1) := by decide +kernel
theorem d_Mod_lays_94 : decode M_Mod_lays.2.1 94 = .ok (.getfield 105, 3) := by decide +kernel
theorem d_Mod_lays_97 : decode M_Mod_lays.2.1 97 = .ok (.iconst 1, 1) := by decide +kernel
theorem d_Mod_lays_98 : decode M_Mod_lays.2.1 98 = .ok (.if_icmp .le 12, 3) := by decide +kernel
theorem d_Mod_lays_101 : decode M_Mod_lays.2.1 101 = .ok (.aload_n 0, 1) := by decide +kernel
theorem d_Mod_lays_102 : decode M_Mod_lays.2.1 102 = .ok (.getfield 52, 3) := by decide +kernel
theorem d_Mod_lays_105 : decode M_Mod_lays.2.1 105 = .ok (.iconst 1, 1) := by decide +kernel
theorem d_Mod_lays_106 : decode M_Mod_lays.2.1 106 = .ok (.iload_n 2, 1) := by decide +kernel
theorem d_Mod_lays_107 : decode M_Mod_lays.2.1 107 = .ok (.iload_n 3, 1) := by decide +kernel
theorem d_Mod_lays_108 : decode M_Mod_lays.2.1 108 = .ok (.isub, 1) := by decide +kernel
theorem d_Mod_lays_109 : decode M_Mod_lays.2.1 109 = .ok (.iastore, 1) := by decide +kernel
theorem d_Mod_lays_110 : decode M_Mod_lays.2.1 110 = .ok (.iconst 1, 1) := by decide +kernel
theorem d_Mod_lays_111 : decode M_Mod_lays.2.1 111 = .ok (.ireturn, 1) := by decide +kernel
theorem d_Mod_undo_0 : decode M_Mod_undo.2.1 0 = .ok (.aload_n 0, 1) := by decide +kernel
theorem d_Mod_undo_1 : decode M_Mod_undo.2.1 1 = .ok (.getfield 137, 3) := by decide +kernel
theorem d_Mod_undo_4 : decode M_Mod_undo.2.1 4 = .ok (.ifCond .ne 10, 3) := by decide +kernel
theorem d_Mod_undo_7 : decode M_Mod_undo.2.1 7 = .ok (.aload_n 0, 1) := by decide +kernel
theorem d_Mod_undo_8 : decode M_Mod_undo.2.1 8 = .ok (.bipush (-2), 2) := by decide +kernel
theorem d_Mod_undo_10 : decode M_Mod_undo.2.1 10 = .ok (.invokevirtual 126, 3) := by decide +kernel
theorem d_Mod_undo_13 : decode M_Mod_undo.2.1 13 = .ok (.ireturn, 1) := by decide +kernel
theorem d_Mod_undo_14 : decode M_Mod_undo.2.1 14 = .ok (.aload_n 0, 1) := by decide +kernel
theorem d_Mod_undo_15 : decode M_Mod_undo.2.1 15 = .ok (.dup, 1) := by decide +kernel
theorem d_Mod_undo_16 : decode M_Mod_undo.2.1 16 = .ok (.getfield 137, 3) := by decide +kernel
theorem d_Mod_undo_19 : decode M_Mod_undo.2.1 19 = .ok (.iconst 1, 1) := by decide +kernel
theorem d_Mod_undo_20 : decode M_Mod_undo.2.1 20 = .ok (.isub, 1) := by decide +kernel
theorem d_Mod_undo_21 : decode M_Mod_undo.2.1 21 = .ok (.putfield 137, 3) := by decide +kernel
theorem d_Mod_undo_24 : decode M_Mod_undo.2.1 24 = .ok (.aload_n 0, 1) := by decide +kernel
theorem d_Mod_undo_25 : decode M_Mod_undo.2.1 25 = .ok (.aload_n 0, 1) := by decide +kernel
theorem d_Mod_undo_26 : decode M_Mod_undo.2.1 26 = .ok (.getfield 55, 3) := by decide +kernel
theorem d_Mod_undo_29 : decode M_Mod_undo.2.1 29 = .ok (.bipush 39, 2) := by decide +kernel
theorem d_Mod_undo_31 : decode M_Mod_undo.2.1 31 = .ok (.aload_n 0, 1) := by decide +kernel
theorem d_Mod_undo_32 : decode M_Mod_undo.2.1 32 = .ok (.getfield 137, 3) := by decide +kernel
theorem d_Mod_undo_35 : decode M_Mod_undo.2.1 35 = .ok (.imul, 1) := by decide +kernel
theorem d_Mod_undo_36 : decode M_Mod_undo.2.1 36 = .ok (.invokevirtual 217, 3) := by decide +kernel
theorem d_Mod_undo_39 : decode M_Mod_undo.2.1 39 = .ok (.aload_n 0, 1) := by decide +kernel
theorem d_Mod_undo_40 : decode M_Mod_undo.2.1 40 = .ok (.invokevirtual 209, 3) := by decide +kernel
theorem d_Mod_undo_43 : decode M_Mod_undo.2.1 43 = .ok (.ireturn, 1) := by decide +kernel
theorem d_Mod_clear_0 : decode M_Mod_clear.2.1 0 = .ok (.aload_n 0, 1) := by decide +kernel
theorem d_Mod_clear_1 : decode M_Mod_clear.2.1 1 = .ok (.aload_n 0, 1) := by decide +kernel
theorem d_Mod_clear_2 : decode M_Mod_clear.2.1 2 = .ok (.getfield 58, 3) := by decide +kernel
theorem d_Mod_clear_5 : decode M_Mod_clear.2.1 5 = .ok (.iconst 0, 1) := by decide +kernel
theorem d_Mod_clear_6 : decode M_Mod_clear.2.1 6 = .ok (.invokevirtual 231, 3) := by decide +kernel
theorem d_Mod_clear_9 : decode M_Mod_clear.2.1 9 = .ok (.aload_n 0, 1) := by decide +kernel
theorem d_Mod_clear_10 : decode M_Mod_clear.2.1 10 = .ok (.invokevirtual 289, 3) := by decide +kernel
theorem d_Mod_clear_13 : decode M_Mod_clear.2.1 13 = .ok (.istore_n 1, 1) := by decide +kernel
theorem d_Mod_clear_14 : decode M_Mod_clear.2.1 14 = .ok (.iconst 0, 1) := by decide +kernel
theorem d_Mod_clear_15 : decode M_Mod_clear.2.1 15 = .ok (.istore_n 2, 1) := by decide +kernel
theorem d_Mod_clear_16 : decode M_Mod_clear.2.1 16 = .ok (.iload_n 2, 1) := by decide +kernel
theorem d_Mod_clear_17 : decode M_Mod_clear.2.1 17 = .ok (.iconst 3, 1) := by decide +kernel
theorem d_Mod_clear_18 : decode M_Mod_clear.2.1 18 = .ok (.if_icmp .ge 16, 3) := by decide +kernel
theorem d_Mod_clear_21 : decode M_Mod_clear.2.1 21 = .ok (.aload_n 0, 1) := by decide +kernel
theorem d_Mod_clear_22 : decode M_Mod_clear.2.1 22 = .ok (.getfield 52, 3) := by decide +kernel
theorem d_Mod_clear_25 : decode M_Mod_clear.2.1 25 = .ok (.iload_n 2, 1) := by decide +kernel
theorem d_Mod_clear_26 : decode M_Mod_clear.2.1 26 = .ok (.iconst 0, 1) := by decide +kernel
theorem d_Mod_clear_27 : decode M_Mod_clear.2.1 27 = .ok (.iastore, 1) := by decide +kernel
theorem d_Mod_clear_28 : decode M_Mod_clear.2.1 28 = .ok (.iinc 2 1, 3) := by decide +kernel
theorem d_Mod_clear_31 : decode M_Mod_clear.2.1 31 = .ok (.goto (-15), 3) := by decide +kernel
theorem d_Mod_clear_34 : decode M_Mod_clear.2.1 34 = .ok (.aload_n 0, 1) := by decide +kernel
theorem d_Mod_clear_35 : decode M_Mod_clear.2.1 35 = .ok (.invokevirtual 221, 3) := by decide +kernel
theorem d_Mod_clear_38 : decode M_Mod_clear.2.1 38 = .ok (.iload_n 1, 1) := by decide +kernel
theorem d_Mod_clear_39 : decode M_Mod_clear.2.1 39 = .ok (.ireturn, 1) := by decide +kernel
theorem d_Mod_inRounds_0 : decode M_Mod_inRounds.2.1 0 = .ok (.aload_n 0, 1) := by decide +kernel
theorem d_Mod_inRounds_1 : decode M_Mod_inRounds.2.1 1 = .ok (.getfield 52, 3) := by decide +kernel
theorem d_Mod_inRounds_4 : decode M_Mod_inRounds.2.1 4 = .ok (.iconst 0, 1) := by decide +kernel
theorem d_Mod_inRounds_5 : decode M_Mod_inRounds.2.1 5 = .ok (.iaload, 1) := by decide +kernel
theorem d_Mod_inRounds_6 : decode M_Mod_inRounds.2.1 6 = .ok (.aload_n 0, 1) := by decide +kernel
theorem d_Mod_inRounds_7 : decode M_Mod_inRounds.2.1 7 = .ok (.getfield 52, 3) := by decide +kernel
theorem d_Mod_inRounds_10 : decode M_Mod_inRounds.2.1 10 = .ok (.iconst 1, 1) := by decide +kernel
theorem d_Mod_inRounds_11 : decode M_Mod_inRounds.2.1 11 = .ok (.iaload, 1) := by decide +kernel
theorem d_Mod_inRounds_12 : decode M_Mod_inRounds.2.1 12 = .ok (.iadd, 1) := by decide +kernel
theorem d_Mod_inRounds_13 : decode M_Mod_inRounds.2.1 13 = .ok (.aload_n 0, 1) := by decide +kernel
theorem d_Mod_inRounds_14 : decode M_Mod_inRounds.2.1 14 = .ok (.getfield 52, 3) := by decide +kernel
theorem d_Mod_inRounds_17 : decode M_Mod_inRounds.2.1 17 = .ok (.iconst 2, 1) := by decide +kernel
theorem d_Mod_inRounds_18 : decode M_Mod_inRounds.2.1 18 = .ok (.iaload, 1) := by decide +kernel
theorem d_Mod_inRounds_19 : decode M_Mod_inRounds.2.1 19 = .ok (.iadd, 1) := by decide +kernel
theorem d_Mod_inRounds_20 : decode M_Mod_inRounds.2.1 20 = .ok (.ireturn, 1) := by decide +kernel
theorem d_Mod_count_0 : decode M_Mod_count.2.1 0 = .ok (.iconst 0, 1) := by decide +kernel
theorem d_Mod_count_1 : decode M_Mod_count.2.1 1 = .ok (.istore_n 2, 1) := by decide +kernel
theorem d_Mod_count_2 : decode M_Mod_count.2.1 2 = .ok (.iload_n 1, 1) := by decide +kernel
theorem d_Mod_count_3 : decode M_Mod_count.2.1 3 = .ok (.tableswitch 126 0 6 #[41, 46, 51, 61, 105, 110, 110], 41) := by decide +kernel
theorem d_Mod_count_44 : decode M_Mod_count.2.1 44 = .ok (.aload_n 0, 1) := by decide +kernel
theorem d_Mod_count_45 : decode M_Mod_count.2.1 45 = .ok (.getfield 102, 3) := by decide +kernel
theorem d_Mod_count_48 : decode M_Mod_count.2.1 48 = .ok (.ireturn, 1) := by decide +kernel
theorem d_Mod_count_49 : decode M_Mod_count.2.1 49 = .ok (.aload_n 0, 1) := by decide +kernel
theorem d_Mod_count_50 : decode M_Mod_count.2.1 50 = .ok (.getfield 105, 3) := by decide +kernel
theorem d_Mod_count_53 : decode M_Mod_count.2.1 53 = .ok (.ireturn, 1) := by decide +kernel
theorem d_Mod_count_54 : decode M_Mod_count.2.1 54 = .ok (.aload_n 0, 1) := by decide +kernel
theorem d_Mod_count_55 : decode M_Mod_count.2.1 55 = .ok (.getfield 102, 3) := by decide +kernel
theorem d_Mod_count_58 : decode M_Mod_count.2.1 58 = .ok (.aload_n 0, 1) := by decide +kernel
theorem d_Mod_count_59 : decode M_Mod_count.2.1 59 = .ok (.invokevirtual 289, 3) := by decide +kernel
theorem d_Mod_count_62 : decode M_Mod_count.2.1 62 = .ok (.isub, 1) := by decide +kernel
theorem d_Mod_count_63 : decode M_Mod_count.2.1 63 = .ok (.ireturn, 1) := by decide +kernel
theorem d_Mod_count_64 : decode M_Mod_count.2.1 64 = .ok (.iconst 0, 1) := by decide +kernel
theorem d_Mod_count_65 : decode M_Mod_count.2.1 65 = .ok (.istore_n 3, 1) := by decide +kernel
theorem d_Mod_count_66 : decode M_Mod_count.2.1 66 = .ok (.iload_n 3, 1) := by decide +kernel
theorem d_Mod_count_67 : decode M_Mod_count.2.1 67 = .ok (.aload_n 0, 1) := by decide +kernel
theorem d_Mod_count_68 : decode M_Mod_count.2.1 68 = .ok (.getfield 102, 3) := by decide +kernel
theorem d_Mod_count_71 : decode M_Mod_count.2.1 71 = .ok (.if_icmp .ge 35, 3) := by decide +kernel
theorem d_Mod_count_74 : decode M_Mod_count.2.1 74 = .ok (.iload_n 2, 1) := by decide +kernel
theorem d_Mod_count_75 : decode M_Mod_count.2.1 75 = .ok (.aload_n 0, 1) := by decide +kernel
theorem d_Mod_count_76 : decode M_Mod_count.2.1 76 = .ok (.getfield 13, 3) := by decide +kernel
theorem d_Mod_count_79 : decode M_Mod_count.2.1 79 = .ok (.iload_n 3, 1) := by decide +kernel
theorem d_Mod_count_80 : decode M_Mod_count.2.1 80 = .ok (.iaload, 1) := by decide +kernel
theorem d_Mod_count_81 : decode M_Mod_count.2.1 81 = .ok (.iconst 4, 1) := by decide +kernel
theorem d_Mod_count_82 : decode M_Mod_count.2.1 82 = .ok (.if_icmp .ne 15, 3) := by decide +kernel
theorem d_Mod_count_85 : decode M_Mod_count.2.1 85 = .ok (.aload_n 0, 1) := by decide +kernel
theorem d_Mod_count_86 : decode M_Mod_count.2.1 86 = .ok (.iload_n 3, 1) := by decide +kernel
theorem d_Mod_count_87 : decode M_Mod_count.2.1 87 = .ok (.invokevirtual 156, 3) := by decide +kernel
theorem d_Mod_count_90 : decode M_Mod_count.2.1 90 = .ok (.ifCond .ge 7, 3) := by decide +kernel
theorem d_Mod_count_93 : decode M_Mod_count.2.1 93 = .ok (.iconst 1, 1) := by decide +kernel
theorem d_Mod_count_94 : decode M_Mod_count.2.1 94 = .ok (.goto 4, 3) := by decide +kernel
theorem d_Mod_count_97 : decode M_Mod_count.2.1 97 = .ok (.iconst 0, 1) := by decide +kernel
theorem d_Mod_count_98 : decode M_Mod_count.2.1 98 = .ok (.iadd, 1) := by decide +kernel
theorem d_Mod_count_99 : decode M_Mod_count.2.1 99 = .ok (.istore_n 2, 1) := by decide +kernel
theorem d_Mod_count_100 : decode M_Mod_count.2.1 100 = .ok (.iinc 3 1, 3) := by decide +kernel
theorem d_Mod_count_103 : decode M_Mod_count.2.1 103 = .ok (.goto (-37), 3) := by decide +kernel
theorem d_Mod_count_106 : decode M_Mod_count.2.1 106 = .ok (.iload_n 2, 1) := by decide +kernel
theorem d_Mod_count_107 : decode M_Mod_count.2.1 107 = .ok (.ireturn, 1) := by decide +kernel
theorem d_Mod_count_108 : decode M_Mod_count.2.1 108 = .ok (.aload_n 0, 1) := by decide +kernel
theorem d_Mod_count_109 : decode M_Mod_count.2.1 109 = .ok (.getfield 137, 3) := by decide +kernel
theorem d_Mod_count_112 : decode M_Mod_count.2.1 112 = .ok (.ireturn, 1) := by decide +kernel
theorem d_Mod_count_113 : decode M_Mod_count.2.1 113 = .ok (.aload_n 0, 1) := by decide +kernel
theorem d_Mod_count_114 : decode M_Mod_count.2.1 114 = .ok (.iload_n 1, 1) := by decide +kernel
theorem d_Mod_count_115 : decode M_Mod_count.2.1 115 = .ok (.bipush 6, 2) := by decide +kernel
theorem d_Mod_count_117 : decode M_Mod_count.2.1 117 = .ok (.if_icmp .ne 7, 3) := by decide +kernel
theorem d_Mod_count_120 : decode M_Mod_count.2.1 120 = .ok (.iconst 1, 1) := by decide +kernel
theorem d_Mod_count_121 : decode M_Mod_count.2.1 121 = .ok (.goto 4, 3) := by decide +kernel
theorem d_Mod_count_124 : decode M_Mod_count.2.1 124 = .ok (.iconst 0, 1) := by decide +kernel
theorem d_Mod_count_125 : decode M_Mod_count.2.1 125 = .ok (.invokevirtual 292, 3) := by decide +kernel
theorem d_Mod_count_128 : decode M_Mod_count.2.1 128 = .ok (.ireturn, 1) := by decide +kernel
theorem d_Mod_count_129 : decode M_Mod_count.2.1 129 = .ok (.aload_n 0, 1) := by decide +kernel
theorem d_Mod_count_130 : decode M_Mod_count.2.1 130 = .ok (.bipush (-7), 2) := by decide +kernel
theorem d_Mod_count_132 : decode M_Mod_count.2.1 132 = .ok (.invokevirtual 126, 3) := by decide +kernel
theorem d_Mod_count_135 : decode M_Mod_count.2.1 135 = .ok (.ireturn, 1) := by decide +kernel
theorem d_Mod_minutes_0 : decode M_Mod_minutes.2.1 0 = .ok (.iconst 0, 1) := by decide +kernel
theorem d_Mod_minutes_1 : decode M_Mod_minutes.2.1 1 = .ok (.istore_n 2, 1) := by decide +kernel
theorem d_Mod_minutes_2 : decode M_Mod_minutes.2.1 2 = .ok (.iconst 0, 1) := by decide +kernel
theorem d_Mod_minutes_3 : decode M_Mod_minutes.2.1 3 = .ok (.istore_n 3, 1) := by decide +kernel
theorem d_Mod_minutes_4 : decode M_Mod_minutes.2.1 4 = .ok (.iload_n 3, 1) := by decide +kernel
theorem d_Mod_minutes_5 : decode M_Mod_minutes.2.1 5 = .ok (.aload_n 0, 1) := by decide +kernel
theorem d_Mod_minutes_6 : decode M_Mod_minutes.2.1 6 = .ok (.getfield 105, 3) := by decide +kernel
theorem d_Mod_minutes_9 : decode M_Mod_minutes.2.1 9 = .ok (.if_icmp .ge 111, 3) := by decide +kernel
theorem d_Mod_minutes_12 : decode M_Mod_minutes.2.1 12 = .ok (.aload_n 0, 1) := by decide +kernel
theorem d_Mod_minutes_13 : decode M_Mod_minutes.2.1 13 = .ok (.iload_n 3, 1) := by decide +kernel
theorem d_Mod_minutes_14 : decode M_Mod_minutes.2.1 14 = .ok (.invokevirtual 201, 3) := by decide +kernel
theorem d_Mod_minutes_17 : decode M_Mod_minutes.2.1 17 = .ok (.istore 4, 2) := by decide +kernel
theorem d_Mod_minutes_19 : decode M_Mod_minutes.2.1 19 = .ok (.iconst 0, 1) := by decide +kernel
theorem d_Mod_minutes_20 : decode M_Mod_minutes.2.1 20 = .ok (.istore 5, 2) := by decide +kernel
theorem d_Mod_minutes_22 : decode M_Mod_minutes.2.1 22 = .ok (.iload 5, 2) := by decide +kernel
theorem d_Mod_minutes_24 : decode M_Mod_minutes.2.1 24 = .ok (.aload_n 0, 1) := by decide +kernel
theorem d_Mod_minutes_25 : decode M_Mod_minutes.2.1 25 = .ok (.getfield 52, 3) := by decide +kernel
theorem d_Mod_minutes_28 : decode M_Mod_minutes.2.1 28 = .ok (.iload_n 3, 1) := by decide +kernel
theorem d_Mod_minutes_29 : decode M_Mod_minutes.2.1 29 = .ok (.iaload, 1) := by decide +kernel
theorem d_Mod_minutes_30 : decode M_Mod_minutes.2.1 30 = .ok (.if_icmp .ge 84, 3) := by decide +kernel
theorem d_Mod_minutes_33 : decode M_Mod_minutes.2.1 33 = .ok (.aload_n 0, 1) := by decide +kernel
theorem d_Mod_minutes_34 : decode M_Mod_minutes.2.1 34 = .ok (.getfield 49, 3) := by decide +kernel
theorem d_Mod_minutes_37 : decode M_Mod_minutes.2.1 37 = .ok (.bipush 12, 2) := by decide +kernel
theorem d_Mod_minutes_39 : decode M_Mod_minutes.2.1 39 = .ok (.iload_n 3, 1) := by decide +kernel
theorem d_Mod_minutes_40 : decode M_Mod_minutes.2.1 40 = .ok (.imul, 1) := by decide +kernel
theorem d_Mod_minutes_41 : decode M_Mod_minutes.2.1 41 = .ok (.iload 5, 2) := by decide +kernel
theorem d_Mod_minutes_43 : decode M_Mod_minutes.2.1 43 = .ok (.iadd, 1) := by decide +kernel
theorem d_Mod_minutes_44 : decode M_Mod_minutes.2.1 44 = .ok (.iaload, 1) := by decide +kernel
theorem d_Mod_minutes_45 : decode M_Mod_minutes.2.1 45 = .ok (.istore 6, 2) := by decide +kernel
theorem d_Mod_minutes_47 : decode M_Mod_minutes.2.1 47 = .ok (.iload_n 2, 1) := by decide +kernel
theorem d_Mod_minutes_48 : decode M_Mod_minutes.2.1 48 = .ok (.iload_n 1, 1) := by decide +kernel
theorem d_Mod_minutes_49 : decode M_Mod_minutes.2.1 49 = .ok (.ifCond .eq 42, 3) := by decide +kernel
theorem d_Mod_minutes_52 : decode M_Mod_minutes.2.1 52 = .ok (.aload_n 0, 1) := by decide +kernel
theorem d_Mod_minutes_53 : decode M_Mod_minutes.2.1 53 = .ok (.getfield 80, 3) := by decide +kernel
theorem d_Mod_minutes_56 : decode M_Mod_minutes.2.1 56 = .ok (.iload 5, 2) := by decide +kernel
theorem d_Mod_minutes_58 : decode M_Mod_minutes.2.1 58 = .ok (.iaload, 1) := by decide +kernel
theorem d_Mod_minutes_59 : decode M_Mod_minutes.2.1 59 = .ok (.aload_n 0, 1) := by decide +kernel
theorem d_Mod_minutes_60 : decode M_Mod_minutes.2.1 60 = .ok (.getfield 22, 3) := by decide +kernel
theorem d_Mod_minutes_63 : decode M_Mod_minutes.2.1 63 = .ok (.iload 6, 2) := by decide +kernel
theorem d_Mod_minutes_65 : decode M_Mod_minutes.2.1 65 = .ok (.iaload, 1) := by decide +kernel
theorem d_Mod_minutes_66 : decode M_Mod_minutes.2.1 66 = .ok (.if_icmp .le 21, 3) := by decide +kernel
theorem d_Mod_minutes_69 : decode M_Mod_minutes.2.1 69 = .ok (.aload_n 0, 1) := by decide +kernel
theorem d_Mod_minutes_70 : decode M_Mod_minutes.2.1 70 = .ok (.getfield 80, 3) := by decide +kernel
theorem d_Mod_minutes_73 : decode M_Mod_minutes.2.1 73 = .ok (.iload 5, 2) := by decide +kernel
theorem d_Mod_minutes_75 : decode M_Mod_minutes.2.1 75 = .ok (.iaload, 1) := by decide +kernel
theorem d_Mod_minutes_76 : decode M_Mod_minutes.2.1 76 = .ok (.aload_n 0, 1) := by decide +kernel
theorem d_Mod_minutes_77 : decode M_Mod_minutes.2.1 77 = .ok (.getfield 22, 3) := by decide +kernel
theorem d_Mod_minutes_80 : decode M_Mod_minutes.2.1 80 = .ok (.iload 6, 2) := by decide +kernel
theorem d_Mod_minutes_82 : decode M_Mod_minutes.2.1 82 = .ok (.iaload, 1) := by decide +kernel
theorem d_Mod_minutes_83 : decode M_Mod_minutes.2.1 83 = .ok (.isub, 1) := by decide +kernel
theorem d_Mod_minutes_84 : decode M_Mod_minutes.2.1 84 = .ok (.goto 22, 3) := by decide +kernel
theorem d_Mod_minutes_87 : decode M_Mod_minutes.2.1 87 = .ok (.iconst 0, 1) := by decide +kernel
theorem d_Mod_minutes_88 : decode M_Mod_minutes.2.1 88 = .ok (.goto 18, 3) := by decide +kernel
theorem d_Mod_minutes_91 : decode M_Mod_minutes.2.1 91 = .ok (.aload_n 0, 1) := by decide +kernel
theorem d_Mod_minutes_92 : decode M_Mod_minutes.2.1 92 = .ok (.getfield 80, 3) := by decide +kernel
theorem d_Mod_minutes_95 : decode M_Mod_minutes.2.1 95 = .ok (.iload 5, 2) := by decide +kernel
theorem d_Mod_minutes_97 : decode M_Mod_minutes.2.1 97 = .ok (.iaload, 1) := by decide +kernel
theorem d_Mod_minutes_98 : decode M_Mod_minutes.2.1 98 = .ok (.aload_n 0, 1) := by decide +kernel
theorem d_Mod_minutes_99 : decode M_Mod_minutes.2.1 99 = .ok (.getfield 77, 3) := by decide +kernel
theorem d_Mod_minutes_102 : decode M_Mod_minutes.2.1 102 = .ok (.iload 5, 2) := by decide +kernel
theorem d_Mod_minutes_104 : decode M_Mod_minutes.2.1 104 = .ok (.iaload, 1) := by decide +kernel
theorem d_Mod_minutes_105 : decode M_Mod_minutes.2.1 105 = .ok (.isub, 1) := by decide +kernel
theorem d_Mod_minutes_106 : decode M_Mod_minutes.2.1 106 = .ok (.iadd, 1) := by decide +kernel
theorem d_Mod_minutes_107 : decode M_Mod_minutes.2.1 107 = .ok (.istore_n 2, 1) := by decide +kernel
theorem d_Mod_minutes_108 : decode M_Mod_minutes.2.1 108 = .ok (.iinc 5 1, 3) := by decide +kernel
theorem d_Mod_minutes_111 : decode M_Mod_minutes.2.1 111 = .ok (.goto (-89), 3) := by decide +kernel
theorem d_Mod_minutes_114 : decode M_Mod_minutes.2.1 114 = .ok (.iinc 3 1, 3) := by decide +kernel
theorem d_Mod_minutes_117 : decode M_Mod_minutes.2.1 117 = .ok (.goto (-113), 3) := by decide +kernel
theorem d_Mod_minutes_120 : decode M_Mod_minutes.2.1 120 = .ok (.iload_n 2, 1) := by decide +kernel
theorem d_Mod_minutes_121 : decode M_Mod_minutes.2.1 121 = .ok (.ireturn, 1) := by decide +kernel
theorem d_Mod_lay_0 : decode M_Mod_lay.2.1 0 = .ok (.aload_n 0, 1) := by decide +kernel
theorem d_Mod_lay_1 : decode M_Mod_lay.2.1 1 = .ok (.iload_n 1, 1) := by decide +kernel
theorem d_Mod_lay_2 : decode M_Mod_lay.2.1 2 = .ok (.invokevirtual 165, 3) := by decide +kernel
theorem d_Mod_lay_5 : decode M_Mod_lay.2.1 5 = .ok (.ifCond .ne 10, 3) := by decide +kernel
theorem d_Mod_lay_8 : decode M_Mod_lay.2.1 8 = .ok (.aload_n 0, 1) := by decide +kernel
theorem d_Mod_lay_9 : decode M_Mod_lay.2.1 9 = .ok (.bipush (-3), 2) := by decide +kernel
theorem d_Mod_lay_11 : decode M_Mod_lay.2.1 11 = .ok (.invokevirtual 126, 3) := by decide +kernel
theorem d_Mod_lay_14 : decode M_Mod_lay.2.1 14 = .ok (.ireturn, 1) := by decide +kernel
theorem d_Mod_lay_15 : decode M_Mod_lay.2.1 15 = .ok (.aload_n 0, 1) := by decide +kernel
theorem d_Mod_lay_16 : decode M_Mod_lay.2.1 16 = .ok (.iload_n 1, 1) := by decide +kernel
theorem d_Mod_lay_17 : decode M_Mod_lay.2.1 17 = .ok (.invokevirtual 201, 3) := by decide +kernel
theorem d_Mod_lay_20 : decode M_Mod_lay.2.1 20 = .ok (.istore_n 2, 1) := by decide +kernel
theorem d_Mod_lay_21 : decode M_Mod_lay.2.1 21 = .ok (.aload_n 0, 1) := by decide +kernel
theorem d_Mod_lay_22 : decode M_Mod_lay.2.1 22 = .ok (.aload_n 0, 1) := by decide +kernel
theorem d_Mod_lay_23 : decode M_Mod_lay.2.1 23 = .ok (.getfield 52, 3) := by decide +kernel
theorem d_Mod_lay_26 : decode M_Mod_lay.2.1 26 = .ok (.iload_n 1, 1) := by decide +kernel
theorem d_Mod_lay_27 : decode M_Mod_lay.2.1 27 = .ok (.iaload, 1) := by decide +kernel
theorem d_Mod_lay_28 : decode M_Mod_lay.2.1 28 = .ok (.putfield 99, 3) := by decide +kernel
theorem d_Mod_lay_31 : decode M_Mod_lay.2.1 31 = .ok (.iconst 0, 1) := by decide +kernel
theorem d_Mod_lay_32 : decode M_Mod_lay.2.1 32 = .ok (.istore_n 3, 1) := by decide +kernel
theorem d_Mod_lay_33 : decode M_Mod_lay.2.1 33 = .ok (.iload_n 3, 1) := by decide +kernel
theorem d_Mod_lay_34 : decode M_Mod_lay.2.1 34 = .ok (.aload_n 0, 1) := by decide +kernel
theorem d_Mod_lay_35 : decode M_Mod_lay.2.1 35 = .ok (.getfield 99, 3) := by decide +kernel
theorem d_Mod_lay_38 : decode M_Mod_lay.2.1 38 = .ok (.if_icmp .ge 21, 3) := by decide +kernel
theorem d_Mod_lay_41 : decode M_Mod_lay.2.1 41 = .ok (.aload_n 0, 1) := by decide +kernel
theorem d_Mod_lay_42 : decode M_Mod_lay.2.1 42 = .ok (.getfield 93, 3) := by decide +kernel
theorem d_Mod_lay_45 : decode M_Mod_lay.2.1 45 = .ok (.iload_n 3, 1) := by decide +kernel
theorem d_Mod_lay_46 : decode M_Mod_lay.2.1 46 = .ok (.aload_n 0, 1) := by decide +kernel
theorem d_Mod_lay_47 : decode M_Mod_lay.2.1 47 = .ok (.getfield 80, 3) := by decide +kernel
theorem d_Mod_lay_50 : decode M_Mod_lay.2.1 50 = .ok (.iload_n 3, 1) := by decide +kernel
theorem d_Mod_lay_51 : decode M_Mod_lay.2.1 51 = .ok (.iaload, 1) := by decide +kernel
theorem d_Mod_lay_52 : decode M_Mod_lay.2.1 52 = .ok (.iastore, 1) := by decide +kernel
theorem d_Mod_lay_53 : decode M_Mod_lay.2.1 53 = .ok (.iinc 3 1, 3) := by decide +kernel
theorem d_Mod_lay_56 : decode M_Mod_lay.2.1 56 = .ok (.goto (-23), 3) := by decide +kernel
theorem d_Mod_lay_59 : decode M_Mod_lay.2.1 59 = .ok (.aload_n 0, 1) := by decide +kernel
theorem d_Mod_lay_60 : decode M_Mod_lay.2.1 60 = .ok (.getfield 99, 3) := by decide +kernel
theorem d_Mod_lay_63 : decode M_Mod_lay.2.1 63 = .ok (.ireturn, 1) := by decide +kernel
theorem d_Mod_tear_0 : decode M_Mod_tear.2.1 0 = .ok (.aload_n 0, 1) := by decide +kernel
theorem d_Mod_tear_1 : decode M_Mod_tear.2.1 1 = .ok (.getfield 99, 3) := by decide +kernel
theorem d_Mod_tear_4 : decode M_Mod_tear.2.1 4 = .ok (.ifCond .lt 7, 3) := by decide +kernel
theorem d_Mod_tear_7 : decode M_Mod_tear.2.1 7 = .ok (.iconst 1, 1) := by decide +kernel
theorem d_Mod_tear_8 : decode M_Mod_tear.2.1 8 = .ok (.goto 4, 3) := by decide +kernel
theorem d_Mod_tear_11 : decode M_Mod_tear.2.1 11 = .ok (.iconst 0, 1) := by decide +kernel
theorem d_Mod_tear_12 : decode M_Mod_tear.2.1 12 = .ok (.istore_n 1, 1) := by decide +kernel
theorem d_Mod_tear_13 : decode M_Mod_tear.2.1 13 = .ok (.aload_n 0, 1) := by decide +kernel
theorem d_Mod_tear_14 : decode M_Mod_tear.2.1 14 = .ok (.iconst (-1), 1) := by decide +kernel
theorem d_Mod_tear_15 : decode M_Mod_tear.2.1 15 = .ok (.putfield 99, 3) := by decide +kernel
theorem d_Mod_tear_18 : decode M_Mod_tear.2.1 18 = .ok (.iload_n 1, 1) := by decide +kernel
theorem d_Mod_tear_19 : decode M_Mod_tear.2.1 19 = .ok (.ireturn, 1) := by decide +kernel
theorem d_Mod_row_0 : decode M_Mod_row.2.1 0 = .ok (.aload_n 0, 1) := by decide +kernel
theorem d_Mod_row_1 : decode M_Mod_row.2.1 1 = .ok (.getfield 99, 3) := by decide +kernel
theorem d_Mod_row_4 : decode M_Mod_row.2.1 4 = .ok (.ifCond .ge 10, 3) := by decide +kernel
theorem d_Mod_row_7 : decode M_Mod_row.2.1 7 = .ok (.aload_n 0, 1) := by decide +kernel
theorem d_Mod_row_8 : decode M_Mod_row.2.1 8 = .ok (.bipush (-2), 2) := by decide +kernel
theorem d_Mod_row_10 : decode M_Mod_row.2.1 10 = .ok (.invokevirtual 126, 3) := by decide +kernel
theorem d_Mod_row_13 : decode M_Mod_row.2.1 13 = .ok (.ireturn, 1) := by decide +kernel
theorem d_Mod_row_14 : decode M_Mod_row.2.1 14 = .ok (.iload_n 1, 1) := by decide +kernel
theorem d_Mod_row_15 : decode M_Mod_row.2.1 15 = .ok (.i2l, 1) := by decide +kernel
theorem d_Mod_row_16 : decode M_Mod_row.2.1 16 = .ok (.lconst 0, 1) := by decide +kernel
theorem d_Mod_row_17 : decode M_Mod_row.2.1 17 = .ok (.aload_n 0, 1) := by decide +kernel
theorem d_Mod_row_18 : decode M_Mod_row.2.1 18 = .ok (.getfield 99, 3) := by decide +kernel
theorem d_Mod_row_21 : decode M_Mod_row.2.1 21 = .ok (.iconst 1, 1) := by decide +kernel
theorem d_Mod_row_22 : decode M_Mod_row.2.1 22 = .ok (.isub, 1) := by decide +kernel
theorem d_Mod_row_23 : decode M_Mod_row.2.1 23 = .ok (.i2l, 1) := by decide +kernel
theorem d_Mod_row_24 : decode M_Mod_row.2.1 24 = .ok (.invokestatic 122, 3) := by decide +kernel
theorem d_Mod_row_27 : decode M_Mod_row.2.1 27 = .ok (.ifCond .eq 12, 3) := by decide +kernel
theorem d_Mod_row_30 : decode M_Mod_row.2.1 30 = .ok (.aload_n 0, 1) := by decide +kernel
theorem d_Mod_row_31 : decode M_Mod_row.2.1 31 = .ok (.getfield 93, 3) := by decide +kernel
theorem d_Mod_row_34 : decode M_Mod_row.2.1 34 = .ok (.iload_n 1, 1) := by decide +kernel
theorem d_Mod_row_35 : decode M_Mod_row.2.1 35 = .ok (.iaload, 1) := by decide +kernel
theorem d_Mod_row_36 : decode M_Mod_row.2.1 36 = .ok (.goto 9, 3) := by decide +kernel
theorem d_Mod_row_39 : decode M_Mod_row.2.1 39 = .ok (.aload_n 0, 1) := by decide +kernel
theorem d_Mod_row_40 : decode M_Mod_row.2.1 40 = .ok (.bipush (-3), 2) := by decide +kernel
theorem d_Mod_row_42 : decode M_Mod_row.2.1 42 = .ok (.invokevirtual 126, 3) := by decide +kernel
theorem d_Mod_row_45 : decode M_Mod_row.2.1 45 = .ok (.ireturn, 1) := by decide +kernel
theorem d_Mod_copy_0 : decode M_Mod_copy.2.1 0 = .ok (.aload_n 0, 1) := by decide +kernel
theorem d_Mod_copy_1 : decode M_Mod_copy.2.1 1 = .ok (.getfield 99, 3) := by decide +kernel
theorem d_Mod_copy_4 : decode M_Mod_copy.2.1 4 = .ok (.ifCond .ge 10, 3) := by decide +kernel
theorem d_Mod_copy_7 : decode M_Mod_copy.2.1 7 = .ok (.aload_n 0, 1) := by decide +kernel
theorem d_Mod_copy_8 : decode M_Mod_copy.2.1 8 = .ok (.bipush (-2), 2) := by decide +kernel
theorem d_Mod_copy_10 : decode M_Mod_copy.2.1 10 = .ok (.invokevirtual 126, 3) := by decide +kernel
theorem d_Mod_copy_13 : decode M_Mod_copy.2.1 13 = .ok (.ireturn, 1) := by decide +kernel
theorem d_Mod_copy_14 : decode M_Mod_copy.2.1 14 = .ok (.iload_n 3, 1) := by decide +kernel
theorem d_Mod_copy_15 : decode M_Mod_copy.2.1 15 = .ok (.ifCond .ge 10, 3) := by decide +kernel
theorem d_Mod_copy_18 : decode M_Mod_copy.2.1 18 = .ok (.aload_n 0, 1) := by decide +kernel
theorem d_Mod_copy_19 : decode M_Mod_copy.2.1 19 = .ok (.bipush (-4), 2) := by decide +kernel
theorem d_Mod_copy_21 : decode M_Mod_copy.2.1 21 = .ok (.invokevirtual 126, 3) := by decide +kernel
theorem d_Mod_copy_24 : decode M_Mod_copy.2.1 24 = .ok (.ireturn, 1) := by decide +kernel
theorem d_Mod_copy_25 : decode M_Mod_copy.2.1 25 = .ok (.iload_n 1, 1) := by decide +kernel
theorem d_Mod_copy_26 : decode M_Mod_copy.2.1 26 = .ok (.ifCond .lt 35, 3) := by decide +kernel
theorem d_Mod_copy_29 : decode M_Mod_copy.2.1 29 = .ok (.iload_n 2, 1) := by decide +kernel
theorem d_Mod_copy_30 : decode M_Mod_copy.2.1 30 = .ok (.ifCond .lt 31, 3) := by decide +kernel
theorem d_Mod_copy_33 : decode M_Mod_copy.2.1 33 = .ok (.iload_n 1, 1) := by decide +kernel
theorem d_Mod_copy_34 : decode M_Mod_copy.2.1 34 = .ok (.i2l, 1) := by decide +kernel
theorem d_Mod_copy_35 : decode M_Mod_copy.2.1 35 = .ok (.iload_n 3, 1) := by decide +kernel
theorem d_Mod_copy_36 : decode M_Mod_copy.2.1 36 = .ok (.i2l, 1) := by decide +kernel
theorem d_Mod_copy_37 : decode M_Mod_copy.2.1 37 = .ok (.ladd, 1) := by decide +kernel
theorem d_Mod_copy_38 : decode M_Mod_copy.2.1 38 = .ok (.aload_n 0, 1) := by decide +kernel
theorem d_Mod_copy_39 : decode M_Mod_copy.2.1 39 = .ok (.getfield 99, 3) := by decide +kernel
theorem d_Mod_copy_42 : decode M_Mod_copy.2.1 42 = .ok (.i2l, 1) := by decide +kernel
theorem d_Mod_copy_43 : decode M_Mod_copy.2.1 43 = .ok (.lcmp, 1) := by decide +kernel
theorem d_Mod_copy_44 : decode M_Mod_copy.2.1 44 = .ok (.ifCond .gt 17, 3) := by decide +kernel
theorem d_Mod_copy_47 : decode M_Mod_copy.2.1 47 = .ok (.iload_n 2, 1) := by decide +kernel
theorem d_Mod_copy_48 : decode M_Mod_copy.2.1 48 = .ok (.i2l, 1) := by decide +kernel
theorem d_Mod_copy_49 : decode M_Mod_copy.2.1 49 = .ok (.iload_n 3, 1) := by decide +kernel
theorem d_Mod_copy_50 : decode M_Mod_copy.2.1 50 = .ok (.i2l, 1) := by decide +kernel
theorem d_Mod_copy_51 : decode M_Mod_copy.2.1 51 = .ok (.ladd, 1) := by decide +kernel
theorem d_Mod_copy_52 : decode M_Mod_copy.2.1 52 = .ok (.aload_n 0, 1) := by decide +kernel
theorem d_Mod_copy_53 : decode M_Mod_copy.2.1 53 = .ok (.getfield 99, 3) := by decide +kernel
theorem d_Mod_copy_56 : decode M_Mod_copy.2.1 56 = .ok (.i2l, 1) := by decide +kernel
theorem d_Mod_copy_57 : decode M_Mod_copy.2.1 57 = .ok (.lcmp, 1) := by decide +kernel
theorem d_Mod_copy_58 : decode M_Mod_copy.2.1 58 = .ok (.ifCond .le 10, 3) := by decide +kernel
theorem d_Mod_copy_61 : decode M_Mod_copy.2.1 61 = .ok (.aload_n 0, 1) := by decide +kernel
theorem d_Mod_copy_62 : decode M_Mod_copy.2.1 62 = .ok (.bipush (-6), 2) := by decide +kernel
theorem d_Mod_copy_64 : decode M_Mod_copy.2.1 64 = .ok (.invokevirtual 126, 3) := by decide +kernel
theorem d_Mod_copy_67 : decode M_Mod_copy.2.1 67 = .ok (.ireturn, 1) := by decide +kernel
theorem d_Mod_copy_68 : decode M_Mod_copy.2.1 68 = .ok (.iconst 0, 1) := by decide +kernel
theorem d_Mod_copy_69 : decode M_Mod_copy.2.1 69 = .ok (.istore 4, 2) := by decide +kernel
theorem d_Mod_copy_71 : decode M_Mod_copy.2.1 71 = .ok (.iload 4, 2) := by decide +kernel
theorem d_Mod_copy_73 : decode M_Mod_copy.2.1 73 = .ok (.iload_n 3, 1) := by decide +kernel
theorem d_Mod_copy_74 : decode M_Mod_copy.2.1 74 = .ok (.if_icmp .ge 25, 3) := by decide +kernel
theorem d_Mod_copy_77 : decode M_Mod_copy.2.1 77 = .ok (.aload_n 0, 1) := by decide +kernel
theorem d_Mod_copy_78 : decode M_Mod_copy.2.1 78 = .ok (.getfield 96, 3) := by decide +kernel
theorem d_Mod_copy_81 : decode M_Mod_copy.2.1 81 = .ok (.iload 4, 2) := by decide +kernel
theorem d_Mod_copy_83 : decode M_Mod_copy.2.1 83 = .ok (.aload_n 0, 1) := by decide +kernel
theorem d_Mod_copy_84 : decode M_Mod_copy.2.1 84 = .ok (.getfield 93, 3) := by decide +kernel
theorem d_Mod_copy_87 : decode M_Mod_copy.2.1 87 = .ok (.iload_n 1, 1) := by decide +kernel
theorem d_Mod_copy_88 : decode M_Mod_copy.2.1 88 = .ok (.iload 4, 2) := by decide +kernel
theorem d_Mod_copy_90 : decode M_Mod_copy.2.1 90 = .ok (.iadd, 1) := by decide +kernel
theorem d_Mod_copy_91 : decode M_Mod_copy.2.1 91 = .ok (.iaload, 1) := by decide +kernel
theorem d_Mod_copy_92 : decode M_Mod_copy.2.1 92 = .ok (.iastore, 1) := by decide +kernel
theorem d_Mod_copy_93 : decode M_Mod_copy.2.1 93 = .ok (.iinc 4 1, 3) := by decide +kernel
theorem d_Mod_copy_96 : decode M_Mod_copy.2.1 96 = .ok (.goto (-25), 3) := by decide +kernel
theorem d_Mod_copy_99 : decode M_Mod_copy.2.1 99 = .ok (.iconst 0, 1) := by decide +kernel
theorem d_Mod_copy_100 : decode M_Mod_copy.2.1 100 = .ok (.istore 4, 2) := by decide +kernel
theorem d_Mod_copy_102 : decode M_Mod_copy.2.1 102 = .ok (.iload 4, 2) := by decide +kernel
theorem d_Mod_copy_104 : decode M_Mod_copy.2.1 104 = .ok (.iload_n 3, 1) := by decide +kernel
theorem d_Mod_copy_105 : decode M_Mod_copy.2.1 105 = .ok (.if_icmp .ge 25, 3) := by decide +kernel
theorem d_Mod_copy_108 : decode M_Mod_copy.2.1 108 = .ok (.aload_n 0, 1) := by decide +kernel
theorem d_Mod_copy_109 : decode M_Mod_copy.2.1 109 = .ok (.getfield 93, 3) := by decide +kernel
theorem d_Mod_copy_112 : decode M_Mod_copy.2.1 112 = .ok (.iload_n 2, 1) := by decide +kernel
theorem d_Mod_copy_113 : decode M_Mod_copy.2.1 113 = .ok (.iload 4, 2) := by decide +kernel
theorem d_Mod_copy_115 : decode M_Mod_copy.2.1 115 = .ok (.iadd, 1) := by decide +kernel
theorem d_Mod_copy_116 : decode M_Mod_copy.2.1 116 = .ok (.aload_n 0, 1) := by decide +kernel
theorem d_Mod_copy_117 : decode M_Mod_copy.2.1 117 = .ok (.getfield 96, 3) := by decide +kernel
theorem d_Mod_copy_120 : decode M_Mod_copy.2.1 120 = .ok (.iload 4, 2) := by decide +kernel
theorem d_Mod_copy_122 : decode M_Mod_copy.2.1 122 = .ok (.iaload, 1) := by decide +kernel
theorem d_Mod_copy_123 : decode M_Mod_copy.2.1 123 = .ok (.iastore, 1) := by decide +kernel
theorem d_Mod_copy_124 : decode M_Mod_copy.2.1 124 = .ok (.iinc 4 1, 3) := by decide +kernel
theorem d_Mod_copy_127 : decode M_Mod_copy.2.1 127 = .ok (.goto (-25), 3) := by decide +kernel
theorem d_Mod_copy_130 : decode M_Mod_copy.2.1 130 = .ok (.iload_n 3, 1) := by decide +kernel
theorem d_Mod_copy_131 : decode M_Mod_copy.2.1 131 = .ok (.ireturn, 1) := by decide +kernel
theorem d_Mod_status_0 : decode M_Mod_status.2.1 0 = .ok (.iload_n 1, 1) := by decide +kernel
theorem d_Mod_status_1 : decode M_Mod_status.2.1 1 = .ok (.i2l, 1) := by decide +kernel
theorem d_Mod_status_2 : decode M_Mod_status.2.1 2 = .ok (.ldc2_w 296, 3) := by decide +kernel
theorem d_Mod_status_5 : decode M_Mod_status.2.1 5 = .ok (.ldc2_w 298, 3) := by decide +kernel
theorem d_Mod_status_8 : decode M_Mod_status.2.1 8 = .ok (.invokestatic 122, 3) := by decide +kernel
theorem d_Mod_status_11 : decode M_Mod_status.2.1 11 = .ok (.ifCond .eq 13, 3) := by decide +kernel
theorem d_Mod_status_14 : decode M_Mod_status.2.1 14 = .ok (.aload_n 0, 1) := by decide +kernel
theorem d_Mod_status_15 : decode M_Mod_status.2.1 15 = .ok (.getfield 64, 3) := by decide +kernel
theorem d_Mod_status_18 : decode M_Mod_status.2.1 18 = .ok (.iload_n 1, 1) := by decide +kernel
theorem d_Mod_status_19 : decode M_Mod_status.2.1 19 = .ok (.ineg, 1) := by decide +kernel
theorem d_Mod_status_20 : decode M_Mod_status.2.1 20 = .ok (.iaload, 1) := by decide +kernel
theorem d_Mod_status_21 : decode M_Mod_status.2.1 21 = .ok (.goto 9, 3) := by decide +kernel
theorem d_Mod_status_24 : decode M_Mod_status.2.1 24 = .ok (.aload_n 0, 1) := by decide +kernel
theorem d_Mod_status_25 : decode M_Mod_status.2.1 25 = .ok (.bipush (-7), 2) := by decide +kernel
theorem d_Mod_status_27 : decode M_Mod_status.2.1 27 = .ok (.invokevirtual 126, 3) := by decide +kernel
theorem d_Mod_status_30 : decode M_Mod_status.2.1 30 = .ok (.ireturn, 1) := by decide +kernel
