theorem dX10_thrown_0 : decode cX10_thrown 0 = .ok (.aload_n 0, 1) := by decide +kernel
theorem dX10_thrown_1 : decode cX10_thrown 1 = .ok (.getfield 1, 3) := by decide +kernel
theorem dX10_thrown_4 : decode cX10_thrown 4 = .ok (.ireturn, 1) := by decide +kernel
theorem dX10_may_0 : decode cX10_may 0 = .ok (.iload_n 1, 1) := by decide +kernel
theorem dX10_may_1 : decode cX10_may 1 = .ok (.ifCond .ne 15, 3) := by decide +kernel
theorem dX10_may_4 : decode cX10_may 4 = .ok (.aload_n 0, 1) := by decide +kernel
theorem dX10_may_5 : decode cX10_may 5 = .ok (.getfield 1, 3) := by decide +kernel
theorem dX10_may_8 : decode cX10_may 8 = .ok (.ifCond .ne 8, 3) := by decide +kernel
theorem dX10_may_11 : decode cX10_may 11 = .ok (.aload_n 0, 1) := by decide +kernel
theorem dX10_may_12 : decode cX10_may 12 = .ok (.iload_n 2, 1) := by decide +kernel
theorem dX10_may_13 : decode cX10_may 13 = .ok (.putfield 1, 3) := by decide +kernel
theorem dX10_may_16 : decode cX10_may 16 = .ok (.aload_n 0, 1) := by decide +kernel
theorem dX10_may_17 : decode cX10_may 17 = .ok (.getfield 1, 3) := by decide +kernel
theorem dX10_may_20 : decode cX10_may 20 = .ok (.ifCond .ne 7, 3) := by decide +kernel
theorem dX10_may_23 : decode cX10_may 23 = .ok (.iconst 1, 1) := by decide +kernel
theorem dX10_may_24 : decode cX10_may 24 = .ok (.goto 4, 3) := by decide +kernel
theorem dX10_may_27 : decode cX10_may 27 = .ok (.iconst 0, 1) := by decide +kernel
theorem dX10_may_28 : decode cX10_may 28 = .ok (.ireturn, 1) := by decide +kernel
theorem dX10_init_0 : decode cX10_init 0 = .ok (.aload_n 0, 1) := by decide +kernel
theorem dX10_init_1 : decode cX10_init 1 = .ok (.invokespecial 7, 3) := by decide +kernel
theorem dX10_init_4 : decode cX10_init 4 = .ok (.aload_n 0, 1) := by decide +kernel
theorem dX10_init_5 : decode cX10_init 5 = .ok (.bipush 16, 2) := by decide +kernel
theorem dX10_init_7 : decode cX10_init 7 = .ok (.newarray .int, 2) := by decide +kernel
theorem dX10_init_9 : decode cX10_init 9 = .ok (.putfield 13, 3) := by decide +kernel
theorem dX10_init_12 : decode cX10_init 12 = .ok (.aload_n 0, 1) := by decide +kernel
theorem dX10_init_13 : decode cX10_init 13 = .ok (.sipush 160, 3) := by decide +kernel
theorem dX10_init_16 : decode cX10_init 16 = .ok (.newarray .int, 2) := by decide +kernel
theorem dX10_init_18 : decode cX10_init 18 = .ok (.putfield 17, 3) := by decide +kernel
theorem dX10_init_21 : decode cX10_init 21 = .ok (.aload_n 0, 1) := by decide +kernel
theorem dX10_init_22 : decode cX10_init 22 = .ok (.sipush 12800, 3) := by decide +kernel
theorem dX10_init_25 : decode cX10_init 25 = .ok (.newarray .int, 2) := by decide +kernel
theorem dX10_init_27 : decode cX10_init 27 = .ok (.putfield 20, 3) := by decide +kernel
theorem dX10_init_30 : decode cX10_init 30 = .ok (.aload_n 0, 1) := by decide +kernel
theorem dX10_init_31 : decode cX10_init 31 = .ok (.bipush 80, 2) := by decide +kernel
theorem dX10_init_33 : decode cX10_init 33 = .ok (.newarray .int, 2) := by decide +kernel
theorem dX10_init_35 : decode cX10_init 35 = .ok (.putfield 23, 3) := by decide +kernel
theorem dX10_init_38 : decode cX10_init 38 = .ok (.aload_n 0, 1) := by decide +kernel
theorem dX10_init_39 : decode cX10_init 39 = .ok (.bipush 12, 2) := by decide +kernel
theorem dX10_init_41 : decode cX10_init 41 = .ok (.newarray .int, 2) := by decide +kernel
theorem dX10_init_43 : decode cX10_init 43 = .ok (.putfield 26, 3) := by decide +kernel
theorem dX10_init_46 : decode cX10_init 46 = .ok (.aload_n 0, 1) := by decide +kernel
theorem dX10_init_47 : decode cX10_init 47 = .ok (.bipush 12, 2) := by decide +kernel
theorem dX10_init_49 : decode cX10_init 49 = .ok (.newarray .int, 2) := by decide +kernel
theorem dX10_init_51 : decode cX10_init 51 = .ok (.putfield 29, 3) := by decide +kernel
theorem dX10_init_54 : decode cX10_init 54 = .ok (.aload_n 0, 1) := by decide +kernel
theorem dX10_init_55 : decode cX10_init 55 = .ok (.bipush 12, 2) := by decide +kernel
theorem dX10_init_57 : decode cX10_init 57 = .ok (.newarray .int, 2) := by decide +kernel
theorem dX10_init_59 : decode cX10_init 59 = .ok (.putfield 32, 3) := by decide +kernel
theorem dX10_init_62 : decode cX10_init 62 = .ok (.aload_n 0, 1) := by decide +kernel
theorem dX10_init_63 : decode cX10_init 63 = .ok (.bipush 12, 2) := by decide +kernel
theorem dX10_init_65 : decode cX10_init 65 = .ok (.newarray .int, 2) := by decide +kernel
theorem dX10_init_67 : decode cX10_init 67 = .ok (.putfield 35, 3) := by decide +kernel
theorem dX10_init_70 : decode cX10_init 70 = .ok (.aload_n 0, 1) := by decide +kernel
theorem dX10_init_71 : decode cX10_init 71 = .ok (.sipush 960, 3) := by decide +kernel
theorem dX10_init_74 : decode cX10_init 74 = .ok (.newarray .int, 2) := by decide +kernel
theorem dX10_init_76 : decode cX10_init 76 = .ok (.putfield 38, 3) := by decide +kernel
theorem dX10_init_79 : decode cX10_init 79 = .ok (.aload_n 0, 1) := by decide +kernel
theorem dX10_init_80 : decode cX10_init 80 = .ok (.bipush 8, 2) := by decide +kernel
theorem dX10_init_82 : decode cX10_init 82 = .ok (.newarray .int, 2) := by decide +kernel
theorem dX10_init_84 : decode cX10_init 84 = .ok (.putfield 41, 3) := by decide +kernel
theorem dX10_init_87 : decode cX10_init 87 = .ok (.aload_n 0, 1) := by decide +kernel
theorem dX10_init_88 : decode cX10_init 88 = .ok (.iconst 3, 1) := by decide +kernel
theorem dX10_init_89 : decode cX10_init 89 = .ok (.newarray .int, 2) := by decide +kernel
theorem dX10_init_91 : decode cX10_init 91 = .ok (.putfield 44, 3) := by decide +kernel
theorem dX10_init_94 : decode cX10_init 94 = .ok (.aload_n 0, 1) := by decide +kernel
theorem dX10_init_95 : decode cX10_init 95 = .ok (.iconst 3, 1) := by decide +kernel
theorem dX10_init_96 : decode cX10_init 96 = .ok (.newarray .int, 2) := by decide +kernel
theorem dX10_init_98 : decode cX10_init 98 = .ok (.putfield 47, 3) := by decide +kernel
theorem dX10_init_101 : decode cX10_init 101 = .ok (.aload_n 0, 1) := by decide +kernel
theorem dX10_init_102 : decode cX10_init 102 = .ok (.sipush 2000, 3) := by decide +kernel
theorem dX10_init_105 : decode cX10_init 105 = .ok (.newarray .int, 2) := by decide +kernel
theorem dX10_init_107 : decode cX10_init 107 = .ok (.putfield 50, 3) := by decide +kernel
theorem dX10_init_110 : decode cX10_init 110 = .ok (.aload_n 0, 1) := by decide +kernel
theorem dX10_init_111 : decode cX10_init 111 = .ok (.sipush 2000, 3) := by decide +kernel
theorem dX10_init_114 : decode cX10_init 114 = .ok (.newarray .int, 2) := by decide +kernel
theorem dX10_init_116 : decode cX10_init 116 = .ok (.putfield 53, 3) := by decide +kernel
theorem dX10_init_119 : decode cX10_init 119 = .ok (.aload_n 0, 1) := by decide +kernel
theorem dX10_init_120 : decode cX10_init 120 = .ok (.sipush 2000, 3) := by decide +kernel
theorem dX10_init_123 : decode cX10_init 123 = .ok (.newarray .int, 2) := by decide +kernel
theorem dX10_init_125 : decode cX10_init 125 = .ok (.putfield 56, 3) := by decide +kernel
theorem dX10_init_128 : decode cX10_init 128 = .ok (.aload_n 0, 1) := by decide +kernel
theorem dX10_init_129 : decode cX10_init 129 = .ok (.bipush 80, 2) := by decide +kernel
theorem dX10_init_131 : decode cX10_init 131 = .ok (.newarray .int, 2) := by decide +kernel
theorem dX10_init_133 : decode cX10_init 133 = .ok (.putfield 59, 3) := by decide +kernel
theorem dX10_init_136 : decode cX10_init 136 = .ok (.aload_n 0, 1) := by decide +kernel
theorem dX10_init_137 : decode cX10_init 137 = .ok (.bipush 80, 2) := by decide +kernel
theorem dX10_init_139 : decode cX10_init 139 = .ok (.newarray .int, 2) := by decide +kernel
theorem dX10_init_141 : decode cX10_init 141 = .ok (.putfield 62, 3) := by decide +kernel
theorem dX10_init_144 : decode cX10_init 144 = .ok (.aload_n 0, 1) := by decide +kernel
theorem dX10_init_145 : decode cX10_init 145 = .ok (.bipush 8, 2) := by decide +kernel
theorem dX10_init_147 : decode cX10_init 147 = .ok (.newarray .boolean, 2) := by decide +kernel
theorem dX10_init_149 : decode cX10_init 149 = .ok (.putfield 65, 3) := by decide +kernel
theorem dX10_init_152 : decode cX10_init 152 = .ok (.aload_n 0, 1) := by decide +kernel
theorem dX10_init_153 : decode cX10_init 153 = .ok (.bipush 8, 2) := by decide +kernel
theorem dX10_init_155 : decode cX10_init 155 = .ok (.newarray .int, 2) := by decide +kernel
theorem dX10_init_157 : decode cX10_init 157 = .ok (.putfield 69, 3) := by decide +kernel
theorem dX10_init_160 : decode cX10_init 160 = .ok (.aload_n 0, 1) := by decide +kernel
theorem dX10_init_161 : decode cX10_init 161 = .ok (.bipush 64, 2) := by decide +kernel
theorem dX10_init_163 : decode cX10_init 163 = .ok (.newarray .int, 2) := by decide +kernel
theorem dX10_init_165 : decode cX10_init 165 = .ok (.putfield 72, 3) := by decide +kernel
theorem dX10_init_168 : decode cX10_init 168 = .ok (.aload_n 0, 1) := by decide +kernel
theorem dX10_init_169 : decode cX10_init 169 = .ok (.sipush 1280, 3) := by decide +kernel
theorem dX10_init_172 : decode cX10_init 172 = .ok (.newarray .int, 2) := by decide +kernel
theorem dX10_init_174 : decode cX10_init 174 = .ok (.putfield 75, 3) := by decide +kernel
theorem dX10_init_177 : decode cX10_init 177 = .ok (.aload_n 0, 1) := by decide +kernel
theorem dX10_init_178 : decode cX10_init 178 = .ok (.sipush 1300, 3) := by decide +kernel
theorem dX10_init_181 : decode cX10_init 181 = .ok (.newarray .int, 2) := by decide +kernel
theorem dX10_init_183 : decode cX10_init 183 = .ok (.putfield 78, 3) := by decide +kernel
theorem dX10_init_186 : decode cX10_init 186 = .ok (.aload_n 0, 1) := by decide +kernel
theorem dX10_init_187 : decode cX10_init 187 = .ok (.sipush 320, 3) := by decide +kernel
theorem dX10_init_190 : decode cX10_init 190 = .ok (.newarray .long, 2) := by decide +kernel
theorem dX10_init_192 : decode cX10_init 192 = .ok (.putfield 81, 3) := by decide +kernel
theorem dX10_init_195 : decode cX10_init 195 = .ok (.aload_n 0, 1) := by decide +kernel
theorem dX10_init_196 : decode cX10_init 196 = .ok (.bipush 70, 2) := by decide +kernel
theorem dX10_init_198 : decode cX10_init 198 = .ok (.newarray .int, 2) := by decide +kernel
theorem dX10_init_200 : decode cX10_init 200 = .ok (.putfield 85, 3) := by decide +kernel
theorem dX10_init_203 : decode cX10_init 203 = .ok (.aload_n 0, 1) := by decide +kernel
theorem dX10_init_204 : decode cX10_init 204 = .ok (.bipush 10, 2) := by decide +kernel
theorem dX10_init_206 : decode cX10_init 206 = .ok (.newarray .int, 2) := by decide +kernel
theorem dX10_init_208 : decode cX10_init 208 = .ok (.putfield 88, 3) := by decide +kernel
theorem dX10_init_211 : decode cX10_init 211 = .ok (.aload_n 0, 1) := by decide +kernel
theorem dX10_init_212 : decode cX10_init 212 = .ok (.bipush 10, 2) := by decide +kernel
theorem dX10_init_214 : decode cX10_init 214 = .ok (.newarray .int, 2) := by decide +kernel
theorem dX10_init_216 : decode cX10_init 216 = .ok (.putfield 91, 3) := by decide +kernel
theorem dX10_init_219 : decode cX10_init 219 = .ok (.aload_n 0, 1) := by decide +kernel
theorem dX10_init_220 : decode cX10_init 220 = .ok (.bipush 6, 2) := by decide +kernel
theorem dX10_init_222 : decode cX10_init 222 = .ok (.newarray .int, 2) := by decide +kernel
theorem dX10_init_224 : decode cX10_init 224 = .ok (.putfield 94, 3) := by decide +kernel
theorem dX10_init_227 : decode cX10_init 227 = .ok (.aload_n 0, 1) := by decide +kernel
theorem dX10_init_228 : decode cX10_init 228 = .ok (.bipush 8, 2) := by decide +kernel
theorem dX10_init_230 : decode cX10_init 230 = .ok (.newarray .int, 2) := by decide +kernel
theorem dX10_init_232 : decode cX10_init 232 = .ok (.putfield 97, 3) := by decide +kernel
theorem dX10_init_235 : decode cX10_init 235 = .ok (.iconst 0, 1) := by decide +kernel
theorem dX10_init_236 : decode cX10_init 236 = .ok (.istore_n 1, 1) := by decide +kernel
theorem dX10_init_237 : decode cX10_init 237 = .ok (.iload_n 1, 1) := by decide +kernel
theorem dX10_init_238 : decode cX10_init 238 = .ok (.sipush 160, 3) := by decide +kernel
theorem dX10_init_241 : decode cX10_init 241 = .ok (.if_icmp .ge 16, 3) := by decide +kernel
theorem dX10_init_244 : decode cX10_init 244 = .ok (.aload_n 0, 1) := by decide +kernel
theorem dX10_init_245 : decode cX10_init 245 = .ok (.getfield 17, 3) := by decide +kernel
theorem dX10_init_248 : decode cX10_init 248 = .ok (.iload_n 1, 1) := by decide +kernel
theorem dX10_init_249 : decode cX10_init 249 = .ok (.iconst (-1), 1) := by decide +kernel
theorem dX10_init_250 : decode cX10_init 250 = .ok (.iastore, 1) := by decide +kernel
theorem dX10_init_251 : decode cX10_init 251 = .ok (.iinc 1 1, 3) := by decide +kernel
theorem dX10_init_254 : decode cX10_init 254 = .ok (.goto (-17), 3) := by decide +kernel
theorem dX10_init_257 : decode cX10_init 257 = .ok (.return_, 1) := by decide +kernel
theorem dX10_sheet_0 : decode cX10_sheet 0 = .ok (.aload_n 0, 1) := by decide +kernel
theorem dX10_sheet_1 : decode cX10_sheet 1 = .ok (.iconst 0, 1) := by decide +kernel
theorem dX10_sheet_2 : decode cX10_sheet 2 = .ok (.putfield 1, 3) := by decide +kernel
theorem dX10_sheet_5 : decode cX10_sheet 5 = .ok (.aload_n 0, 1) := by decide +kernel
theorem dX10_sheet_6 : decode cX10_sheet 6 = .ok (.iload_n 1, 1) := by decide +kernel
theorem dX10_sheet_7 : decode cX10_sheet 7 = .ok (.ifCond .lt 12, 3) := by decide +kernel
theorem dX10_sheet_10 : decode cX10_sheet 10 = .ok (.iload_n 1, 1) := by decide +kernel
theorem dX10_sheet_11 : decode cX10_sheet 11 = .ok (.iconst 2, 1) := by decide +kernel
theorem dX10_sheet_12 : decode cX10_sheet 12 = .ok (.if_icmp .gt 7, 3) := by decide +kernel
theorem dX10_sheet_15 : decode cX10_sheet 15 = .ok (.iconst 1, 1) := by decide +kernel
theorem dX10_sheet_16 : decode cX10_sheet 16 = .ok (.goto 4, 3) := by decide +kernel
theorem dX10_sheet_19 : decode cX10_sheet 19 = .ok (.iconst 0, 1) := by decide +kernel
theorem dX10_sheet_20 : decode cX10_sheet 20 = .ok (.iconst 1, 1) := by decide +kernel
theorem dX10_sheet_21 : decode cX10_sheet 21 = .ok (.invokevirtual 100, 3) := by decide +kernel
theorem dX10_sheet_24 : decode cX10_sheet 24 = .ok (.ifCond .eq 25, 3) := by decide +kernel
theorem dX10_sheet_27 : decode cX10_sheet 27 = .ok (.aload_n 0, 1) := by decide +kernel
theorem dX10_sheet_28 : decode cX10_sheet 28 = .ok (.aload_n 0, 1) := by decide +kernel
theorem dX10_sheet_29 : decode cX10_sheet 29 = .ok (.getfield 104, 3) := by decide +kernel
theorem dX10_sheet_32 : decode cX10_sheet 32 = .ok (.bipush 16, 2) := by decide +kernel
theorem dX10_sheet_34 : decode cX10_sheet 34 = .ok (.if_icmp .ge 7, 3) := by decide +kernel
theorem dX10_sheet_37 : decode cX10_sheet 37 = .ok (.iconst 1, 1) := by decide +kernel
theorem dX10_sheet_38 : decode cX10_sheet 38 = .ok (.goto 4, 3) := by decide +kernel
theorem dX10_sheet_41 : decode cX10_sheet 41 = .ok (.iconst 0, 1) := by decide +kernel
theorem dX10_sheet_42 : decode cX10_sheet 42 = .ok (.iconst 2, 1) := by decide +kernel
theorem dX10_sheet_43 : decode cX10_sheet 43 = .ok (.invokevirtual 100, 3) := by decide +kernel
theorem dX10_sheet_46 : decode cX10_sheet 46 = .ok (.ifCond .ne 5, 3) := by decide +kernel
theorem dX10_sheet_49 : decode cX10_sheet 49 = .ok (.iconst 0, 1) := by decide +kernel
theorem dX10_sheet_50 : decode cX10_sheet 50 = .ok (.ireturn, 1) := by decide +kernel
theorem dX10_sheet_51 : decode cX10_sheet 51 = .ok (.aload_n 0, 1) := by decide +kernel
theorem dX10_sheet_52 : decode cX10_sheet 52 = .ok (.getfield 13, 3) := by decide +kernel
theorem dX10_sheet_55 : decode cX10_sheet 55 = .ok (.aload_n 0, 1) := by decide +kernel
theorem dX10_sheet_56 : decode cX10_sheet 56 = .ok (.getfield 104, 3) := by decide +kernel
theorem dX10_sheet_59 : decode cX10_sheet 59 = .ok (.iload_n 1, 1) := by decide +kernel
theorem dX10_sheet_60 : decode cX10_sheet 60 = .ok (.iastore, 1) := by decide +kernel
theorem dX10_sheet_61 : decode cX10_sheet 61 = .ok (.aload_n 0, 1) := by decide +kernel
theorem dX10_sheet_62 : decode cX10_sheet 62 = .ok (.dup, 1) := by decide +kernel
theorem dX10_sheet_63 : decode cX10_sheet 63 = .ok (.getfield 104, 3) := by decide +kernel
theorem dX10_sheet_66 : decode cX10_sheet 66 = .ok (.iconst 1, 1) := by decide +kernel
theorem dX10_sheet_67 : decode cX10_sheet 67 = .ok (.iadd, 1) := by decide +kernel
theorem dX10_sheet_68 : decode cX10_sheet 68 = .ok (.putfield 104, 3) := by decide +kernel
theorem dX10_sheet_71 : decode cX10_sheet 71 = .ok (.aload_n 0, 1) := by decide +kernel
theorem dX10_sheet_72 : decode cX10_sheet 72 = .ok (.getfield 104, 3) := by decide +kernel
theorem dX10_sheet_75 : decode cX10_sheet 75 = .ok (.iconst 1, 1) := by decide +kernel
theorem dX10_sheet_76 : decode cX10_sheet 76 = .ok (.isub, 1) := by decide +kernel
theorem dX10_sheet_77 : decode cX10_sheet 77 = .ok (.ireturn, 1) := by decide +kernel
theorem dX10_isSheet_0 : decode cX10_isSheet 0 = .ok (.iload_n 1, 1) := by decide +kernel
theorem dX10_isSheet_1 : decode cX10_isSheet 1 = .ok (.ifCond .lt 15, 3) := by decide +kernel
theorem dX10_isSheet_4 : decode cX10_isSheet 4 = .ok (.iload_n 1, 1) := by decide +kernel
theorem dX10_isSheet_5 : decode cX10_isSheet 5 = .ok (.aload_n 0, 1) := by decide +kernel
theorem dX10_isSheet_6 : decode cX10_isSheet 6 = .ok (.getfield 104, 3) := by decide +kernel
theorem dX10_isSheet_9 : decode cX10_isSheet 9 = .ok (.if_icmp .ge 7, 3) := by decide +kernel
theorem dX10_isSheet_12 : decode cX10_isSheet 12 = .ok (.iconst 1, 1) := by decide +kernel
theorem dX10_isSheet_13 : decode cX10_isSheet 13 = .ok (.goto 4, 3) := by decide +kernel
theorem dX10_isSheet_16 : decode cX10_isSheet 16 = .ok (.iconst 0, 1) := by decide +kernel
theorem dX10_isSheet_17 : decode cX10_isSheet 17 = .ok (.ireturn, 1) := by decide +kernel
theorem dX10_isRow_0 : decode cX10_isRow 0 = .ok (.aload_n 0, 1) := by decide +kernel
theorem dX10_isRow_1 : decode cX10_isRow 1 = .ok (.aload_n 0, 1) := by decide +kernel
theorem dX10_isRow_2 : decode cX10_isRow 2 = .ok (.iload_n 1, 1) := by decide +kernel
theorem dX10_isRow_3 : decode cX10_isRow 3 = .ok (.invokevirtual 107, 3) := by decide +kernel
theorem dX10_isRow_6 : decode cX10_isRow 6 = .ok (.ifCond .eq 17, 3) := by decide +kernel
theorem dX10_isRow_9 : decode cX10_isRow 9 = .ok (.iload_n 2, 1) := by decide +kernel
theorem dX10_isRow_10 : decode cX10_isRow 10 = .ok (.ifCond .lt 13, 3) := by decide +kernel
theorem dX10_isRow_13 : decode cX10_isRow 13 = .ok (.iload_n 2, 1) := by decide +kernel
theorem dX10_isRow_14 : decode cX10_isRow 14 = .ok (.bipush 10, 2) := by decide +kernel
theorem dX10_isRow_16 : decode cX10_isRow 16 = .ok (.if_icmp .ge 7, 3) := by decide +kernel
theorem dX10_isRow_19 : decode cX10_isRow 19 = .ok (.iconst 1, 1) := by decide +kernel
theorem dX10_isRow_20 : decode cX10_isRow 20 = .ok (.goto 4, 3) := by decide +kernel
theorem dX10_isRow_23 : decode cX10_isRow 23 = .ok (.iconst 0, 1) := by decide +kernel
theorem dX10_isRow_24 : decode cX10_isRow 24 = .ok (.iload_n 3, 1) := by decide +kernel
theorem dX10_isRow_25 : decode cX10_isRow 25 = .ok (.invokevirtual 100, 3) := by decide +kernel
theorem dX10_isRow_28 : decode cX10_isRow 28 = .ok (.ireturn, 1) := by decide +kernel
theorem dX10_row_0 : decode cX10_row 0 = .ok (.aload_n 0, 1) := by decide +kernel
theorem dX10_row_1 : decode cX10_row 1 = .ok (.iconst 0, 1) := by decide +kernel
theorem dX10_row_2 : decode cX10_row 2 = .ok (.putfield 1, 3) := by decide +kernel
theorem dX10_row_5 : decode cX10_row 5 = .ok (.aload_n 0, 1) := by decide +kernel
theorem dX10_row_6 : decode cX10_row 6 = .ok (.iload_n 1, 1) := by decide +kernel
theorem dX10_row_7 : decode cX10_row 7 = .ok (.iload_n 2, 1) := by decide +kernel
theorem dX10_row_8 : decode cX10_row 8 = .ok (.iconst 1, 1) := by decide +kernel
theorem dX10_row_9 : decode cX10_row 9 = .ok (.invokevirtual 111, 3) := by decide +kernel
theorem dX10_row_12 : decode cX10_row 12 = .ok (.ifCond .ne 5, 3) := by decide +kernel
theorem dX10_row_15 : decode cX10_row 15 = .ok (.iconst 0, 1) := by decide +kernel
theorem dX10_row_16 : decode cX10_row 16 = .ok (.ireturn, 1) := by decide +kernel
theorem dX10_row_17 : decode cX10_row 17 = .ok (.iload_n 3, 1) := by decide +kernel
theorem dX10_row_18 : decode cX10_row 18 = .ok (.ifCond .lt 9, 3) := by decide +kernel
theorem dX10_row_21 : decode cX10_row 21 = .ok (.iload_n 3, 1) := by decide +kernel
theorem dX10_row_22 : decode cX10_row 22 = .ok (.bipush 80, 2) := by decide +kernel
theorem dX10_row_24 : decode cX10_row 24 = .ok (.if_icmp .le 5, 3) := by decide +kernel
theorem dX10_row_27 : decode cX10_row 27 = .ok (.iconst (-1), 1) := by decide +kernel
theorem dX10_row_28 : decode cX10_row 28 = .ok (.ireturn, 1) := by decide +kernel
theorem dX10_row_29 : decode cX10_row 29 = .ok (.bipush 10, 2) := by decide +kernel
theorem dX10_row_31 : decode cX10_row 31 = .ok (.iload_n 1, 1) := by decide +kernel
theorem dX10_row_32 : decode cX10_row 32 = .ok (.imul, 1) := by decide +kernel
theorem dX10_row_33 : decode cX10_row 33 = .ok (.iload_n 2, 1) := by decide +kernel
theorem dX10_row_34 : decode cX10_row 34 = .ok (.iadd, 1) := by decide +kernel
theorem dX10_row_35 : decode cX10_row 35 = .ok (.istore 4, 2) := by decide +kernel
theorem dX10_row_37 : decode cX10_row 37 = .ok (.aload_n 0, 1) := by decide +kernel
theorem dX10_row_38 : decode cX10_row 38 = .ok (.getfield 17, 3) := by decide +kernel
theorem dX10_row_41 : decode cX10_row 41 = .ok (.iload 4, 2) := by decide +kernel
theorem dX10_row_43 : decode cX10_row 43 = .ok (.iload_n 3, 1) := by decide +kernel
theorem dX10_row_44 : decode cX10_row 44 = .ok (.iastore, 1) := by decide +kernel
theorem dX10_row_45 : decode cX10_row 45 = .ok (.iconst 0, 1) := by decide +kernel
theorem dX10_row_46 : decode cX10_row 46 = .ok (.istore 5, 2) := by decide +kernel
theorem dX10_row_48 : decode cX10_row 48 = .ok (.iload 5, 2) := by decide +kernel
theorem dX10_row_50 : decode cX10_row 50 = .ok (.bipush 80, 2) := by decide +kernel
theorem dX10_row_52 : decode cX10_row 52 = .ok (.if_icmp .ge 23, 3) := by decide +kernel
theorem dX10_row_55 : decode cX10_row 55 = .ok (.aload_n 0, 1) := by decide +kernel
theorem dX10_row_56 : decode cX10_row 56 = .ok (.getfield 20, 3) := by decide +kernel
theorem dX10_row_59 : decode cX10_row 59 = .ok (.bipush 80, 2) := by decide +kernel
theorem dX10_row_61 : decode cX10_row 61 = .ok (.iload 4, 2) := by decide +kernel
theorem dX10_row_63 : decode cX10_row 63 = .ok (.imul, 1) := by decide +kernel
theorem dX10_row_64 : decode cX10_row 64 = .ok (.iload 5, 2) := by decide +kernel
theorem dX10_row_66 : decode cX10_row 66 = .ok (.iadd, 1) := by decide +kernel
theorem dX10_row_67 : decode cX10_row 67 = .ok (.iconst 0, 1) := by decide +kernel
theorem dX10_row_68 : decode cX10_row 68 = .ok (.iastore, 1) := by decide +kernel
theorem dX10_row_69 : decode cX10_row 69 = .ok (.iinc 5 1, 3) := by decide +kernel
theorem dX10_row_72 : decode cX10_row 72 = .ok (.goto (-24), 3) := by decide +kernel
theorem dX10_row_75 : decode cX10_row 75 = .ok (.iload_n 3, 1) := by decide +kernel
theorem dX10_row_76 : decode cX10_row 76 = .ok (.ireturn, 1) := by decide +kernel
theorem dX10_put_0 : decode cX10_put 0 = .ok (.aload_n 0, 1) := by decide +kernel
theorem dX10_put_1 : decode cX10_put 1 = .ok (.iconst 0, 1) := by decide +kernel
theorem dX10_put_2 : decode cX10_put 2 = .ok (.putfield 1, 3) := by decide +kernel
theorem dX10_put_5 : decode cX10_put 5 = .ok (.aload_n 0, 1) := by decide +kernel
theorem dX10_put_6 : decode cX10_put 6 = .ok (.iload_n 1, 1) := by decide +kernel
theorem dX10_put_7 : decode cX10_put 7 = .ok (.iload_n 2, 1) := by decide +kernel
theorem dX10_put_8 : decode cX10_put 8 = .ok (.iconst 1, 1) := by decide +kernel
theorem dX10_put_9 : decode cX10_put 9 = .ok (.invokevirtual 111, 3) := by decide +kernel
theorem dX10_put_12 : decode cX10_put 12 = .ok (.ifCond .ne 5, 3) := by decide +kernel
theorem dX10_put_15 : decode cX10_put 15 = .ok (.iconst 0, 1) := by decide +kernel
theorem dX10_put_16 : decode cX10_put 16 = .ok (.ireturn, 1) := by decide +kernel
theorem dX10_put_17 : decode cX10_put 17 = .ok (.bipush 10, 2) := by decide +kernel
theorem dX10_put_19 : decode cX10_put 19 = .ok (.iload_n 1, 1) := by decide +kernel
theorem dX10_put_20 : decode cX10_put 20 = .ok (.imul, 1) := by decide +kernel
theorem dX10_put_21 : decode cX10_put 21 = .ok (.iload_n 2, 1) := by decide +kernel
theorem dX10_put_22 : decode cX10_put 22 = .ok (.iadd, 1) := by decide +kernel
theorem dX10_put_23 : decode cX10_put 23 = .ok (.istore 5, 2) := by decide +kernel
theorem dX10_put_25 : decode cX10_put 25 = .ok (.aload_n 0, 1) := by decide +kernel
theorem dX10_put_26 : decode cX10_put 26 = .ok (.getfield 17, 3) := by decide +kernel
theorem dX10_put_29 : decode cX10_put 29 = .ok (.iload 5, 2) := by decide +kernel
theorem dX10_put_31 : decode cX10_put 31 = .ok (.iaload, 1) := by decide +kernel
theorem dX10_put_32 : decode cX10_put 32 = .ok (.iconst (-1), 1) := by decide +kernel
theorem dX10_put_33 : decode cX10_put 33 = .ok (.if_icmp .ne 5, 3) := by decide +kernel
theorem dX10_put_36 : decode cX10_put 36 = .ok (.iconst (-1), 1) := by decide +kernel
theorem dX10_put_37 : decode cX10_put 37 = .ok (.ireturn, 1) := by decide +kernel
theorem dX10_put_38 : decode cX10_put 38 = .ok (.iload_n 3, 1) := by decide +kernel
theorem dX10_put_39 : decode cX10_put 39 = .ok (.ifCond .lt 14, 3) := by decide +kernel
theorem dX10_put_42 : decode cX10_put 42 = .ok (.iload_n 3, 1) := by decide +kernel
theorem dX10_put_43 : decode cX10_put 43 = .ok (.aload_n 0, 1) := by decide +kernel
theorem dX10_put_44 : decode cX10_put 44 = .ok (.getfield 17, 3) := by decide +kernel
theorem dX10_put_47 : decode cX10_put 47 = .ok (.iload 5, 2) := by decide +kernel
theorem dX10_put_49 : decode cX10_put 49 = .ok (.iaload, 1) := by decide +kernel
theorem dX10_put_50 : decode cX10_put 50 = .ok (.if_icmp .lt 6, 3) := by decide +kernel
theorem dX10_put_53 : decode cX10_put 53 = .ok (.bipush (-2), 2) := by decide +kernel
theorem dX10_put_55 : decode cX10_put 55 = .ok (.ireturn, 1) := by decide +kernel
theorem dX10_put_56 : decode cX10_put 56 = .ok (.aload_n 0, 1) := by decide +kernel
theorem dX10_put_57 : decode cX10_put 57 = .ok (.getfield 20, 3) := by decide +kernel
theorem dX10_put_60 : decode cX10_put 60 = .ok (.bipush 80, 2) := by decide +kernel
theorem dX10_put_62 : decode cX10_put 62 = .ok (.iload 5, 2) := by decide +kernel
theorem dX10_put_64 : decode cX10_put 64 = .ok (.imul, 1) := by decide +kernel
theorem dX10_put_65 : decode cX10_put 65 = .ok (.iload_n 3, 1) := by decide +kernel
theorem dX10_put_66 : decode cX10_put 66 = .ok (.iadd, 1) := by decide +kernel
theorem dX10_put_67 : decode cX10_put 67 = .ok (.aload_n 0, 1) := by decide +kernel
theorem dX10_put_68 : decode cX10_put 68 = .ok (.getfield 13, 3) := by decide +kernel
theorem dX10_put_71 : decode cX10_put 71 = .ok (.iload_n 1, 1) := by decide +kernel
theorem dX10_put_72 : decode cX10_put 72 = .ok (.iaload, 1) := by decide +kernel
theorem dX10_put_73 : decode cX10_put 73 = .ok (.ifCond .ne 9, 3) := by decide +kernel
theorem dX10_put_76 : decode cX10_put 76 = .ok (.iload 4, 2) := by decide +kernel
theorem dX10_put_78 : decode cX10_put 78 = .ok (.i2b, 1) := by decide +kernel
theorem dX10_put_79 : decode cX10_put 79 = .ok (.goto 21, 3) := by decide +kernel
theorem dX10_put_82 : decode cX10_put 82 = .ok (.aload_n 0, 1) := by decide +kernel
theorem dX10_put_83 : decode cX10_put 83 = .ok (.getfield 13, 3) := by decide +kernel
theorem dX10_put_86 : decode cX10_put 86 = .ok (.iload_n 1, 1) := by decide +kernel
theorem dX10_put_87 : decode cX10_put 87 = .ok (.iaload, 1) := by decide +kernel
theorem dX10_put_88 : decode cX10_put 88 = .ok (.iconst 1, 1) := by decide +kernel
theorem dX10_put_89 : decode cX10_put 89 = .ok (.if_icmp .ne 9, 3) := by decide +kernel
theorem dX10_put_92 : decode cX10_put 92 = .ok (.iload 4, 2) := by decide +kernel
theorem dX10_put_94 : decode cX10_put 94 = .ok (.i2s, 1) := by decide +kernel
theorem dX10_put_95 : decode cX10_put 95 = .ok (.goto 5, 3) := by decide +kernel
theorem dX10_put_98 : decode cX10_put 98 = .ok (.iload 4, 2) := by decide +kernel
theorem dX10_put_100 : decode cX10_put 100 = .ok (.iastore, 1) := by decide +kernel
theorem dX10_put_101 : decode cX10_put 101 = .ok (.iconst 1, 1) := by decide +kernel
theorem dX10_put_102 : decode cX10_put 102 = .ok (.ireturn, 1) := by decide +kernel
theorem dX10_tear_0 : decode cX10_tear 0 = .ok (.aload_n 0, 1) := by decide +kernel
theorem dX10_tear_1 : decode cX10_tear 1 = .ok (.iconst 0, 1) := by decide +kernel
theorem dX10_tear_2 : decode cX10_tear 2 = .ok (.putfield 1, 3) := by decide +kernel
theorem dX10_tear_5 : decode cX10_tear 5 = .ok (.aload_n 0, 1) := by decide +kernel
theorem dX10_tear_6 : decode cX10_tear 6 = .ok (.iload_n 1, 1) := by decide +kernel
theorem dX10_tear_7 : decode cX10_tear 7 = .ok (.iload_n 2, 1) := by decide +kernel
theorem dX10_tear_8 : decode cX10_tear 8 = .ok (.iconst 1, 1) := by decide +kernel
theorem dX10_tear_9 : decode cX10_tear 9 = .ok (.invokevirtual 111, 3) := by decide +kernel
theorem dX10_tear_12 : decode cX10_tear 12 = .ok (.ifCond .ne 5, 3) := by decide +kernel
theorem dX10_tear_15 : decode cX10_tear 15 = .ok (.iconst 0, 1) := by decide +kernel
theorem dX10_tear_16 : decode cX10_tear 16 = .ok (.ireturn, 1) := by decide +kernel
theorem dX10_tear_17 : decode cX10_tear 17 = .ok (.aload_n 0, 1) := by decide +kernel
theorem dX10_tear_18 : decode cX10_tear 18 = .ok (.getfield 17, 3) := by decide +kernel
theorem dX10_tear_21 : decode cX10_tear 21 = .ok (.bipush 10, 2) := by decide +kernel
theorem dX10_tear_23 : decode cX10_tear 23 = .ok (.iload_n 1, 1) := by decide +kernel
theorem dX10_tear_24 : decode cX10_tear 24 = .ok (.imul, 1) := by decide +kernel
theorem dX10_tear_25 : decode cX10_tear 25 = .ok (.iload_n 2, 1) := by decide +kernel
theorem dX10_tear_26 : decode cX10_tear 26 = .ok (.iadd, 1) := by decide +kernel
theorem dX10_tear_27 : decode cX10_tear 27 = .ok (.iaload, 1) := by decide +kernel
theorem dX10_tear_28 : decode cX10_tear 28 = .ok (.istore_n 3, 1) := by decide +kernel
theorem dX10_tear_29 : decode cX10_tear 29 = .ok (.aload_n 0, 1) := by decide +kernel
theorem dX10_tear_30 : decode cX10_tear 30 = .ok (.getfield 17, 3) := by decide +kernel
theorem dX10_tear_33 : decode cX10_tear 33 = .ok (.bipush 10, 2) := by decide +kernel
theorem dX10_tear_35 : decode cX10_tear 35 = .ok (.iload_n 1, 1) := by decide +kernel
theorem dX10_tear_36 : decode cX10_tear 36 = .ok (.imul, 1) := by decide +kernel
theorem dX10_tear_37 : decode cX10_tear 37 = .ok (.iload_n 2, 1) := by decide +kernel
theorem dX10_tear_38 : decode cX10_tear 38 = .ok (.iadd, 1) := by decide +kernel
theorem dX10_tear_39 : decode cX10_tear 39 = .ok (.iconst (-1), 1) := by decide +kernel
theorem dX10_tear_40 : decode cX10_tear 40 = .ok (.iastore, 1) := by decide +kernel
theorem dX10_tear_41 : decode cX10_tear 41 = .ok (.iload_n 3, 1) := by decide +kernel
theorem dX10_tear_42 : decode cX10_tear 42 = .ok (.ireturn, 1) := by decide +kernel
theorem dX10_reads_0 : decode cX10_reads 0 = .ok (.bipush 10, 2) := by decide +kernel
theorem dX10_reads_2 : decode cX10_reads 2 = .ok (.iload_n 1, 1) := by decide +kernel
theorem dX10_reads_3 : decode cX10_reads 3 = .ok (.imul, 1) := by decide +kernel
theorem dX10_reads_4 : decode cX10_reads 4 = .ok (.iload_n 2, 1) := by decide +kernel
theorem dX10_reads_5 : decode cX10_reads 5 = .ok (.iadd, 1) := by decide +kernel
theorem dX10_reads_6 : decode cX10_reads 6 = .ok (.istore_n 3, 1) := by decide +kernel
theorem dX10_reads_7 : decode cX10_reads 7 = .ok (.aload_n 0, 1) := by decide +kernel
theorem dX10_reads_8 : decode cX10_reads 8 = .ok (.getfield 17, 3) := by decide +kernel
theorem dX10_reads_11 : decode cX10_reads 11 = .ok (.iload_n 3, 1) := by decide +kernel
theorem dX10_reads_12 : decode cX10_reads 12 = .ok (.iaload, 1) := by decide +kernel
theorem dX10_reads_13 : decode cX10_reads 13 = .ok (.iconst (-1), 1) := by decide +kernel
theorem dX10_reads_14 : decode cX10_reads 14 = .ok (.if_icmp .ne 7, 3) := by decide +kernel
theorem dX10_reads_17 : decode cX10_reads 17 = .ok (.iconst 0, 1) := by decide +kernel
theorem dX10_reads_18 : decode cX10_reads 18 = .ok (.goto 9, 3) := by decide +kernel
theorem dX10_reads_21 : decode cX10_reads 21 = .ok (.aload_n 0, 1) := by decide +kernel
theorem dX10_reads_22 : decode cX10_reads 22 = .ok (.getfield 17, 3) := by decide +kernel
theorem dX10_reads_25 : decode cX10_reads 25 = .ok (.iload_n 3, 1) := by decide +kernel
theorem dX10_reads_26 : decode cX10_reads 26 = .ok (.iaload, 1) := by decide +kernel
theorem dX10_reads_27 : decode cX10_reads 27 = .ok (.istore 4, 2) := by decide +kernel
theorem dX10_reads_29 : decode cX10_reads 29 = .ok (.aload_n 0, 1) := by decide +kernel
theorem dX10_reads_30 : decode cX10_reads 30 = .ok (.iload 4, 2) := by decide +kernel
theorem dX10_reads_32 : decode cX10_reads 32 = .ok (.bipush 60, 2) := by decide +kernel
theorem dX10_reads_34 : decode cX10_reads 34 = .ok (.if_icmp .le 7, 3) := by decide +kernel
theorem dX10_reads_37 : decode cX10_reads 37 = .ok (.iconst (-1), 1) := by decide +kernel
theorem dX10_reads_38 : decode cX10_reads 38 = .ok (.goto 5, 3) := by decide +kernel
theorem dX10_reads_41 : decode cX10_reads 41 = .ok (.iload 4, 2) := by decide +kernel
theorem dX10_reads_43 : decode cX10_reads 43 = .ok (.putfield 115, 3) := by decide +kernel
theorem dX10_reads_46 : decode cX10_reads 46 = .ok (.iconst 0, 1) := by decide +kernel
theorem dX10_reads_47 : decode cX10_reads 47 = .ok (.istore 5, 2) := by decide +kernel
theorem dX10_reads_49 : decode cX10_reads 49 = .ok (.iload 5, 2) := by decide +kernel
theorem dX10_reads_51 : decode cX10_reads 51 = .ok (.iload 4, 2) := by decide +kernel
theorem dX10_reads_53 : decode cX10_reads 53 = .ok (.if_icmp .ge 63, 3) := by decide +kernel
theorem dX10_reads_56 : decode cX10_reads 56 = .ok (.aload_n 0, 1) := by decide +kernel
theorem dX10_reads_57 : decode cX10_reads 57 = .ok (.getfield 115, 3) := by decide +kernel
theorem dX10_reads_60 : decode cX10_reads 60 = .ok (.iconst (-1), 1) := by decide +kernel
theorem dX10_reads_61 : decode cX10_reads 61 = .ok (.if_icmp .eq 55, 3) := by decide +kernel
theorem dX10_reads_64 : decode cX10_reads 64 = .ok (.aload_n 0, 1) := by decide +kernel
theorem dX10_reads_65 : decode cX10_reads 65 = .ok (.getfield 23, 3) := by decide +kernel
theorem dX10_reads_68 : decode cX10_reads 68 = .ok (.iload 5, 2) := by decide +kernel
theorem dX10_reads_70 : decode cX10_reads 70 = .ok (.aload_n 0, 1) := by decide +kernel
theorem dX10_reads_71 : decode cX10_reads 71 = .ok (.getfield 20, 3) := by decide +kernel
theorem dX10_reads_74 : decode cX10_reads 74 = .ok (.bipush 80, 2) := by decide +kernel
theorem dX10_reads_76 : decode cX10_reads 76 = .ok (.iload_n 3, 1) := by decide +kernel
theorem dX10_reads_77 : decode cX10_reads 77 = .ok (.imul, 1) := by decide +kernel
theorem dX10_reads_78 : decode cX10_reads 78 = .ok (.iload 5, 2) := by decide +kernel
theorem dX10_reads_80 : decode cX10_reads 80 = .ok (.iadd, 1) := by decide +kernel
theorem dX10_reads_81 : decode cX10_reads 81 = .ok (.iaload, 1) := by decide +kernel
theorem dX10_reads_82 : decode cX10_reads 82 = .ok (.iastore, 1) := by decide +kernel
theorem dX10_reads_83 : decode cX10_reads 83 = .ok (.aload_n 0, 1) := by decide +kernel
theorem dX10_reads_84 : decode cX10_reads 84 = .ok (.getfield 23, 3) := by decide +kernel
theorem dX10_reads_87 : decode cX10_reads 87 = .ok (.iload 5, 2) := by decide +kernel
theorem dX10_reads_89 : decode cX10_reads 89 = .ok (.iaload, 1) := by decide +kernel
theorem dX10_reads_90 : decode cX10_reads 90 = .ok (.ifCond .lt 15, 3) := by decide +kernel
theorem dX10_reads_93 : decode cX10_reads 93 = .ok (.aload_n 0, 1) := by decide +kernel
theorem dX10_reads_94 : decode cX10_reads 94 = .ok (.getfield 23, 3) := by decide +kernel
theorem dX10_reads_97 : decode cX10_reads 97 = .ok (.iload 5, 2) := by decide +kernel
theorem dX10_reads_99 : decode cX10_reads 99 = .ok (.iaload, 1) := by decide +kernel
theorem dX10_reads_100 : decode cX10_reads 100 = .ok (.bipush 7, 2) := by decide +kernel
theorem dX10_reads_102 : decode cX10_reads 102 = .ok (.if_icmp .le 8, 3) := by decide +kernel
theorem dX10_reads_105 : decode cX10_reads 105 = .ok (.aload_n 0, 1) := by decide +kernel
theorem dX10_reads_106 : decode cX10_reads 106 = .ok (.iconst (-1), 1) := by decide +kernel
theorem dX10_reads_107 : decode cX10_reads 107 = .ok (.putfield 115, 3) := by decide +kernel
theorem dX10_reads_110 : decode cX10_reads 110 = .ok (.iinc 5 1, 3) := by decide +kernel
theorem dX10_reads_113 : decode cX10_reads 113 = .ok (.goto (-64), 3) := by decide +kernel
theorem dX10_reads_116 : decode cX10_reads 116 = .ok (.aload_n 0, 1) := by decide +kernel
theorem dX10_reads_117 : decode cX10_reads 117 = .ok (.getfield 115, 3) := by decide +kernel
theorem dX10_reads_120 : decode cX10_reads 120 = .ok (.iconst (-1), 1) := by decide +kernel
theorem dX10_reads_121 : decode cX10_reads 121 = .ok (.if_icmp .eq 7, 3) := by decide +kernel
theorem dX10_reads_124 : decode cX10_reads 124 = .ok (.iconst 1, 1) := by decide +kernel
theorem dX10_reads_125 : decode cX10_reads 125 = .ok (.goto 4, 3) := by decide +kernel
theorem dX10_reads_128 : decode cX10_reads 128 = .ok (.iconst 0, 1) := by decide +kernel
theorem dX10_reads_129 : decode cX10_reads 129 = .ok (.ireturn, 1) := by decide +kernel
theorem dX10_word_0 : decode cX10_word 0 = .ok (.aload_n 0, 1) := by decide +kernel
theorem dX10_word_1 : decode cX10_word 1 = .ok (.iconst 0, 1) := by decide +kernel
theorem dX10_word_2 : decode cX10_word 2 = .ok (.putfield 1, 3) := by decide +kernel
theorem dX10_word_5 : decode cX10_word 5 = .ok (.aload_n 0, 1) := by decide +kernel
theorem dX10_word_6 : decode cX10_word 6 = .ok (.iload_n 1, 1) := by decide +kernel
theorem dX10_word_7 : decode cX10_word 7 = .ok (.iload_n 2, 1) := by decide +kernel
theorem dX10_word_8 : decode cX10_word 8 = .ok (.iconst 1, 1) := by decide +kernel
theorem dX10_word_9 : decode cX10_word 9 = .ok (.invokevirtual 111, 3) := by decide +kernel
theorem dX10_word_12 : decode cX10_word 12 = .ok (.ifCond .ne 5, 3) := by decide +kernel
theorem dX10_word_15 : decode cX10_word 15 = .ok (.iconst 0, 1) := by decide +kernel
theorem dX10_word_16 : decode cX10_word 16 = .ok (.ireturn, 1) := by decide +kernel
theorem dX10_word_17 : decode cX10_word 17 = .ok (.aload_n 0, 1) := by decide +kernel
theorem dX10_word_18 : decode cX10_word 18 = .ok (.iload_n 1, 1) := by decide +kernel
theorem dX10_word_19 : decode cX10_word 19 = .ok (.iload_n 2, 1) := by decide +kernel
theorem dX10_word_20 : decode cX10_word 20 = .ok (.invokevirtual 118, 3) := by decide +kernel
theorem dX10_word_23 : decode cX10_word 23 = .ok (.ifCond .eq 10, 3) := by decide +kernel
theorem dX10_word_26 : decode cX10_word 26 = .ok (.aload_n 0, 1) := by decide +kernel
theorem dX10_word_27 : decode cX10_word 27 = .ok (.getfield 115, 3) := by decide +kernel
theorem dX10_word_30 : decode cX10_word 30 = .ok (.goto 4, 3) := by decide +kernel
theorem dX10_word_33 : decode cX10_word 33 = .ok (.iconst (-1), 1) := by decide +kernel
theorem dX10_word_34 : decode cX10_word 34 = .ok (.ireturn, 1) := by decide +kernel
theorem dX10_letter_0 : decode cX10_letter 0 = .ok (.aload_n 0, 1) := by decide +kernel
theorem dX10_letter_1 : decode cX10_letter 1 = .ok (.iconst 0, 1) := by decide +kernel
theorem dX10_letter_2 : decode cX10_letter 2 = .ok (.putfield 1, 3) := by decide +kernel
theorem dX10_letter_5 : decode cX10_letter 5 = .ok (.aload_n 0, 1) := by decide +kernel
theorem dX10_letter_6 : decode cX10_letter 6 = .ok (.iload_n 1, 1) := by decide +kernel
theorem dX10_letter_7 : decode cX10_letter 7 = .ok (.iload_n 2, 1) := by decide +kernel
theorem dX10_letter_8 : decode cX10_letter 8 = .ok (.iconst 1, 1) := by decide +kernel
theorem dX10_letter_9 : decode cX10_letter 9 = .ok (.invokevirtual 111, 3) := by decide +kernel
theorem dX10_letter_12 : decode cX10_letter 12 = .ok (.ifCond .ne 5, 3) := by decide +kernel
theorem dX10_letter_15 : decode cX10_letter 15 = .ok (.iconst 0, 1) := by decide +kernel
theorem dX10_letter_16 : decode cX10_letter 16 = .ok (.ireturn, 1) := by decide +kernel
theorem dX10_letter_17 : decode cX10_letter 17 = .ok (.aload_n 0, 1) := by decide +kernel
theorem dX10_letter_18 : decode cX10_letter 18 = .ok (.iload_n 1, 1) := by decide +kernel
theorem dX10_letter_19 : decode cX10_letter 19 = .ok (.iload_n 2, 1) := by decide +kernel
theorem dX10_letter_20 : decode cX10_letter 20 = .ok (.invokevirtual 118, 3) := by decide +kernel
theorem dX10_letter_23 : decode cX10_letter 23 = .ok (.ifCond .eq 24, 3) := by decide +kernel
theorem dX10_letter_26 : decode cX10_letter 26 = .ok (.iload_n 3, 1) := by decide +kernel
theorem dX10_letter_27 : decode cX10_letter 27 = .ok (.ifCond .lt 20, 3) := by decide +kernel
theorem dX10_letter_30 : decode cX10_letter 30 = .ok (.iload_n 3, 1) := by decide +kernel
theorem dX10_letter_31 : decode cX10_letter 31 = .ok (.aload_n 0, 1) := by decide +kernel
theorem dX10_letter_32 : decode cX10_letter 32 = .ok (.getfield 115, 3) := by decide +kernel
theorem dX10_letter_35 : decode cX10_letter 35 = .ok (.if_icmp .ge 12, 3) := by decide +kernel
theorem dX10_letter_38 : decode cX10_letter 38 = .ok (.aload_n 0, 1) := by decide +kernel
theorem dX10_letter_39 : decode cX10_letter 39 = .ok (.getfield 23, 3) := by decide +kernel
theorem dX10_letter_42 : decode cX10_letter 42 = .ok (.iload_n 3, 1) := by decide +kernel
theorem dX10_letter_43 : decode cX10_letter 43 = .ok (.iaload, 1) := by decide +kernel
theorem dX10_letter_44 : decode cX10_letter 44 = .ok (.goto 4, 3) := by decide +kernel
theorem dX10_letter_47 : decode cX10_letter 47 = .ok (.iconst (-1), 1) := by decide +kernel
theorem dX10_letter_48 : decode cX10_letter 48 = .ok (.ireturn, 1) := by decide +kernel
theorem dX10_write_0 : decode cX10_write 0 = .ok (.bipush 10, 2) := by decide +kernel
theorem dX10_write_2 : decode cX10_write 2 = .ok (.iload_n 1, 1) := by decide +kernel
theorem dX10_write_3 : decode cX10_write 3 = .ok (.imul, 1) := by decide +kernel
theorem dX10_write_4 : decode cX10_write 4 = .ok (.istore 4, 2) := by decide +kernel
theorem dX10_write_6 : decode cX10_write 6 = .ok (.aload_n 0, 1) := by decide +kernel
theorem dX10_write_7 : decode cX10_write 7 = .ok (.getfield 17, 3) := by decide +kernel
theorem dX10_write_10 : decode cX10_write 10 = .ok (.iload 4, 2) := by decide +kernel
theorem dX10_write_12 : decode cX10_write 12 = .ok (.iload_n 3, 1) := by decide +kernel
theorem dX10_write_13 : decode cX10_write 13 = .ok (.iastore, 1) := by decide +kernel
theorem dX10_write_14 : decode cX10_write 14 = .ok (.iconst 0, 1) := by decide +kernel
theorem dX10_write_15 : decode cX10_write 15 = .ok (.istore 5, 2) := by decide +kernel
theorem dX10_write_17 : decode cX10_write 17 = .ok (.iload 5, 2) := by decide +kernel
theorem dX10_write_19 : decode cX10_write 19 = .ok (.bipush 80, 2) := by decide +kernel
theorem dX10_write_21 : decode cX10_write 21 = .ok (.if_icmp .ge 36, 3) := by decide +kernel
theorem dX10_write_24 : decode cX10_write 24 = .ok (.aload_n 0, 1) := by decide +kernel
theorem dX10_write_25 : decode cX10_write 25 = .ok (.getfield 20, 3) := by decide +kernel
theorem dX10_write_28 : decode cX10_write 28 = .ok (.bipush 80, 2) := by decide +kernel
theorem dX10_write_30 : decode cX10_write 30 = .ok (.iload 4, 2) := by decide +kernel
theorem dX10_write_32 : decode cX10_write 32 = .ok (.imul, 1) := by decide +kernel
theorem dX10_write_33 : decode cX10_write 33 = .ok (.iload 5, 2) := by decide +kernel
theorem dX10_write_35 : decode cX10_write 35 = .ok (.iadd, 1) := by decide +kernel
theorem dX10_write_36 : decode cX10_write 36 = .ok (.iload 5, 2) := by decide +kernel
theorem dX10_write_38 : decode cX10_write 38 = .ok (.iload_n 3, 1) := by decide +kernel
theorem dX10_write_39 : decode cX10_write 39 = .ok (.if_icmp .ge 10, 3) := by decide +kernel
theorem dX10_write_42 : decode cX10_write 42 = .ok (.aload_n 2, 1) := by decide +kernel
theorem dX10_write_43 : decode cX10_write 43 = .ok (.iload 5, 2) := by decide +kernel
theorem dX10_write_45 : decode cX10_write 45 = .ok (.iaload, 1) := by decide +kernel
theorem dX10_write_46 : decode cX10_write 46 = .ok (.goto 4, 3) := by decide +kernel
theorem dX10_write_49 : decode cX10_write 49 = .ok (.iconst 0, 1) := by decide +kernel
theorem dX10_write_50 : decode cX10_write 50 = .ok (.iastore, 1) := by decide +kernel
theorem dX10_write_51 : decode cX10_write 51 = .ok (.iinc 5 1, 3) := by decide +kernel
theorem dX10_write_54 : decode cX10_write 54 = .ok (.goto (-37), 3) := by decide +kernel
theorem dX10_write_57 : decode cX10_write 57 = .ok (.return_, 1) := by decide +kernel
theorem dX10_law_0 : decode cX10_law 0 = .ok (.aload_n 0, 1) := by decide +kernel
theorem dX10_law_1 : decode cX10_law 1 = .ok (.iconst 0, 1) := by decide +kernel
theorem dX10_law_2 : decode cX10_law 2 = .ok (.putfield 1, 3) := by decide +kernel
theorem dX10_law_5 : decode cX10_law 5 = .ok (.iload_n 1, 1) := by decide +kernel
theorem dX10_law_6 : decode cX10_law 6 = .ok (.ifCond .lt 12, 3) := by decide +kernel
theorem dX10_law_9 : decode cX10_law 9 = .ok (.iload_n 1, 1) := by decide +kernel
theorem dX10_law_10 : decode cX10_law 10 = .ok (.iconst 5, 1) := by decide +kernel
theorem dX10_law_11 : decode cX10_law 11 = .ok (.if_icmp .gt 7, 3) := by decide +kernel
theorem dX10_law_14 : decode cX10_law 14 = .ok (.iconst 1, 1) := by decide +kernel
theorem dX10_law_15 : decode cX10_law 15 = .ok (.goto 4, 3) := by decide +kernel
theorem dX10_law_18 : decode cX10_law 18 = .ok (.iconst 0, 1) := by decide +kernel
theorem dX10_law_19 : decode cX10_law 19 = .ok (.istore 4, 2) := by decide +kernel
theorem dX10_law_21 : decode cX10_law 21 = .ok (.iload_n 1, 1) := by decide +kernel
theorem dX10_law_22 : decode cX10_law 22 = .ok (.iconst 1, 1) := by decide +kernel
theorem dX10_law_23 : decode cX10_law 23 = .ok (.if_icmp .eq 8, 3) := by decide +kernel
theorem dX10_law_26 : decode cX10_law 26 = .ok (.iload_n 1, 1) := by decide +kernel
theorem dX10_law_27 : decode cX10_law 27 = .ok (.iconst 2, 1) := by decide +kernel
theorem dX10_law_28 : decode cX10_law 28 = .ok (.if_icmp .ne 50, 3) := by decide +kernel
theorem dX10_law_31 : decode cX10_law 31 = .ok (.iload_n 2, 1) := by decide +kernel
theorem dX10_law_32 : decode cX10_law 32 = .ok (.iconst 1, 1) := by decide +kernel
theorem dX10_law_33 : decode cX10_law 33 = .ok (.if_icmp .lt 42, 3) := by decide +kernel
theorem dX10_law_36 : decode cX10_law 36 = .ok (.iload_n 2, 1) := by decide +kernel
theorem dX10_law_37 : decode cX10_law 37 = .ok (.bipush 30, 2) := by decide +kernel
theorem dX10_law_39 : decode cX10_law 39 = .ok (.if_icmp .gt 36, 3) := by decide +kernel
theorem dX10_law_42 : decode cX10_law 42 = .ok (.iload_n 3, 1) := by decide +kernel
theorem dX10_law_43 : decode cX10_law 43 = .ok (.iconst 1, 1) := by decide +kernel
theorem dX10_law_44 : decode cX10_law 44 = .ok (.if_icmp .lt 31, 3) := by decide +kernel
theorem dX10_law_47 : decode cX10_law 47 = .ok (.iload_n 3, 1) := by decide +kernel
theorem dX10_law_48 : decode cX10_law 48 = .ok (.bipush 30, 2) := by decide +kernel
theorem dX10_law_50 : decode cX10_law 50 = .ok (.if_icmp .gt 25, 3) := by decide +kernel
theorem dX10_law_53 : decode cX10_law 53 = .ok (.iload_n 1, 1) := by decide +kernel
theorem dX10_law_54 : decode cX10_law 54 = .ok (.iconst 1, 1) := by decide +kernel
theorem dX10_law_55 : decode cX10_law 55 = .ok (.if_icmp .ne 11, 3) := by decide +kernel
theorem dX10_law_58 : decode cX10_law 58 = .ok (.iload_n 2, 1) := by decide +kernel
theorem dX10_law_59 : decode cX10_law 59 = .ok (.iload_n 3, 1) := by decide +kernel
theorem dX10_law_60 : decode cX10_law 60 = .ok (.if_icmp .le 15, 3) := by decide +kernel
theorem dX10_law_63 : decode cX10_law 63 = .ok (.goto 8, 3) := by decide +kernel
theorem dX10_law_66 : decode cX10_law 66 = .ok (.iload_n 2, 1) := by decide +kernel
theorem dX10_law_67 : decode cX10_law 67 = .ok (.iload_n 3, 1) := by decide +kernel
theorem dX10_law_68 : decode cX10_law 68 = .ok (.if_icmp .lt 7, 3) := by decide +kernel
theorem dX10_law_71 : decode cX10_law 71 = .ok (.iconst 1, 1) := by decide +kernel
theorem dX10_law_72 : decode cX10_law 72 = .ok (.goto 4, 3) := by decide +kernel
theorem dX10_law_75 : decode cX10_law 75 = .ok (.iconst 0, 1) := by decide +kernel
theorem dX10_law_76 : decode cX10_law 76 = .ok (.istore 4, 2) := by decide +kernel
theorem dX10_law_78 : decode cX10_law 78 = .ok (.iload_n 1, 1) := by decide +kernel
theorem dX10_law_79 : decode cX10_law 79 = .ok (.iconst 3, 1) := by decide +kernel
theorem dX10_law_80 : decode cX10_law 80 = .ok (.if_icmp .ne 24, 3) := by decide +kernel
theorem dX10_law_83 : decode cX10_law 83 = .ok (.iload_n 2, 1) := by decide +kernel
theorem dX10_law_84 : decode cX10_law 84 = .ok (.ifCond .lt 17, 3) := by decide +kernel
theorem dX10_law_87 : decode cX10_law 87 = .ok (.iload_n 2, 1) := by decide +kernel
theorem dX10_law_88 : decode cX10_law 88 = .ok (.bipush 9, 2) := by decide +kernel
theorem dX10_law_90 : decode cX10_law 90 = .ok (.if_icmp .gt 11, 3) := by decide +kernel
theorem dX10_law_93 : decode cX10_law 93 = .ok (.iload_n 3, 1) := by decide +kernel
theorem dX10_law_94 : decode cX10_law 94 = .ok (.ifCond .ne 7, 3) := by decide +kernel
theorem dX10_law_97 : decode cX10_law 97 = .ok (.iconst 1, 1) := by decide +kernel
theorem dX10_law_98 : decode cX10_law 98 = .ok (.goto 4, 3) := by decide +kernel
theorem dX10_law_101 : decode cX10_law 101 = .ok (.iconst 0, 1) := by decide +kernel
theorem dX10_law_102 : decode cX10_law 102 = .ok (.istore 4, 2) := by decide +kernel
theorem dX10_law_104 : decode cX10_law 104 = .ok (.iload_n 1, 1) := by decide +kernel
theorem dX10_law_105 : decode cX10_law 105 = .ok (.iconst 4, 1) := by decide +kernel
theorem dX10_law_106 : decode cX10_law 106 = .ok (.if_icmp .ne 18, 3) := by decide +kernel
theorem dX10_law_109 : decode cX10_law 109 = .ok (.iload_n 2, 1) := by decide +kernel
theorem dX10_law_110 : decode cX10_law 110 = .ok (.ifCond .ne 11, 3) := by decide +kernel
theorem dX10_law_113 : decode cX10_law 113 = .ok (.iload_n 3, 1) := by decide +kernel
theorem dX10_law_114 : decode cX10_law 114 = .ok (.ifCond .ne 7, 3) := by decide +kernel
theorem dX10_law_117 : decode cX10_law 117 = .ok (.iconst 1, 1) := by decide +kernel
theorem dX10_law_118 : decode cX10_law 118 = .ok (.goto 4, 3) := by decide +kernel
theorem dX10_law_121 : decode cX10_law 121 = .ok (.iconst 0, 1) := by decide +kernel
theorem dX10_law_122 : decode cX10_law 122 = .ok (.istore 4, 2) := by decide +kernel
theorem dX10_law_124 : decode cX10_law 124 = .ok (.aload_n 0, 1) := by decide +kernel
theorem dX10_law_125 : decode cX10_law 125 = .ok (.iload 4, 2) := by decide +kernel
theorem dX10_law_127 : decode cX10_law 127 = .ok (.iconst 1, 1) := by decide +kernel
theorem dX10_law_128 : decode cX10_law 128 = .ok (.invokevirtual 100, 3) := by decide +kernel
theorem dX10_law_131 : decode cX10_law 131 = .ok (.ifCond .ne 5, 3) := by decide +kernel
theorem dX10_law_134 : decode cX10_law 134 = .ok (.iconst 0, 1) := by decide +kernel
theorem dX10_law_135 : decode cX10_law 135 = .ok (.ireturn, 1) := by decide +kernel
theorem dX10_law_136 : decode cX10_law 136 = .ok (.aload_n 0, 1) := by decide +kernel
theorem dX10_law_137 : decode cX10_law 137 = .ok (.iconst 0, 1) := by decide +kernel
theorem dX10_law_138 : decode cX10_law 138 = .ok (.putfield 115, 3) := by decide +kernel
theorem dX10_law_141 : decode cX10_law 141 = .ok (.iload_n 1, 1) := by decide +kernel
theorem dX10_law_142 : decode cX10_law 142 = .ok (.ifCond .eq 8, 3) := by decide +kernel
theorem dX10_law_145 : decode cX10_law 145 = .ok (.iload_n 1, 1) := by decide +kernel
theorem dX10_law_146 : decode cX10_law 146 = .ok (.iconst 5, 1) := by decide +kernel
theorem dX10_law_147 : decode cX10_law 147 = .ok (.if_icmp .ne 83, 3) := by decide +kernel
theorem dX10_law_150 : decode cX10_law 150 = .ok (.aload_n 0, 1) := by decide +kernel
theorem dX10_law_151 : decode cX10_law 151 = .ok (.iload_n 2, 1) := by decide +kernel
theorem dX10_law_152 : decode cX10_law 152 = .ok (.iload_n 3, 1) := by decide +kernel
theorem dX10_law_153 : decode cX10_law 153 = .ok (.iconst 2, 1) := by decide +kernel
theorem dX10_law_154 : decode cX10_law 154 = .ok (.invokevirtual 111, 3) := by decide +kernel
theorem dX10_law_157 : decode cX10_law 157 = .ok (.ifCond .ne 5, 3) := by decide +kernel
theorem dX10_law_160 : decode cX10_law 160 = .ok (.iconst 0, 1) := by decide +kernel
theorem dX10_law_161 : decode cX10_law 161 = .ok (.ireturn, 1) := by decide +kernel
theorem dX10_law_162 : decode cX10_law 162 = .ok (.aload_n 0, 1) := by decide +kernel
theorem dX10_law_163 : decode cX10_law 163 = .ok (.iload_n 2, 1) := by decide +kernel
theorem dX10_law_164 : decode cX10_law 164 = .ok (.iload_n 3, 1) := by decide +kernel
theorem dX10_law_165 : decode cX10_law 165 = .ok (.invokevirtual 118, 3) := by decide +kernel
theorem dX10_law_168 : decode cX10_law 168 = .ok (.ifCond .eq 24, 3) := by decide +kernel
theorem dX10_law_171 : decode cX10_law 171 = .ok (.aload_n 0, 1) := by decide +kernel
theorem dX10_law_172 : decode cX10_law 172 = .ok (.getfield 115, 3) := by decide +kernel
theorem dX10_law_175 : decode cX10_law 175 = .ok (.ifCond .eq 17, 3) := by decide +kernel
theorem dX10_law_178 : decode cX10_law 178 = .ok (.iload_n 1, 1) := by decide +kernel
theorem dX10_law_179 : decode cX10_law 179 = .ok (.iconst 5, 1) := by decide +kernel
theorem dX10_law_180 : decode cX10_law 180 = .ok (.if_icmp .ne 14, 3) := by decide +kernel
theorem dX10_law_183 : decode cX10_law 183 = .ok (.aload_n 0, 1) := by decide +kernel
theorem dX10_law_184 : decode cX10_law 184 = .ok (.getfield 115, 3) := by decide +kernel
theorem dX10_law_187 : decode cX10_law 187 = .ok (.bipush 6, 2) := by decide +kernel
theorem dX10_law_189 : decode cX10_law 189 = .ok (.if_icmp .le 5, 3) := by decide +kernel
theorem dX10_law_192 : decode cX10_law 192 = .ok (.iconst (-1), 1) := by decide +kernel
theorem dX10_law_193 : decode cX10_law 193 = .ok (.ireturn, 1) := by decide +kernel
theorem dX10_law_194 : decode cX10_law 194 = .ok (.iconst 0, 1) := by decide +kernel
theorem dX10_law_195 : decode cX10_law 195 = .ok (.istore 5, 2) := by decide +kernel
theorem dX10_law_197 : decode cX10_law 197 = .ok (.iload 5, 2) := by decide +kernel
theorem dX10_law_199 : decode cX10_law 199 = .ok (.aload_n 0, 1) := by decide +kernel
theorem dX10_law_200 : decode cX10_law 200 = .ok (.getfield 115, 3) := by decide +kernel
theorem dX10_law_203 : decode cX10_law 203 = .ok (.if_icmp .ge 27, 3) := by decide +kernel
theorem dX10_law_206 : decode cX10_law 206 = .ok (.iload_n 1, 1) := by decide +kernel
theorem dX10_law_207 : decode cX10_law 207 = .ok (.iconst 5, 1) := by decide +kernel
theorem dX10_law_208 : decode cX10_law 208 = .ok (.if_icmp .ne 16, 3) := by decide +kernel
theorem dX10_law_211 : decode cX10_law 211 = .ok (.aload_n 0, 1) := by decide +kernel
theorem dX10_law_212 : decode cX10_law 212 = .ok (.getfield 23, 3) := by decide +kernel
theorem dX10_law_215 : decode cX10_law 215 = .ok (.iload 5, 2) := by decide +kernel
theorem dX10_law_217 : decode cX10_law 217 = .ok (.iaload, 1) := by decide +kernel
theorem dX10_law_218 : decode cX10_law 218 = .ok (.iconst 2, 1) := by decide +kernel
theorem dX10_law_219 : decode cX10_law 219 = .ok (.if_icmp .le 5, 3) := by decide +kernel
theorem dX10_law_222 : decode cX10_law 222 = .ok (.iconst (-1), 1) := by decide +kernel
theorem dX10_law_223 : decode cX10_law 223 = .ok (.ireturn, 1) := by decide +kernel
theorem dX10_law_224 : decode cX10_law 224 = .ok (.iinc 5 1, 3) := by decide +kernel
theorem dX10_law_227 : decode cX10_law 227 = .ok (.goto (-30), 3) := by decide +kernel
theorem dX10_law_230 : decode cX10_law 230 = .ok (.aload_n 0, 1) := by decide +kernel
theorem dX10_law_231 : decode cX10_law 231 = .ok (.getfield 122, 3) := by decide +kernel
theorem dX10_law_234 : decode cX10_law 234 = .ok (.bipush 12, 2) := by decide +kernel
theorem dX10_law_236 : decode cX10_law 236 = .ok (.if_icmp .ne 6, 3) := by decide +kernel
theorem dX10_law_239 : decode cX10_law 239 = .ok (.bipush (-2), 2) := by decide +kernel
theorem dX10_law_241 : decode cX10_law 241 = .ok (.ireturn, 1) := by decide +kernel
theorem dX10_law_242 : decode cX10_law 242 = .ok (.aload_n 0, 1) := by decide +kernel
theorem dX10_law_243 : decode cX10_law 243 = .ok (.getfield 26, 3) := by decide +kernel
theorem dX10_law_246 : decode cX10_law 246 = .ok (.aload_n 0, 1) := by decide +kernel
theorem dX10_law_247 : decode cX10_law 247 = .ok (.getfield 122, 3) := by decide +kernel
theorem dX10_law_250 : decode cX10_law 250 = .ok (.iload_n 1, 1) := by decide +kernel
theorem dX10_law_251 : decode cX10_law 251 = .ok (.iastore, 1) := by decide +kernel
theorem dX10_law_252 : decode cX10_law 252 = .ok (.aload_n 0, 1) := by decide +kernel
theorem dX10_law_253 : decode cX10_law 253 = .ok (.getfield 29, 3) := by decide +kernel
theorem dX10_law_256 : decode cX10_law 256 = .ok (.aload_n 0, 1) := by decide +kernel
theorem dX10_law_257 : decode cX10_law 257 = .ok (.getfield 122, 3) := by decide +kernel
theorem dX10_law_260 : decode cX10_law 260 = .ok (.iload_n 2, 1) := by decide +kernel
theorem dX10_law_261 : decode cX10_law 261 = .ok (.iastore, 1) := by decide +kernel
theorem dX10_law_262 : decode cX10_law 262 = .ok (.aload_n 0, 1) := by decide +kernel
theorem dX10_law_263 : decode cX10_law 263 = .ok (.getfield 32, 3) := by decide +kernel
theorem dX10_law_266 : decode cX10_law 266 = .ok (.aload_n 0, 1) := by decide +kernel
theorem dX10_law_267 : decode cX10_law 267 = .ok (.getfield 122, 3) := by decide +kernel
theorem dX10_law_270 : decode cX10_law 270 = .ok (.iload_n 3, 1) := by decide +kernel
theorem dX10_law_271 : decode cX10_law 271 = .ok (.iastore, 1) := by decide +kernel
theorem dX10_law_272 : decode cX10_law 272 = .ok (.aload_n 0, 1) := by decide +kernel
theorem dX10_law_273 : decode cX10_law 273 = .ok (.getfield 35, 3) := by decide +kernel
theorem dX10_law_276 : decode cX10_law 276 = .ok (.aload_n 0, 1) := by decide +kernel
theorem dX10_law_277 : decode cX10_law 277 = .ok (.getfield 122, 3) := by decide +kernel
theorem dX10_law_280 : decode cX10_law 280 = .ok (.aload_n 0, 1) := by decide +kernel
theorem dX10_law_281 : decode cX10_law 281 = .ok (.getfield 115, 3) := by decide +kernel
theorem dX10_law_284 : decode cX10_law 284 = .ok (.iastore, 1) := by decide +kernel
theorem dX10_law_285 : decode cX10_law 285 = .ok (.iconst 0, 1) := by decide +kernel
theorem dX10_law_286 : decode cX10_law 286 = .ok (.istore 5, 2) := by decide +kernel
theorem dX10_law_288 : decode cX10_law 288 = .ok (.iload 5, 2) := by decide +kernel
theorem dX10_law_290 : decode cX10_law 290 = .ok (.aload_n 0, 1) := by decide +kernel
theorem dX10_law_291 : decode cX10_law 291 = .ok (.getfield 115, 3) := by decide +kernel
theorem dX10_law_294 : decode cX10_law 294 = .ok (.if_icmp .ge 31, 3) := by decide +kernel
theorem dX10_law_297 : decode cX10_law 297 = .ok (.aload_n 0, 1) := by decide +kernel
theorem dX10_law_298 : decode cX10_law 298 = .ok (.getfield 38, 3) := by decide +kernel
theorem dX10_law_301 : decode cX10_law 301 = .ok (.bipush 80, 2) := by decide +kernel
theorem dX10_law_303 : decode cX10_law 303 = .ok (.aload_n 0, 1) := by decide +kernel
theorem dX10_law_304 : decode cX10_law 304 = .ok (.getfield 122, 3) := by decide +kernel
theorem dX10_law_307 : decode cX10_law 307 = .ok (.imul, 1) := by decide +kernel
theorem dX10_law_308 : decode cX10_law 308 = .ok (.iload 5, 2) := by decide +kernel
theorem dX10_law_310 : decode cX10_law 310 = .ok (.iadd, 1) := by decide +kernel
theorem dX10_law_311 : decode cX10_law 311 = .ok (.aload_n 0, 1) := by decide +kernel
theorem dX10_law_312 : decode cX10_law 312 = .ok (.getfield 23, 3) := by decide +kernel
theorem dX10_law_315 : decode cX10_law 315 = .ok (.iload 5, 2) := by decide +kernel
theorem dX10_law_317 : decode cX10_law 317 = .ok (.iaload, 1) := by decide +kernel
theorem dX10_law_318 : decode cX10_law 318 = .ok (.iastore, 1) := by decide +kernel
theorem dX10_law_319 : decode cX10_law 319 = .ok (.iinc 5 1, 3) := by decide +kernel
theorem dX10_law_322 : decode cX10_law 322 = .ok (.goto (-34), 3) := by decide +kernel
theorem dX10_law_325 : decode cX10_law 325 = .ok (.aload_n 0, 1) := by decide +kernel
theorem dX10_law_326 : decode cX10_law 326 = .ok (.dup, 1) := by decide +kernel
theorem dX10_law_327 : decode cX10_law 327 = .ok (.getfield 122, 3) := by decide +kernel
theorem dX10_law_330 : decode cX10_law 330 = .ok (.iconst 1, 1) := by decide +kernel
theorem dX10_law_331 : decode cX10_law 331 = .ok (.iadd, 1) := by decide +kernel
theorem dX10_law_332 : decode cX10_law 332 = .ok (.putfield 122, 3) := by decide +kernel
theorem dX10_law_335 : decode cX10_law 335 = .ok (.aload_n 0, 1) := by decide +kernel
theorem dX10_law_336 : decode cX10_law 336 = .ok (.getfield 122, 3) := by decide +kernel
theorem dX10_law_339 : decode cX10_law 339 = .ok (.iconst 1, 1) := by decide +kernel
theorem dX10_law_340 : decode cX10_law 340 = .ok (.isub, 1) := by decide +kernel
theorem dX10_law_341 : decode cX10_law 341 = .ok (.ireturn, 1) := by decide +kernel
theorem dX10_count_0 : decode cX10_count 0 = .ok (.aload_n 0, 1) := by decide +kernel
theorem dX10_count_1 : decode cX10_count 1 = .ok (.iconst 0, 1) := by decide +kernel
theorem dX10_count_2 : decode cX10_count 2 = .ok (.putfield 1, 3) := by decide +kernel
theorem dX10_count_5 : decode cX10_count 5 = .ok (.iload_n 1, 1) := by decide +kernel
theorem dX10_count_6 : decode cX10_count 6 = .ok (.ifCond .ne 10, 3) := by decide +kernel
theorem dX10_count_9 : decode cX10_count 9 = .ok (.aload_n 0, 1) := by decide +kernel
theorem dX10_count_10 : decode cX10_count 10 = .ok (.getfield 104, 3) := by decide +kernel
theorem dX10_count_13 : decode cX10_count 13 = .ok (.goto 28, 3) := by decide +kernel
theorem dX10_count_16 : decode cX10_count 16 = .ok (.iload_n 1, 1) := by decide +kernel
theorem dX10_count_17 : decode cX10_count 17 = .ok (.iconst 1, 1) := by decide +kernel
theorem dX10_count_18 : decode cX10_count 18 = .ok (.if_icmp .ne 10, 3) := by decide +kernel
theorem dX10_count_21 : decode cX10_count 21 = .ok (.aload_n 0, 1) := by decide +kernel
theorem dX10_count_22 : decode cX10_count 22 = .ok (.getfield 122, 3) := by decide +kernel
theorem dX10_count_25 : decode cX10_count 25 = .ok (.goto 16, 3) := by decide +kernel
theorem dX10_count_28 : decode cX10_count 28 = .ok (.iload_n 1, 1) := by decide +kernel
theorem dX10_count_29 : decode cX10_count 29 = .ok (.iconst 2, 1) := by decide +kernel
theorem dX10_count_30 : decode cX10_count 30 = .ok (.if_icmp .ne 10, 3) := by decide +kernel
theorem dX10_count_33 : decode cX10_count 33 = .ok (.aload_n 0, 1) := by decide +kernel
theorem dX10_count_34 : decode cX10_count 34 = .ok (.getfield 125, 3) := by decide +kernel
theorem dX10_count_37 : decode cX10_count 37 = .ok (.goto 4, 3) := by decide +kernel
theorem dX10_count_40 : decode cX10_count 40 = .ok (.iconst (-1), 1) := by decide +kernel
theorem dX10_count_41 : decode cX10_count 41 = .ok (.ireturn, 1) := by decide +kernel
theorem dX10_isPeriod_0 : decode cX10_isPeriod 0 = .ok (.iload_n 1, 1) := by decide +kernel
theorem dX10_isPeriod_1 : decode cX10_isPeriod 1 = .ok (.istore 4, 2) := by decide +kernel
theorem dX10_isPeriod_3 : decode cX10_isPeriod 3 = .ok (.iload 4, 2) := by decide +kernel
theorem dX10_isPeriod_5 : decode cX10_isPeriod 5 = .ok (.iload_n 3, 1) := by decide +kernel
theorem dX10_isPeriod_6 : decode cX10_isPeriod 6 = .ok (.iadd, 1) := by decide +kernel
theorem dX10_isPeriod_7 : decode cX10_isPeriod 7 = .ok (.iload_n 2, 1) := by decide +kernel
theorem dX10_isPeriod_8 : decode cX10_isPeriod 8 = .ok (.if_icmp .ge 24, 3) := by decide +kernel
theorem dX10_isPeriod_11 : decode cX10_isPeriod 11 = .ok (.aload_n 0, 1) := by decide +kernel
theorem dX10_isPeriod_12 : decode cX10_isPeriod 12 = .ok (.iload 4, 2) := by decide +kernel
theorem dX10_isPeriod_14 : decode cX10_isPeriod 14 = .ok (.iaload, 1) := by decide +kernel
theorem dX10_isPeriod_15 : decode cX10_isPeriod 15 = .ok (.aload_n 0, 1) := by decide +kernel
theorem dX10_isPeriod_16 : decode cX10_isPeriod 16 = .ok (.iload 4, 2) := by decide +kernel
theorem dX10_isPeriod_18 : decode cX10_isPeriod 18 = .ok (.iload_n 3, 1) := by decide +kernel
theorem dX10_isPeriod_19 : decode cX10_isPeriod 19 = .ok (.iadd, 1) := by decide +kernel
theorem dX10_isPeriod_20 : decode cX10_isPeriod 20 = .ok (.iaload, 1) := by decide +kernel
theorem dX10_isPeriod_21 : decode cX10_isPeriod 21 = .ok (.if_icmp .eq 5, 3) := by decide +kernel
theorem dX10_isPeriod_24 : decode cX10_isPeriod 24 = .ok (.iconst 0, 1) := by decide +kernel
theorem dX10_isPeriod_25 : decode cX10_isPeriod 25 = .ok (.ireturn, 1) := by decide +kernel
theorem dX10_isPeriod_26 : decode cX10_isPeriod 26 = .ok (.iinc 4 1, 3) := by decide +kernel
theorem dX10_isPeriod_29 : decode cX10_isPeriod 29 = .ok (.goto (-26), 3) := by decide +kernel
theorem dX10_isPeriod_32 : decode cX10_isPeriod 32 = .ok (.iconst 1, 1) := by decide +kernel
theorem dX10_isPeriod_33 : decode cX10_isPeriod 33 = .ok (.ireturn, 1) := by decide +kernel
theorem dX10_period_0 : decode cX10_period 0 = .ok (.iconst 1, 1) := by decide +kernel
theorem dX10_period_1 : decode cX10_period 1 = .ok (.istore_n 3, 1) := by decide +kernel
theorem dX10_period_2 : decode cX10_period 2 = .ok (.aload_n 0, 1) := by decide +kernel
theorem dX10_period_3 : decode cX10_period 3 = .ok (.iload_n 1, 1) := by decide +kernel
theorem dX10_period_4 : decode cX10_period 4 = .ok (.iload_n 2, 1) := by decide +kernel
theorem dX10_period_5 : decode cX10_period 5 = .ok (.iload_n 3, 1) := by decide +kernel
theorem dX10_period_6 : decode cX10_period 6 = .ok (.invokestatic 128, 3) := by decide +kernel
theorem dX10_period_9 : decode cX10_period 9 = .ok (.ifCond .ne 9, 3) := by decide +kernel
theorem dX10_period_12 : decode cX10_period 12 = .ok (.iinc 3 1, 3) := by decide +kernel
theorem dX10_period_15 : decode cX10_period 15 = .ok (.goto (-13), 3) := by decide +kernel
theorem dX10_period_18 : decode cX10_period 18 = .ok (.iload_n 3, 1) := by decide +kernel
theorem dX10_period_19 : decode cX10_period 19 = .ok (.ireturn, 1) := by decide +kernel
theorem dX10_isTurned_0 : decode cX10_isTurned 0 = .ok (.iconst 0, 1) := by decide +kernel
theorem dX10_isTurned_1 : decode cX10_isTurned 1 = .ok (.istore 4, 2) := by decide +kernel
theorem dX10_isTurned_3 : decode cX10_isTurned 3 = .ok (.iload 4, 2) := by decide +kernel
theorem dX10_isTurned_5 : decode cX10_isTurned 5 = .ok (.bipush 8, 2) := by decide +kernel
theorem dX10_isTurned_7 : decode cX10_isTurned 7 = .ok (.if_icmp .ge 17, 3) := by decide +kernel
theorem dX10_isTurned_10 : decode cX10_isTurned 10 = .ok (.aload_n 0, 1) := by decide +kernel
theorem dX10_isTurned_11 : decode cX10_isTurned 11 = .ok (.getfield 41, 3) := by decide +kernel
theorem dX10_isTurned_14 : decode cX10_isTurned 14 = .ok (.iload 4, 2) := by decide +kernel
theorem dX10_isTurned_16 : decode cX10_isTurned 16 = .ok (.iconst 0, 1) := by decide +kernel
theorem dX10_isTurned_17 : decode cX10_isTurned 17 = .ok (.iastore, 1) := by decide +kernel
theorem dX10_isTurned_18 : decode cX10_isTurned 18 = .ok (.iinc 4 1, 3) := by decide +kernel
theorem dX10_isTurned_21 : decode cX10_isTurned 21 = .ok (.goto (-18), 3) := by decide +kernel
theorem dX10_isTurned_24 : decode cX10_isTurned 24 = .ok (.iconst 0, 1) := by decide +kernel
theorem dX10_isTurned_25 : decode cX10_isTurned 25 = .ok (.istore 4, 2) := by decide +kernel
theorem dX10_isTurned_27 : decode cX10_isTurned 27 = .ok (.iload 4, 2) := by decide +kernel
theorem dX10_isTurned_29 : decode cX10_isTurned 29 = .ok (.iload_n 3, 1) := by decide +kernel
theorem dX10_isTurned_30 : decode cX10_isTurned 30 = .ok (.if_icmp .ge 41, 3) := by decide +kernel
theorem dX10_isTurned_33 : decode cX10_isTurned 33 = .ok (.aload_n 0, 1) := by decide +kernel
theorem dX10_isTurned_34 : decode cX10_isTurned 34 = .ok (.getfield 41, 3) := by decide +kernel
theorem dX10_isTurned_37 : decode cX10_isTurned 37 = .ok (.aload_n 1, 1) := by decide +kernel
theorem dX10_isTurned_38 : decode cX10_isTurned 38 = .ok (.iload_n 2, 1) := by decide +kernel
theorem dX10_isTurned_39 : decode cX10_isTurned 39 = .ok (.iload 4, 2) := by decide +kernel
theorem dX10_isTurned_41 : decode cX10_isTurned 41 = .ok (.iadd, 1) := by decide +kernel
theorem dX10_isTurned_42 : decode cX10_isTurned 42 = .ok (.iaload, 1) := by decide +kernel
theorem dX10_isTurned_43 : decode cX10_isTurned 43 = .ok (.dup2, 1) := by decide +kernel
theorem dX10_isTurned_44 : decode cX10_isTurned 44 = .ok (.iaload, 1) := by decide +kernel
theorem dX10_isTurned_45 : decode cX10_isTurned 45 = .ok (.iconst 1, 1) := by decide +kernel
theorem dX10_isTurned_46 : decode cX10_isTurned 46 = .ok (.iadd, 1) := by decide +kernel
theorem dX10_isTurned_47 : decode cX10_isTurned 47 = .ok (.iastore, 1) := by decide +kernel
theorem dX10_isTurned_48 : decode cX10_isTurned 48 = .ok (.aload_n 0, 1) := by decide +kernel
theorem dX10_isTurned_49 : decode cX10_isTurned 49 = .ok (.getfield 41, 3) := by decide +kernel
theorem dX10_isTurned_52 : decode cX10_isTurned 52 = .ok (.aload_n 1, 1) := by decide +kernel
theorem dX10_isTurned_53 : decode cX10_isTurned 53 = .ok (.iload_n 2, 1) := by decide +kernel
theorem dX10_isTurned_54 : decode cX10_isTurned 54 = .ok (.iload_n 3, 1) := by decide +kernel
theorem dX10_isTurned_55 : decode cX10_isTurned 55 = .ok (.iadd, 1) := by decide +kernel
theorem dX10_isTurned_56 : decode cX10_isTurned 56 = .ok (.iload 4, 2) := by decide +kernel
theorem dX10_isTurned_58 : decode cX10_isTurned 58 = .ok (.iadd, 1) := by decide +kernel
theorem dX10_isTurned_59 : decode cX10_isTurned 59 = .ok (.iaload, 1) := by decide +kernel
theorem dX10_isTurned_60 : decode cX10_isTurned 60 = .ok (.dup2, 1) := by decide +kernel
theorem dX10_isTurned_61 : decode cX10_isTurned 61 = .ok (.iaload, 1) := by decide +kernel
theorem dX10_isTurned_62 : decode cX10_isTurned 62 = .ok (.iconst 1, 1) := by decide +kernel
theorem dX10_isTurned_63 : decode cX10_isTurned 63 = .ok (.isub, 1) := by decide +kernel
theorem dX10_isTurned_64 : decode cX10_isTurned 64 = .ok (.iastore, 1) := by decide +kernel
theorem dX10_isTurned_65 : decode cX10_isTurned 65 = .ok (.iinc 4 1, 3) := by decide +kernel
theorem dX10_isTurned_68 : decode cX10_isTurned 68 = .ok (.goto (-41), 3) := by decide +kernel
theorem dX10_isTurned_71 : decode cX10_isTurned 71 = .ok (.iconst 1, 1) := by decide +kernel
theorem dX10_isTurned_72 : decode cX10_isTurned 72 = .ok (.istore 4, 2) := by decide +kernel
theorem dX10_isTurned_74 : decode cX10_isTurned 74 = .ok (.iconst 0, 1) := by decide +kernel
theorem dX10_isTurned_75 : decode cX10_isTurned 75 = .ok (.istore 5, 2) := by decide +kernel
theorem dX10_isTurned_77 : decode cX10_isTurned 77 = .ok (.iload 5, 2) := by decide +kernel
theorem dX10_isTurned_79 : decode cX10_isTurned 79 = .ok (.bipush 8, 2) := by decide +kernel
theorem dX10_isTurned_81 : decode cX10_isTurned 81 = .ok (.if_icmp .ge 31, 3) := by decide +kernel
theorem dX10_isTurned_84 : decode cX10_isTurned 84 = .ok (.iload 4, 2) := by decide +kernel
theorem dX10_isTurned_86 : decode cX10_isTurned 86 = .ok (.ifCond .eq 17, 3) := by decide +kernel
theorem dX10_isTurned_89 : decode cX10_isTurned 89 = .ok (.aload_n 0, 1) := by decide +kernel
theorem dX10_isTurned_90 : decode cX10_isTurned 90 = .ok (.getfield 41, 3) := by decide +kernel
theorem dX10_isTurned_93 : decode cX10_isTurned 93 = .ok (.iload 5, 2) := by decide +kernel
theorem dX10_isTurned_95 : decode cX10_isTurned 95 = .ok (.iaload, 1) := by decide +kernel
theorem dX10_isTurned_96 : decode cX10_isTurned 96 = .ok (.ifCond .ne 7, 3) := by decide +kernel
theorem dX10_isTurned_99 : decode cX10_isTurned 99 = .ok (.iconst 1, 1) := by decide +kernel
theorem dX10_isTurned_100 : decode cX10_isTurned 100 = .ok (.goto 4, 3) := by decide +kernel
theorem dX10_isTurned_103 : decode cX10_isTurned 103 = .ok (.iconst 0, 1) := by decide +kernel
theorem dX10_isTurned_104 : decode cX10_isTurned 104 = .ok (.istore 4, 2) := by decide +kernel
theorem dX10_isTurned_106 : decode cX10_isTurned 106 = .ok (.iinc 5 1, 3) := by decide +kernel
theorem dX10_isTurned_109 : decode cX10_isTurned 109 = .ok (.goto (-32), 3) := by decide +kernel
theorem dX10_isTurned_112 : decode cX10_isTurned 112 = .ok (.iload 4, 2) := by decide +kernel
theorem dX10_isTurned_114 : decode cX10_isTurned 114 = .ok (.ireturn, 1) := by decide +kernel
theorem dX10_isBarred_0 : decode cX10_isBarred 0 = .ok (.iload 4, 2) := by decide +kernel
theorem dX10_isBarred_2 : decode cX10_isBarred 2 = .ok (.iload_n 3, 1) := by decide +kernel
theorem dX10_isBarred_3 : decode cX10_isBarred 3 = .ok (.isub, 1) := by decide +kernel
theorem dX10_isBarred_4 : decode cX10_isBarred 4 = .ok (.istore 5, 2) := by decide +kernel
theorem dX10_isBarred_6 : decode cX10_isBarred 6 = .ok (.aload_n 0, 1) := by decide +kernel
theorem dX10_isBarred_7 : decode cX10_isBarred 7 = .ok (.getfield 26, 3) := by decide +kernel
theorem dX10_isBarred_10 : decode cX10_isBarred 10 = .ok (.iload_n 1, 1) := by decide +kernel
theorem dX10_isBarred_11 : decode cX10_isBarred 11 = .ok (.iaload, 1) := by decide +kernel
theorem dX10_isBarred_12 : decode cX10_isBarred 12 = .ok (.tableswitch 281 0 4 #[36, 106, 138, 170, 255], 36) := by decide +kernel
theorem dX10_isBarred_48 : decode cX10_isBarred 48 = .ok (.iload 5, 2) := by decide +kernel
theorem dX10_isBarred_50 : decode cX10_isBarred 50 = .ok (.aload_n 0, 1) := by decide +kernel
theorem dX10_isBarred_51 : decode cX10_isBarred 51 = .ok (.getfield 35, 3) := by decide +kernel
theorem dX10_isBarred_54 : decode cX10_isBarred 54 = .ok (.iload_n 1, 1) := by decide +kernel
theorem dX10_isBarred_55 : decode cX10_isBarred 55 = .ok (.iaload, 1) := by decide +kernel
theorem dX10_isBarred_56 : decode cX10_isBarred 56 = .ok (.if_icmp .ne 7, 3) := by decide +kernel
theorem dX10_isBarred_59 : decode cX10_isBarred 59 = .ok (.iconst 1, 1) := by decide +kernel
theorem dX10_isBarred_60 : decode cX10_isBarred 60 = .ok (.goto 4, 3) := by decide +kernel
theorem dX10_isBarred_63 : decode cX10_isBarred 63 = .ok (.iconst 0, 1) := by decide +kernel
theorem dX10_isBarred_64 : decode cX10_isBarred 64 = .ok (.istore 6, 2) := by decide +kernel
theorem dX10_isBarred_66 : decode cX10_isBarred 66 = .ok (.iconst 0, 1) := by decide +kernel
theorem dX10_isBarred_67 : decode cX10_isBarred 67 = .ok (.istore 7, 2) := by decide +kernel
theorem dX10_isBarred_69 : decode cX10_isBarred 69 = .ok (.iload 7, 2) := by decide +kernel
theorem dX10_isBarred_71 : decode cX10_isBarred 71 = .ok (.iload 5, 2) := by decide +kernel
theorem dX10_isBarred_73 : decode cX10_isBarred 73 = .ok (.if_icmp .ge 42, 3) := by decide +kernel
theorem dX10_isBarred_76 : decode cX10_isBarred 76 = .ok (.iload 6, 2) := by decide +kernel
theorem dX10_isBarred_78 : decode cX10_isBarred 78 = .ok (.ifCond .eq 37, 3) := by decide +kernel
theorem dX10_isBarred_81 : decode cX10_isBarred 81 = .ok (.aload_n 2, 1) := by decide +kernel
theorem dX10_isBarred_82 : decode cX10_isBarred 82 = .ok (.iload_n 3, 1) := by decide +kernel
theorem dX10_isBarred_83 : decode cX10_isBarred 83 = .ok (.iload 7, 2) := by decide +kernel
theorem dX10_isBarred_85 : decode cX10_isBarred 85 = .ok (.iadd, 1) := by decide +kernel
theorem dX10_isBarred_86 : decode cX10_isBarred 86 = .ok (.iaload, 1) := by decide +kernel
theorem dX10_isBarred_87 : decode cX10_isBarred 87 = .ok (.aload_n 0, 1) := by decide +kernel
theorem dX10_isBarred_88 : decode cX10_isBarred 88 = .ok (.getfield 38, 3) := by decide +kernel
theorem dX10_isBarred_91 : decode cX10_isBarred 91 = .ok (.bipush 80, 2) := by decide +kernel
theorem dX10_isBarred_93 : decode cX10_isBarred 93 = .ok (.iload_n 1, 1) := by decide +kernel
theorem dX10_isBarred_94 : decode cX10_isBarred 94 = .ok (.imul, 1) := by decide +kernel
theorem dX10_isBarred_95 : decode cX10_isBarred 95 = .ok (.iload 7, 2) := by decide +kernel
theorem dX10_isBarred_97 : decode cX10_isBarred 97 = .ok (.iadd, 1) := by decide +kernel
theorem dX10_isBarred_98 : decode cX10_isBarred 98 = .ok (.iaload, 1) := by decide +kernel
theorem dX10_isBarred_99 : decode cX10_isBarred 99 = .ok (.if_icmp .ne 7, 3) := by decide +kernel
theorem dX10_isBarred_102 : decode cX10_isBarred 102 = .ok (.iconst 1, 1) := by decide +kernel
theorem dX10_isBarred_103 : decode cX10_isBarred 103 = .ok (.goto 4, 3) := by decide +kernel
theorem dX10_isBarred_106 : decode cX10_isBarred 106 = .ok (.iconst 0, 1) := by decide +kernel
theorem dX10_isBarred_107 : decode cX10_isBarred 107 = .ok (.istore 6, 2) := by decide +kernel
theorem dX10_isBarred_109 : decode cX10_isBarred 109 = .ok (.iinc 7 1, 3) := by decide +kernel
theorem dX10_isBarred_112 : decode cX10_isBarred 112 = .ok (.goto (-43), 3) := by decide +kernel
theorem dX10_isBarred_115 : decode cX10_isBarred 115 = .ok (.iload 6, 2) := by decide +kernel
theorem dX10_isBarred_117 : decode cX10_isBarred 117 = .ok (.ireturn, 1) := by decide +kernel
theorem dX10_isBarred_118 : decode cX10_isBarred 118 = .ok (.iload 5, 2) := by decide +kernel
theorem dX10_isBarred_120 : decode cX10_isBarred 120 = .ok (.aload_n 0, 1) := by decide +kernel
theorem dX10_isBarred_121 : decode cX10_isBarred 121 = .ok (.getfield 32, 3) := by decide +kernel
theorem dX10_isBarred_124 : decode cX10_isBarred 124 = .ok (.iload_n 1, 1) := by decide +kernel
theorem dX10_isBarred_125 : decode cX10_isBarred 125 = .ok (.iaload, 1) := by decide +kernel
theorem dX10_isBarred_126 : decode cX10_isBarred 126 = .ok (.imul, 1) := by decide +kernel
theorem dX10_isBarred_127 : decode cX10_isBarred 127 = .ok (.aload_n 0, 1) := by decide +kernel
theorem dX10_isBarred_128 : decode cX10_isBarred 128 = .ok (.getfield 29, 3) := by decide +kernel
theorem dX10_isBarred_131 : decode cX10_isBarred 131 = .ok (.iload_n 1, 1) := by decide +kernel
theorem dX10_isBarred_132 : decode cX10_isBarred 132 = .ok (.iaload, 1) := by decide +kernel
theorem dX10_isBarred_133 : decode cX10_isBarred 133 = .ok (.aload_n 2, 1) := by decide +kernel
theorem dX10_isBarred_134 : decode cX10_isBarred 134 = .ok (.iload_n 3, 1) := by decide +kernel
theorem dX10_isBarred_135 : decode cX10_isBarred 135 = .ok (.iload 4, 2) := by decide +kernel
theorem dX10_isBarred_137 : decode cX10_isBarred 137 = .ok (.invokestatic 132, 3) := by decide +kernel
theorem dX10_isBarred_140 : decode cX10_isBarred 140 = .ok (.imul, 1) := by decide +kernel
theorem dX10_isBarred_141 : decode cX10_isBarred 141 = .ok (.if_icmp .lt 7, 3) := by decide +kernel
theorem dX10_isBarred_144 : decode cX10_isBarred 144 = .ok (.iconst 1, 1) := by decide +kernel
theorem dX10_isBarred_145 : decode cX10_isBarred 145 = .ok (.goto 4, 3) := by decide +kernel
theorem dX10_isBarred_148 : decode cX10_isBarred 148 = .ok (.iconst 0, 1) := by decide +kernel
theorem dX10_isBarred_149 : decode cX10_isBarred 149 = .ok (.ireturn, 1) := by decide +kernel
theorem dX10_isBarred_150 : decode cX10_isBarred 150 = .ok (.iload 5, 2) := by decide +kernel
theorem dX10_isBarred_152 : decode cX10_isBarred 152 = .ok (.aload_n 0, 1) := by decide +kernel
theorem dX10_isBarred_153 : decode cX10_isBarred 153 = .ok (.getfield 32, 3) := by decide +kernel
theorem dX10_isBarred_156 : decode cX10_isBarred 156 = .ok (.iload_n 1, 1) := by decide +kernel
theorem dX10_isBarred_157 : decode cX10_isBarred 157 = .ok (.iaload, 1) := by decide +kernel
theorem dX10_isBarred_158 : decode cX10_isBarred 158 = .ok (.imul, 1) := by decide +kernel
theorem dX10_isBarred_159 : decode cX10_isBarred 159 = .ok (.aload_n 0, 1) := by decide +kernel
theorem dX10_isBarred_160 : decode cX10_isBarred 160 = .ok (.getfield 29, 3) := by decide +kernel
theorem dX10_isBarred_163 : decode cX10_isBarred 163 = .ok (.iload_n 1, 1) := by decide +kernel
theorem dX10_isBarred_164 : decode cX10_isBarred 164 = .ok (.iaload, 1) := by decide +kernel
theorem dX10_isBarred_165 : decode cX10_isBarred 165 = .ok (.aload_n 2, 1) := by decide +kernel
theorem dX10_isBarred_166 : decode cX10_isBarred 166 = .ok (.iload_n 3, 1) := by decide +kernel
theorem dX10_isBarred_167 : decode cX10_isBarred 167 = .ok (.iload 4, 2) := by decide +kernel
theorem dX10_isBarred_169 : decode cX10_isBarred 169 = .ok (.invokestatic 132, 3) := by decide +kernel
theorem dX10_isBarred_172 : decode cX10_isBarred 172 = .ok (.imul, 1) := by decide +kernel
theorem dX10_isBarred_173 : decode cX10_isBarred 173 = .ok (.if_icmp .le 7, 3) := by decide +kernel
theorem dX10_isBarred_176 : decode cX10_isBarred 176 = .ok (.iconst 1, 1) := by decide +kernel
theorem dX10_isBarred_177 : decode cX10_isBarred 177 = .ok (.goto 4, 3) := by decide +kernel
theorem dX10_isBarred_180 : decode cX10_isBarred 180 = .ok (.iconst 0, 1) := by decide +kernel
theorem dX10_isBarred_181 : decode cX10_isBarred 181 = .ok (.ireturn, 1) := by decide +kernel
theorem dX10_isBarred_182 : decode cX10_isBarred 182 = .ok (.iload 5, 2) := by decide +kernel
theorem dX10_isBarred_184 : decode cX10_isBarred 184 = .ok (.iconst 2, 1) := by decide +kernel
theorem dX10_isBarred_185 : decode cX10_isBarred 185 = .ok (.irem, 1) := by decide +kernel
theorem dX10_isBarred_186 : decode cX10_isBarred 186 = .ok (.iconst 1, 1) := by decide +kernel
theorem dX10_isBarred_187 : decode cX10_isBarred 187 = .ok (.if_icmp .ne 5, 3) := by decide +kernel
theorem dX10_isBarred_190 : decode cX10_isBarred 190 = .ok (.iconst 0, 1) := by decide +kernel
theorem dX10_isBarred_191 : decode cX10_isBarred 191 = .ok (.ireturn, 1) := by decide +kernel
theorem dX10_isBarred_192 : decode cX10_isBarred 192 = .ok (.iload 5, 2) := by decide +kernel
theorem dX10_isBarred_194 : decode cX10_isBarred 194 = .ok (.iconst 2, 1) := by decide +kernel
theorem dX10_isBarred_195 : decode cX10_isBarred 195 = .ok (.idiv, 1) := by decide +kernel
theorem dX10_isBarred_196 : decode cX10_isBarred 196 = .ok (.istore 6, 2) := by decide +kernel
theorem dX10_isBarred_198 : decode cX10_isBarred 198 = .ok (.iconst 0, 1) := by decide +kernel
theorem dX10_isBarred_199 : decode cX10_isBarred 199 = .ok (.istore 7, 2) := by decide +kernel
theorem dX10_isBarred_201 : decode cX10_isBarred 201 = .ok (.iload_n 3, 1) := by decide +kernel
theorem dX10_isBarred_202 : decode cX10_isBarred 202 = .ok (.istore 8, 2) := by decide +kernel
theorem dX10_isBarred_204 : decode cX10_isBarred 204 = .ok (.iload 8, 2) := by decide +kernel
theorem dX10_isBarred_206 : decode cX10_isBarred 206 = .ok (.iload_n 3, 1) := by decide +kernel
theorem dX10_isBarred_207 : decode cX10_isBarred 207 = .ok (.iload 6, 2) := by decide +kernel
theorem dX10_isBarred_209 : decode cX10_isBarred 209 = .ok (.iadd, 1) := by decide +kernel
theorem dX10_isBarred_210 : decode cX10_isBarred 210 = .ok (.if_icmp .ge 33, 3) := by decide +kernel
theorem dX10_isBarred_213 : decode cX10_isBarred 213 = .ok (.iload 7, 2) := by decide +kernel
theorem dX10_isBarred_215 : decode cX10_isBarred 215 = .ok (.aload_n 2, 1) := by decide +kernel
theorem dX10_isBarred_216 : decode cX10_isBarred 216 = .ok (.iload 8, 2) := by decide +kernel
theorem dX10_isBarred_218 : decode cX10_isBarred 218 = .ok (.iaload, 1) := by decide +kernel
theorem dX10_isBarred_219 : decode cX10_isBarred 219 = .ok (.aload_n 2, 1) := by decide +kernel
theorem dX10_isBarred_220 : decode cX10_isBarred 220 = .ok (.iload 8, 2) := by decide +kernel
theorem dX10_isBarred_222 : decode cX10_isBarred 222 = .ok (.iload 6, 2) := by decide +kernel
theorem dX10_isBarred_224 : decode cX10_isBarred 224 = .ok (.iadd, 1) := by decide +kernel
theorem dX10_isBarred_225 : decode cX10_isBarred 225 = .ok (.iaload, 1) := by decide +kernel
theorem dX10_isBarred_226 : decode cX10_isBarred 226 = .ok (.if_icmp .ne 7, 3) := by decide +kernel
theorem dX10_isBarred_229 : decode cX10_isBarred 229 = .ok (.iconst 0, 1) := by decide +kernel
theorem dX10_isBarred_230 : decode cX10_isBarred 230 = .ok (.goto 4, 3) := by decide +kernel
theorem dX10_isBarred_233 : decode cX10_isBarred 233 = .ok (.iconst 1, 1) := by decide +kernel
theorem dX10_isBarred_234 : decode cX10_isBarred 234 = .ok (.iadd, 1) := by decide +kernel
theorem dX10_isBarred_235 : decode cX10_isBarred 235 = .ok (.istore 7, 2) := by decide +kernel
theorem dX10_isBarred_237 : decode cX10_isBarred 237 = .ok (.iinc 8 1, 3) := by decide +kernel
theorem dX10_isBarred_240 : decode cX10_isBarred 240 = .ok (.goto (-36), 3) := by decide +kernel
theorem dX10_isBarred_243 : decode cX10_isBarred 243 = .ok (.iload 7, 2) := by decide +kernel
theorem dX10_isBarred_245 : decode cX10_isBarred 245 = .ok (.aload_n 0, 1) := by decide +kernel
theorem dX10_isBarred_246 : decode cX10_isBarred 246 = .ok (.getfield 29, 3) := by decide +kernel
theorem dX10_isBarred_249 : decode cX10_isBarred 249 = .ok (.iload_n 1, 1) := by decide +kernel
theorem dX10_isBarred_250 : decode cX10_isBarred 250 = .ok (.iaload, 1) := by decide +kernel
theorem dX10_isBarred_251 : decode cX10_isBarred 251 = .ok (.if_icmp .gt 14, 3) := by decide +kernel
theorem dX10_isBarred_254 : decode cX10_isBarred 254 = .ok (.iload 7, 2) := by decide +kernel
theorem dX10_isBarred_256 : decode cX10_isBarred 256 = .ok (.iload 6, 2) := by decide +kernel
theorem dX10_isBarred_258 : decode cX10_isBarred 258 = .ok (.if_icmp .ge 7, 3) := by decide +kernel
theorem dX10_isBarred_261 : decode cX10_isBarred 261 = .ok (.iconst 1, 1) := by decide +kernel
theorem dX10_isBarred_262 : decode cX10_isBarred 262 = .ok (.goto 4, 3) := by decide +kernel
theorem dX10_isBarred_265 : decode cX10_isBarred 265 = .ok (.iconst 0, 1) := by decide +kernel
theorem dX10_isBarred_266 : decode cX10_isBarred 266 = .ok (.ireturn, 1) := by decide +kernel
theorem dX10_isBarred_267 : decode cX10_isBarred 267 = .ok (.iload 5, 2) := by decide +kernel
theorem dX10_isBarred_269 : decode cX10_isBarred 269 = .ok (.iconst 2, 1) := by decide +kernel
theorem dX10_isBarred_270 : decode cX10_isBarred 270 = .ok (.irem, 1) := by decide +kernel
theorem dX10_isBarred_271 : decode cX10_isBarred 271 = .ok (.ifCond .ne 20, 3) := by decide +kernel
theorem dX10_isBarred_274 : decode cX10_isBarred 274 = .ok (.aload_n 0, 1) := by decide +kernel
theorem dX10_isBarred_275 : decode cX10_isBarred 275 = .ok (.aload_n 2, 1) := by decide +kernel
theorem dX10_isBarred_276 : decode cX10_isBarred 276 = .ok (.iload_n 3, 1) := by decide +kernel
theorem dX10_isBarred_277 : decode cX10_isBarred 277 = .ok (.iload 5, 2) := by decide +kernel
theorem dX10_isBarred_279 : decode cX10_isBarred 279 = .ok (.iconst 2, 1) := by decide +kernel
theorem dX10_isBarred_280 : decode cX10_isBarred 280 = .ok (.idiv, 1) := by decide +kernel
theorem dX10_isBarred_281 : decode cX10_isBarred 281 = .ok (.invokevirtual 136, 3) := by decide +kernel
theorem dX10_isBarred_284 : decode cX10_isBarred 284 = .ok (.ifCond .eq 7, 3) := by decide +kernel
theorem dX10_isBarred_287 : decode cX10_isBarred 287 = .ok (.iconst 1, 1) := by decide +kernel
theorem dX10_isBarred_288 : decode cX10_isBarred 288 = .ok (.goto 4, 3) := by decide +kernel
theorem dX10_isBarred_291 : decode cX10_isBarred 291 = .ok (.iconst 0, 1) := by decide +kernel
theorem dX10_isBarred_292 : decode cX10_isBarred 292 = .ok (.ireturn, 1) := by decide +kernel
theorem dX10_isBarred_293 : decode cX10_isBarred 293 = .ok (.aload_n 0, 1) := by decide +kernel
theorem dX10_isBarred_294 : decode cX10_isBarred 294 = .ok (.aload_n 0, 1) := by decide +kernel
theorem dX10_isBarred_295 : decode cX10_isBarred 295 = .ok (.getfield 38, 3) := by decide +kernel
theorem dX10_isBarred_298 : decode cX10_isBarred 298 = .ok (.bipush 80, 2) := by decide +kernel
theorem dX10_isBarred_300 : decode cX10_isBarred 300 = .ok (.iload_n 1, 1) := by decide +kernel
theorem dX10_isBarred_301 : decode cX10_isBarred 301 = .ok (.imul, 1) := by decide +kernel
theorem dX10_isBarred_302 : decode cX10_isBarred 302 = .ok (.aload_n 0, 1) := by decide +kernel
theorem dX10_isBarred_303 : decode cX10_isBarred 303 = .ok (.getfield 35, 3) := by decide +kernel
theorem dX10_isBarred_306 : decode cX10_isBarred 306 = .ok (.iload_n 1, 1) := by decide +kernel
theorem dX10_isBarred_307 : decode cX10_isBarred 307 = .ok (.iaload, 1) := by decide +kernel
theorem dX10_isBarred_308 : decode cX10_isBarred 308 = .ok (.aload_n 2, 1) := by decide +kernel
theorem dX10_isBarred_309 : decode cX10_isBarred 309 = .ok (.iload_n 3, 1) := by decide +kernel
theorem dX10_isBarred_310 : decode cX10_isBarred 310 = .ok (.iload 4, 2) := by decide +kernel
theorem dX10_isBarred_312 : decode cX10_isBarred 312 = .ok (.invokevirtual 140, 3) := by decide +kernel
theorem dX10_isBarred_315 : decode cX10_isBarred 315 = .ok (.ireturn, 1) := by decide +kernel
theorem dX10_comesOf_0 : decode cX10_comesOf 0 = .ok (.iload 6, 2) := by decide +kernel
theorem dX10_comesOf_2 : decode cX10_comesOf 2 = .ok (.iload 5, 2) := by decide +kernel
theorem dX10_comesOf_4 : decode cX10_comesOf 4 = .ok (.isub, 1) := by decide +kernel
theorem dX10_comesOf_5 : decode cX10_comesOf 5 = .ok (.istore 7, 2) := by decide +kernel
theorem dX10_comesOf_7 : decode cX10_comesOf 7 = .ok (.iconst 1, 1) := by decide +kernel
theorem dX10_comesOf_8 : decode cX10_comesOf 8 = .ok (.istore 8, 2) := by decide +kernel
theorem dX10_comesOf_10 : decode cX10_comesOf 10 = .ok (.iload 8, 2) := by decide +kernel
theorem dX10_comesOf_12 : decode cX10_comesOf 12 = .ok (.iload 7, 2) := by decide +kernel
theorem dX10_comesOf_14 : decode cX10_comesOf 14 = .ok (.if_icmp .gt 122, 3) := by decide +kernel
theorem dX10_comesOf_17 : decode cX10_comesOf 17 = .ok (.iconst 1, 1) := by decide +kernel
theorem dX10_comesOf_18 : decode cX10_comesOf 18 = .ok (.istore 9, 2) := by decide +kernel
theorem dX10_comesOf_20 : decode cX10_comesOf 20 = .ok (.iload 9, 2) := by decide +kernel
theorem dX10_comesOf_22 : decode cX10_comesOf 22 = .ok (.iload 7, 2) := by decide +kernel
theorem dX10_comesOf_24 : decode cX10_comesOf 24 = .ok (.if_icmp .gt 93, 3) := by decide +kernel
theorem dX10_comesOf_27 : decode cX10_comesOf 27 = .ok (.iconst 1, 1) := by decide +kernel
theorem dX10_comesOf_28 : decode cX10_comesOf 28 = .ok (.istore 10, 2) := by decide +kernel
theorem dX10_comesOf_30 : decode cX10_comesOf 30 = .ok (.iload 10, 2) := by decide +kernel
theorem dX10_comesOf_32 : decode cX10_comesOf 32 = .ok (.iload 7, 2) := by decide +kernel
theorem dX10_comesOf_34 : decode cX10_comesOf 34 = .ok (.if_icmp .gt 64, 3) := by decide +kernel
theorem dX10_comesOf_37 : decode cX10_comesOf 37 = .ok (.aload_n 0, 1) := by decide +kernel
theorem dX10_comesOf_38 : decode cX10_comesOf 38 = .ok (.getfield 47, 3) := by decide +kernel
theorem dX10_comesOf_41 : decode cX10_comesOf 41 = .ok (.iconst 0, 1) := by decide +kernel
theorem dX10_comesOf_42 : decode cX10_comesOf 42 = .ok (.iload 8, 2) := by decide +kernel
theorem dX10_comesOf_44 : decode cX10_comesOf 44 = .ok (.iastore, 1) := by decide +kernel
theorem dX10_comesOf_45 : decode cX10_comesOf 45 = .ok (.aload_n 0, 1) := by decide +kernel
theorem dX10_comesOf_46 : decode cX10_comesOf 46 = .ok (.getfield 47, 3) := by decide +kernel
theorem dX10_comesOf_49 : decode cX10_comesOf 49 = .ok (.iconst 1, 1) := by decide +kernel
theorem dX10_comesOf_50 : decode cX10_comesOf 50 = .ok (.iload 9, 2) := by decide +kernel
theorem dX10_comesOf_52 : decode cX10_comesOf 52 = .ok (.iastore, 1) := by decide +kernel
theorem dX10_comesOf_53 : decode cX10_comesOf 53 = .ok (.aload_n 0, 1) := by decide +kernel
theorem dX10_comesOf_54 : decode cX10_comesOf 54 = .ok (.getfield 47, 3) := by decide +kernel
theorem dX10_comesOf_57 : decode cX10_comesOf 57 = .ok (.iconst 2, 1) := by decide +kernel
theorem dX10_comesOf_58 : decode cX10_comesOf 58 = .ok (.iload 10, 2) := by decide +kernel
theorem dX10_comesOf_60 : decode cX10_comesOf 60 = .ok (.iastore, 1) := by decide +kernel
theorem dX10_comesOf_61 : decode cX10_comesOf 61 = .ok (.aload_n 0, 1) := by decide +kernel
theorem dX10_comesOf_62 : decode cX10_comesOf 62 = .ok (.aload_n 1, 1) := by decide +kernel
theorem dX10_comesOf_63 : decode cX10_comesOf 63 = .ok (.iload_n 2, 1) := by decide +kernel
theorem dX10_comesOf_64 : decode cX10_comesOf 64 = .ok (.iload_n 3, 1) := by decide +kernel
theorem dX10_comesOf_65 : decode cX10_comesOf 65 = .ok (.aload 4, 2) := by decide +kernel
theorem dX10_comesOf_67 : decode cX10_comesOf 67 = .ok (.iload 5, 2) := by decide +kernel
theorem dX10_comesOf_69 : decode cX10_comesOf 69 = .ok (.iload 6, 2) := by decide +kernel
theorem dX10_comesOf_71 : decode cX10_comesOf 71 = .ok (.invokevirtual 144, 3) := by decide +kernel
theorem dX10_comesOf_74 : decode cX10_comesOf 74 = .ok (.ifCond .eq 5, 3) := by decide +kernel
theorem dX10_comesOf_77 : decode cX10_comesOf 77 = .ok (.iconst 1, 1) := by decide +kernel
theorem dX10_comesOf_78 : decode cX10_comesOf 78 = .ok (.ireturn, 1) := by decide +kernel
theorem dX10_comesOf_79 : decode cX10_comesOf 79 = .ok (.aload_n 1, 1) := by decide +kernel
theorem dX10_comesOf_80 : decode cX10_comesOf 80 = .ok (.iload_n 2, 1) := by decide +kernel
theorem dX10_comesOf_81 : decode cX10_comesOf 81 = .ok (.iload_n 3, 1) := by decide +kernel
theorem dX10_comesOf_82 : decode cX10_comesOf 82 = .ok (.iconst 2, 1) := by decide +kernel
theorem dX10_comesOf_83 : decode cX10_comesOf 83 = .ok (.invokestatic 147, 3) := by decide +kernel
theorem dX10_comesOf_86 : decode cX10_comesOf 86 = .ok (.ifCond .ne 6, 3) := by decide +kernel
theorem dX10_comesOf_89 : decode cX10_comesOf 89 = .ok (.goto 9, 3) := by decide +kernel
theorem dX10_comesOf_92 : decode cX10_comesOf 92 = .ok (.iinc 10 1, 3) := by decide +kernel
theorem dX10_comesOf_95 : decode cX10_comesOf 95 = .ok (.goto (-65), 3) := by decide +kernel
theorem dX10_comesOf_98 : decode cX10_comesOf 98 = .ok (.aload_n 1, 1) := by decide +kernel
theorem dX10_comesOf_99 : decode cX10_comesOf 99 = .ok (.iload_n 2, 1) := by decide +kernel
theorem dX10_comesOf_100 : decode cX10_comesOf 100 = .ok (.iload_n 3, 1) := by decide +kernel
theorem dX10_comesOf_101 : decode cX10_comesOf 101 = .ok (.iconst 1, 1) := by decide +kernel
theorem dX10_comesOf_102 : decode cX10_comesOf 102 = .ok (.invokestatic 147, 3) := by decide +kernel
theorem dX10_comesOf_105 : decode cX10_comesOf 105 = .ok (.ifCond .ne 6, 3) := by decide +kernel
theorem dX10_comesOf_108 : decode cX10_comesOf 108 = .ok (.goto 9, 3) := by decide +kernel
theorem dX10_comesOf_111 : decode cX10_comesOf 111 = .ok (.iinc 9 1, 3) := by decide +kernel
theorem dX10_comesOf_114 : decode cX10_comesOf 114 = .ok (.goto (-94), 3) := by decide +kernel
theorem dX10_comesOf_117 : decode cX10_comesOf 117 = .ok (.aload_n 1, 1) := by decide +kernel
theorem dX10_comesOf_118 : decode cX10_comesOf 118 = .ok (.iload_n 2, 1) := by decide +kernel
theorem dX10_comesOf_119 : decode cX10_comesOf 119 = .ok (.iload_n 3, 1) := by decide +kernel
theorem dX10_comesOf_120 : decode cX10_comesOf 120 = .ok (.iconst 0, 1) := by decide +kernel
theorem dX10_comesOf_121 : decode cX10_comesOf 121 = .ok (.invokestatic 147, 3) := by decide +kernel
theorem dX10_comesOf_124 : decode cX10_comesOf 124 = .ok (.ifCond .ne 6, 3) := by decide +kernel
theorem dX10_comesOf_127 : decode cX10_comesOf 127 = .ok (.goto 9, 3) := by decide +kernel
theorem dX10_comesOf_130 : decode cX10_comesOf 130 = .ok (.iinc 8 1, 3) := by decide +kernel
theorem dX10_comesOf_133 : decode cX10_comesOf 133 = .ok (.goto (-123), 3) := by decide +kernel
theorem dX10_comesOf_136 : decode cX10_comesOf 136 = .ok (.iconst 0, 1) := by decide +kernel
theorem dX10_comesOf_137 : decode cX10_comesOf 137 = .ok (.ireturn, 1) := by decide +kernel
theorem dX10_has_0 : decode cX10_has 0 = .ok (.iconst 0, 1) := by decide +kernel
theorem dX10_has_1 : decode cX10_has 1 = .ok (.istore 4, 2) := by decide +kernel
theorem dX10_has_3 : decode cX10_has 3 = .ok (.iload 4, 2) := by decide +kernel
theorem dX10_has_5 : decode cX10_has 5 = .ok (.iload_n 2, 1) := by decide +kernel
theorem dX10_has_6 : decode cX10_has 6 = .ok (.if_icmp .ge 21, 3) := by decide +kernel
theorem dX10_has_9 : decode cX10_has 9 = .ok (.aload_n 0, 1) := by decide +kernel
theorem dX10_has_10 : decode cX10_has 10 = .ok (.iload_n 1, 1) := by decide +kernel
theorem dX10_has_11 : decode cX10_has 11 = .ok (.iload 4, 2) := by decide +kernel
theorem dX10_has_13 : decode cX10_has 13 = .ok (.iadd, 1) := by decide +kernel
theorem dX10_has_14 : decode cX10_has 14 = .ok (.iaload, 1) := by decide +kernel
theorem dX10_has_15 : decode cX10_has 15 = .ok (.iload_n 3, 1) := by decide +kernel
theorem dX10_has_16 : decode cX10_has 16 = .ok (.if_icmp .ne 5, 3) := by decide +kernel
theorem dX10_has_19 : decode cX10_has 19 = .ok (.iconst 1, 1) := by decide +kernel
theorem dX10_has_20 : decode cX10_has 20 = .ok (.ireturn, 1) := by decide +kernel
theorem dX10_has_21 : decode cX10_has 21 = .ok (.iinc 4 1, 3) := by decide +kernel
theorem dX10_has_24 : decode cX10_has 24 = .ok (.goto (-21), 3) := by decide +kernel
theorem dX10_has_27 : decode cX10_has 27 = .ok (.iconst 0, 1) := by decide +kernel
theorem dX10_has_28 : decode cX10_has 28 = .ok (.ireturn, 1) := by decide +kernel
theorem dX10_fits_0 : decode cX10_fits 0 = .ok (.iconst 0, 1) := by decide +kernel
theorem dX10_fits_1 : decode cX10_fits 1 = .ok (.istore 7, 2) := by decide +kernel
theorem dX10_fits_3 : decode cX10_fits 3 = .ok (.iconst 0, 1) := by decide +kernel
theorem dX10_fits_4 : decode cX10_fits 4 = .ok (.istore 8, 2) := by decide +kernel
theorem dX10_fits_6 : decode cX10_fits 6 = .ok (.iload 8, 2) := by decide +kernel
theorem dX10_fits_8 : decode cX10_fits 8 = .ok (.iload_n 3, 1) := by decide +kernel
theorem dX10_fits_9 : decode cX10_fits 9 = .ok (.if_icmp .ge 25, 3) := by decide +kernel
theorem dX10_fits_12 : decode cX10_fits 12 = .ok (.iload 7, 2) := by decide +kernel
theorem dX10_fits_14 : decode cX10_fits 14 = .ok (.aload_n 0, 1) := by decide +kernel
theorem dX10_fits_15 : decode cX10_fits 15 = .ok (.getfield 47, 3) := by decide +kernel
theorem dX10_fits_18 : decode cX10_fits 18 = .ok (.aload_n 1, 1) := by decide +kernel
theorem dX10_fits_19 : decode cX10_fits 19 = .ok (.iload_n 2, 1) := by decide +kernel
theorem dX10_fits_20 : decode cX10_fits 20 = .ok (.iload 8, 2) := by decide +kernel
theorem dX10_fits_22 : decode cX10_fits 22 = .ok (.iadd, 1) := by decide +kernel
theorem dX10_fits_23 : decode cX10_fits 23 = .ok (.iaload, 1) := by decide +kernel
theorem dX10_fits_24 : decode cX10_fits 24 = .ok (.iaload, 1) := by decide +kernel
theorem dX10_fits_25 : decode cX10_fits 25 = .ok (.iadd, 1) := by decide +kernel
theorem dX10_fits_26 : decode cX10_fits 26 = .ok (.istore 7, 2) := by decide +kernel
theorem dX10_fits_28 : decode cX10_fits 28 = .ok (.iinc 8 1, 3) := by decide +kernel
theorem dX10_fits_31 : decode cX10_fits 31 = .ok (.goto (-25), 3) := by decide +kernel
theorem dX10_fits_34 : decode cX10_fits 34 = .ok (.iload 7, 2) := by decide +kernel
theorem dX10_fits_36 : decode cX10_fits 36 = .ok (.iload 6, 2) := by decide +kernel
theorem dX10_fits_38 : decode cX10_fits 38 = .ok (.iload 5, 2) := by decide +kernel
theorem dX10_fits_40 : decode cX10_fits 40 = .ok (.isub, 1) := by decide +kernel
theorem dX10_fits_41 : decode cX10_fits 41 = .ok (.if_icmp .eq 5, 3) := by decide +kernel
theorem dX10_fits_44 : decode cX10_fits 44 = .ok (.iconst 0, 1) := by decide +kernel
theorem dX10_fits_45 : decode cX10_fits 45 = .ok (.ireturn, 1) := by decide +kernel
theorem dX10_fits_46 : decode cX10_fits 46 = .ok (.iconst 0, 1) := by decide +kernel
theorem dX10_fits_47 : decode cX10_fits 47 = .ok (.istore 8, 2) := by decide +kernel
theorem dX10_fits_49 : decode cX10_fits 49 = .ok (.iload 8, 2) := by decide +kernel
theorem dX10_fits_51 : decode cX10_fits 51 = .ok (.iconst 3, 1) := by decide +kernel
theorem dX10_fits_52 : decode cX10_fits 52 = .ok (.if_icmp .ge 17, 3) := by decide +kernel
theorem dX10_fits_55 : decode cX10_fits 55 = .ok (.aload_n 0, 1) := by decide +kernel
theorem dX10_fits_56 : decode cX10_fits 56 = .ok (.getfield 44, 3) := by decide +kernel
theorem dX10_fits_59 : decode cX10_fits 59 = .ok (.iload 8, 2) := by decide +kernel
theorem dX10_fits_61 : decode cX10_fits 61 = .ok (.iconst (-1), 1) := by decide +kernel
theorem dX10_fits_62 : decode cX10_fits 62 = .ok (.iastore, 1) := by decide +kernel
theorem dX10_fits_63 : decode cX10_fits 63 = .ok (.iinc 8 1, 3) := by decide +kernel
theorem dX10_fits_66 : decode cX10_fits 66 = .ok (.goto (-17), 3) := by decide +kernel
theorem dX10_fits_69 : decode cX10_fits 69 = .ok (.iload 5, 2) := by decide +kernel
theorem dX10_fits_71 : decode cX10_fits 71 = .ok (.istore 8, 2) := by decide +kernel
theorem dX10_fits_73 : decode cX10_fits 73 = .ok (.iconst 0, 1) := by decide +kernel
theorem dX10_fits_74 : decode cX10_fits 74 = .ok (.istore 9, 2) := by decide +kernel
theorem dX10_fits_76 : decode cX10_fits 76 = .ok (.iload 9, 2) := by decide +kernel
theorem dX10_fits_78 : decode cX10_fits 78 = .ok (.iload_n 3, 1) := by decide +kernel
theorem dX10_fits_79 : decode cX10_fits 79 = .ok (.if_icmp .ge 96, 3) := by decide +kernel
theorem dX10_fits_82 : decode cX10_fits 82 = .ok (.aload_n 1, 1) := by decide +kernel
theorem dX10_fits_83 : decode cX10_fits 83 = .ok (.iload_n 2, 1) := by decide +kernel
theorem dX10_fits_84 : decode cX10_fits 84 = .ok (.iload 9, 2) := by decide +kernel
theorem dX10_fits_86 : decode cX10_fits 86 = .ok (.iadd, 1) := by decide +kernel
theorem dX10_fits_87 : decode cX10_fits 87 = .ok (.iaload, 1) := by decide +kernel
theorem dX10_fits_88 : decode cX10_fits 88 = .ok (.istore 10, 2) := by decide +kernel
theorem dX10_fits_90 : decode cX10_fits 90 = .ok (.aload_n 0, 1) := by decide +kernel
theorem dX10_fits_91 : decode cX10_fits 91 = .ok (.getfield 44, 3) := by decide +kernel
theorem dX10_fits_94 : decode cX10_fits 94 = .ok (.iload 10, 2) := by decide +kernel
theorem dX10_fits_96 : decode cX10_fits 96 = .ok (.iaload, 1) := by decide +kernel
theorem dX10_fits_97 : decode cX10_fits 97 = .ok (.iconst (-1), 1) := by decide +kernel
theorem dX10_fits_98 : decode cX10_fits 98 = .ok (.if_icmp .ne 12, 3) := by decide +kernel
theorem dX10_fits_101 : decode cX10_fits 101 = .ok (.aload_n 0, 1) := by decide +kernel
theorem dX10_fits_102 : decode cX10_fits 102 = .ok (.getfield 44, 3) := by decide +kernel
theorem dX10_fits_105 : decode cX10_fits 105 = .ok (.iload 10, 2) := by decide +kernel
theorem dX10_fits_107 : decode cX10_fits 107 = .ok (.iload 8, 2) := by decide +kernel
theorem dX10_fits_109 : decode cX10_fits 109 = .ok (.iastore, 1) := by decide +kernel
theorem dX10_fits_110 : decode cX10_fits 110 = .ok (.iconst 0, 1) := by decide +kernel
theorem dX10_fits_111 : decode cX10_fits 111 = .ok (.istore 11, 2) := by decide +kernel
theorem dX10_fits_113 : decode cX10_fits 113 = .ok (.iload 11, 2) := by decide +kernel
theorem dX10_fits_115 : decode cX10_fits 115 = .ok (.aload_n 0, 1) := by decide +kernel
theorem dX10_fits_116 : decode cX10_fits 116 = .ok (.getfield 47, 3) := by decide +kernel
theorem dX10_fits_119 : decode cX10_fits 119 = .ok (.iload 10, 2) := by decide +kernel
theorem dX10_fits_121 : decode cX10_fits 121 = .ok (.iaload, 1) := by decide +kernel
theorem dX10_fits_122 : decode cX10_fits 122 = .ok (.if_icmp .ge 35, 3) := by decide +kernel
theorem dX10_fits_125 : decode cX10_fits 125 = .ok (.aload 4, 2) := by decide +kernel
theorem dX10_fits_127 : decode cX10_fits 127 = .ok (.aload_n 0, 1) := by decide +kernel
theorem dX10_fits_128 : decode cX10_fits 128 = .ok (.getfield 44, 3) := by decide +kernel
theorem dX10_fits_131 : decode cX10_fits 131 = .ok (.iload 10, 2) := by decide +kernel
theorem dX10_fits_133 : decode cX10_fits 133 = .ok (.iaload, 1) := by decide +kernel
theorem dX10_fits_134 : decode cX10_fits 134 = .ok (.iload 11, 2) := by decide +kernel
theorem dX10_fits_136 : decode cX10_fits 136 = .ok (.iadd, 1) := by decide +kernel
theorem dX10_fits_137 : decode cX10_fits 137 = .ok (.iaload, 1) := by decide +kernel
theorem dX10_fits_138 : decode cX10_fits 138 = .ok (.aload 4, 2) := by decide +kernel
theorem dX10_fits_140 : decode cX10_fits 140 = .ok (.iload 8, 2) := by decide +kernel
theorem dX10_fits_142 : decode cX10_fits 142 = .ok (.iload 11, 2) := by decide +kernel
theorem dX10_fits_144 : decode cX10_fits 144 = .ok (.iadd, 1) := by decide +kernel
theorem dX10_fits_145 : decode cX10_fits 145 = .ok (.iaload, 1) := by decide +kernel
theorem dX10_fits_146 : decode cX10_fits 146 = .ok (.if_icmp .eq 5, 3) := by decide +kernel
theorem dX10_fits_149 : decode cX10_fits 149 = .ok (.iconst 0, 1) := by decide +kernel
theorem dX10_fits_150 : decode cX10_fits 150 = .ok (.ireturn, 1) := by decide +kernel
theorem dX10_fits_151 : decode cX10_fits 151 = .ok (.iinc 11 1, 3) := by decide +kernel
theorem dX10_fits_154 : decode cX10_fits 154 = .ok (.goto (-41), 3) := by decide +kernel
theorem dX10_fits_157 : decode cX10_fits 157 = .ok (.iload 8, 2) := by decide +kernel
theorem dX10_fits_159 : decode cX10_fits 159 = .ok (.aload_n 0, 1) := by decide +kernel
theorem dX10_fits_160 : decode cX10_fits 160 = .ok (.getfield 47, 3) := by decide +kernel
theorem dX10_fits_163 : decode cX10_fits 163 = .ok (.iload 10, 2) := by decide +kernel
theorem dX10_fits_165 : decode cX10_fits 165 = .ok (.iaload, 1) := by decide +kernel
theorem dX10_fits_166 : decode cX10_fits 166 = .ok (.iadd, 1) := by decide +kernel
theorem dX10_fits_167 : decode cX10_fits 167 = .ok (.istore 8, 2) := by decide +kernel
theorem dX10_fits_169 : decode cX10_fits 169 = .ok (.iinc 9 1, 3) := by decide +kernel
theorem dX10_fits_172 : decode cX10_fits 172 = .ok (.goto (-96), 3) := by decide +kernel
theorem dX10_fits_175 : decode cX10_fits 175 = .ok (.iconst 1, 1) := by decide +kernel
theorem dX10_fits_176 : decode cX10_fits 176 = .ok (.ireturn, 1) := by decide +kernel
theorem dX10_isIn_0 : decode cX10_isIn 0 = .ok (.iload_n 0, 1) := by decide +kernel
theorem dX10_isIn_1 : decode cX10_isIn 1 = .ok (.iload_n 1, 1) := by decide +kernel
theorem dX10_isIn_2 : decode cX10_isIn 2 = .ok (.ishr, 1) := by decide +kernel
theorem dX10_isIn_3 : decode cX10_isIn 3 = .ok (.iconst 1, 1) := by decide +kernel
theorem dX10_isIn_4 : decode cX10_isIn 4 = .ok (.iand, 1) := by decide +kernel
theorem dX10_isIn_5 : decode cX10_isIn 5 = .ok (.iconst 1, 1) := by decide +kernel
theorem dX10_isIn_6 : decode cX10_isIn 6 = .ok (.if_icmp .ne 7, 3) := by decide +kernel
theorem dX10_isIn_9 : decode cX10_isIn 9 = .ok (.iconst 1, 1) := by decide +kernel
theorem dX10_isIn_10 : decode cX10_isIn 10 = .ok (.goto 4, 3) := by decide +kernel
theorem dX10_isIn_13 : decode cX10_isIn 13 = .ok (.iconst 0, 1) := by decide +kernel
theorem dX10_isIn_14 : decode cX10_isIn 14 = .ok (.ireturn, 1) := by decide +kernel
theorem dX10_keepsLast_0 : decode cX10_keepsLast 0 = .ok (.iconst 0, 1) := by decide +kernel
theorem dX10_keepsLast_1 : decode cX10_keepsLast 1 = .ok (.istore 4, 2) := by decide +kernel
theorem dX10_keepsLast_3 : decode cX10_keepsLast 3 = .ok (.iload 4, 2) := by decide +kernel
theorem dX10_keepsLast_5 : decode cX10_keepsLast 5 = .ok (.aload_n 0, 1) := by decide +kernel
theorem dX10_keepsLast_6 : decode cX10_keepsLast 6 = .ok (.getfield 122, 3) := by decide +kernel
theorem dX10_keepsLast_9 : decode cX10_keepsLast 9 = .ok (.if_icmp .ge 48, 3) := by decide +kernel
theorem dX10_keepsLast_12 : decode cX10_keepsLast 12 = .ok (.iload_n 1, 1) := by decide +kernel
theorem dX10_keepsLast_13 : decode cX10_keepsLast 13 = .ok (.iload 4, 2) := by decide +kernel
theorem dX10_keepsLast_15 : decode cX10_keepsLast 15 = .ok (.invokestatic 150, 3) := by decide +kernel
theorem dX10_keepsLast_18 : decode cX10_keepsLast 18 = .ok (.ifCond .eq 33, 3) := by decide +kernel
theorem dX10_keepsLast_21 : decode cX10_keepsLast 21 = .ok (.iconst 0, 1) := by decide +kernel
theorem dX10_keepsLast_22 : decode cX10_keepsLast 22 = .ok (.istore 5, 2) := by decide +kernel
theorem dX10_keepsLast_24 : decode cX10_keepsLast 24 = .ok (.iload 5, 2) := by decide +kernel
theorem dX10_keepsLast_26 : decode cX10_keepsLast 26 = .ok (.iload_n 3, 1) := by decide +kernel
theorem dX10_keepsLast_27 : decode cX10_keepsLast 27 = .ok (.if_icmp .ge 24, 3) := by decide +kernel
theorem dX10_keepsLast_30 : decode cX10_keepsLast 30 = .ok (.aload_n 0, 1) := by decide +kernel
theorem dX10_keepsLast_31 : decode cX10_keepsLast 31 = .ok (.iload 4, 2) := by decide +kernel
theorem dX10_keepsLast_33 : decode cX10_keepsLast 33 = .ok (.aload_n 2, 1) := by decide +kernel
theorem dX10_keepsLast_34 : decode cX10_keepsLast 34 = .ok (.iload 5, 2) := by decide +kernel
theorem dX10_keepsLast_36 : decode cX10_keepsLast 36 = .ok (.iload_n 3, 1) := by decide +kernel
theorem dX10_keepsLast_37 : decode cX10_keepsLast 37 = .ok (.invokevirtual 153, 3) := by decide +kernel
theorem dX10_keepsLast_40 : decode cX10_keepsLast 40 = .ok (.ifCond .eq 5, 3) := by decide +kernel
theorem dX10_keepsLast_43 : decode cX10_keepsLast 43 = .ok (.iconst 0, 1) := by decide +kernel
theorem dX10_keepsLast_44 : decode cX10_keepsLast 44 = .ok (.ireturn, 1) := by decide +kernel
theorem dX10_keepsLast_45 : decode cX10_keepsLast 45 = .ok (.iinc 5 1, 3) := by decide +kernel
theorem dX10_keepsLast_48 : decode cX10_keepsLast 48 = .ok (.goto (-24), 3) := by decide +kernel
theorem dX10_keepsLast_51 : decode cX10_keepsLast 51 = .ok (.iinc 4 1, 3) := by decide +kernel
theorem dX10_keepsLast_54 : decode cX10_keepsLast 54 = .ok (.goto (-51), 3) := by decide +kernel
theorem dX10_keepsLast_57 : decode cX10_keepsLast 57 = .ok (.iconst 1, 1) := by decide +kernel
theorem dX10_keepsLast_58 : decode cX10_keepsLast 58 = .ok (.ireturn, 1) := by decide +kernel
theorem dX10_isSet_0 : decode cX10_isSet 0 = .ok (.iload_n 1, 1) := by decide +kernel
theorem dX10_isSet_1 : decode cX10_isSet 1 = .ok (.ifCond .lt 16, 3) := by decide +kernel
theorem dX10_isSet_4 : decode cX10_isSet 4 = .ok (.iload_n 1, 1) := by decide +kernel
theorem dX10_isSet_5 : decode cX10_isSet 5 = .ok (.aload_n 0, 1) := by decide +kernel
theorem dX10_isSet_6 : decode cX10_isSet 6 = .ok (.getfield 122, 3) := by decide +kernel
theorem dX10_isSet_9 : decode cX10_isSet 9 = .ok (.ishr, 1) := by decide +kernel
theorem dX10_isSet_10 : decode cX10_isSet 10 = .ok (.ifCond .ne 7, 3) := by decide +kernel
theorem dX10_isSet_13 : decode cX10_isSet 13 = .ok (.iconst 1, 1) := by decide +kernel
theorem dX10_isSet_14 : decode cX10_isSet 14 = .ok (.goto 4, 3) := by decide +kernel
theorem dX10_isSet_17 : decode cX10_isSet 17 = .ok (.iconst 0, 1) := by decide +kernel
theorem dX10_isSet_18 : decode cX10_isSet 18 = .ok (.ireturn, 1) := by decide +kernel
theorem dX10_power_0 : decode cX10_power 0 = .ok (.aload_n 0, 1) := by decide +kernel
theorem dX10_power_1 : decode cX10_power 1 = .ok (.iconst 0, 1) := by decide +kernel
theorem dX10_power_2 : decode cX10_power 2 = .ok (.putfield 1, 3) := by decide +kernel
theorem dX10_power_5 : decode cX10_power 5 = .ok (.aload_n 0, 1) := by decide +kernel
theorem dX10_power_6 : decode cX10_power 6 = .ok (.iload_n 1, 1) := by decide +kernel
theorem dX10_power_7 : decode cX10_power 7 = .ok (.iload_n 2, 1) := by decide +kernel
theorem dX10_power_8 : decode cX10_power 8 = .ok (.iconst 1, 1) := by decide +kernel
theorem dX10_power_9 : decode cX10_power 9 = .ok (.invokevirtual 111, 3) := by decide +kernel
theorem dX10_power_12 : decode cX10_power 12 = .ok (.ifCond .eq 25, 3) := by decide +kernel
theorem dX10_power_15 : decode cX10_power 15 = .ok (.aload_n 0, 1) := by decide +kernel
theorem dX10_power_16 : decode cX10_power 16 = .ok (.iload_n 3, 1) := by decide +kernel
theorem dX10_power_17 : decode cX10_power 17 = .ok (.ifCond .lt 12, 3) := by decide +kernel
theorem dX10_power_20 : decode cX10_power 20 = .ok (.iload_n 3, 1) := by decide +kernel
theorem dX10_power_21 : decode cX10_power 21 = .ok (.iconst 3, 1) := by decide +kernel
theorem dX10_power_22 : decode cX10_power 22 = .ok (.if_icmp .gt 7, 3) := by decide +kernel
theorem dX10_power_25 : decode cX10_power 25 = .ok (.iconst 1, 1) := by decide +kernel
theorem dX10_power_26 : decode cX10_power 26 = .ok (.goto 4, 3) := by decide +kernel
theorem dX10_power_29 : decode cX10_power 29 = .ok (.iconst 0, 1) := by decide +kernel
theorem dX10_power_30 : decode cX10_power 30 = .ok (.iconst 2, 1) := by decide +kernel
theorem dX10_power_31 : decode cX10_power 31 = .ok (.invokevirtual 100, 3) := by decide +kernel
theorem dX10_power_34 : decode cX10_power 34 = .ok (.ifCond .ne 5, 3) := by decide +kernel
theorem dX10_power_37 : decode cX10_power 37 = .ok (.iconst 0, 1) := by decide +kernel
theorem dX10_power_38 : decode cX10_power 38 = .ok (.ireturn, 1) := by decide +kernel
theorem dX10_power_39 : decode cX10_power 39 = .ok (.aload_n 0, 1) := by decide +kernel
theorem dX10_power_40 : decode cX10_power 40 = .ok (.iload_n 1, 1) := by decide +kernel
theorem dX10_power_41 : decode cX10_power 41 = .ok (.iload_n 2, 1) := by decide +kernel
theorem dX10_power_42 : decode cX10_power 42 = .ok (.invokevirtual 118, 3) := by decide +kernel
theorem dX10_power_45 : decode cX10_power 45 = .ok (.ifCond .ne 5, 3) := by decide +kernel
theorem dX10_power_48 : decode cX10_power 48 = .ok (.iconst (-1), 1) := by decide +kernel
theorem dX10_power_49 : decode cX10_power 49 = .ok (.ireturn, 1) := by decide +kernel
theorem dX10_power_50 : decode cX10_power 50 = .ok (.aload_n 0, 1) := by decide +kernel
theorem dX10_power_51 : decode cX10_power 51 = .ok (.getfield 115, 3) := by decide +kernel
theorem dX10_power_54 : decode cX10_power 54 = .ok (.ifCond .ne 5, 3) := by decide +kernel
theorem dX10_power_57 : decode cX10_power 57 = .ok (.iconst 0, 1) := by decide +kernel
theorem dX10_power_58 : decode cX10_power 58 = .ok (.ireturn, 1) := by decide +kernel
theorem dX10_power_59 : decode cX10_power 59 = .ok (.aload_n 0, 1) := by decide +kernel
theorem dX10_power_60 : decode cX10_power 60 = .ok (.getfield 23, 3) := by decide +kernel
theorem dX10_power_63 : decode cX10_power 63 = .ok (.iconst 0, 1) := by decide +kernel
theorem dX10_power_64 : decode cX10_power 64 = .ok (.aload_n 0, 1) := by decide +kernel
theorem dX10_power_65 : decode cX10_power 65 = .ok (.getfield 115, 3) := by decide +kernel
theorem dX10_power_68 : decode cX10_power 68 = .ok (.invokestatic 132, 3) := by decide +kernel
theorem dX10_power_71 : decode cX10_power 71 = .ok (.istore 4, 2) := by decide +kernel
theorem dX10_power_73 : decode cX10_power 73 = .ok (.aload_n 0, 1) := by decide +kernel
theorem dX10_power_74 : decode cX10_power 74 = .ok (.getfield 115, 3) := by decide +kernel
theorem dX10_power_77 : decode cX10_power 77 = .ok (.iload 4, 2) := by decide +kernel
theorem dX10_power_79 : decode cX10_power 79 = .ok (.invokestatic 157, 3) := by decide +kernel
theorem dX10_power_82 : decode cX10_power 82 = .ok (.istore 5, 2) := by decide +kernel
theorem dX10_power_84 : decode cX10_power 84 = .ok (.iload_n 3, 1) := by decide +kernel
theorem dX10_power_85 : decode cX10_power 85 = .ok (.iconst 3, 1) := by decide +kernel
theorem dX10_power_86 : decode cX10_power 86 = .ok (.if_icmp .ne 12, 3) := by decide +kernel
theorem dX10_power_89 : decode cX10_power 89 = .ok (.aload_n 0, 1) := by decide +kernel
theorem dX10_power_90 : decode cX10_power 90 = .ok (.invokevirtual 161, 3) := by decide +kernel
theorem dX10_power_93 : decode cX10_power 93 = .ok (.aload_n 0, 1) := by decide +kernel
theorem dX10_power_94 : decode cX10_power 94 = .ok (.getfield 164, 3) := by decide +kernel
theorem dX10_power_97 : decode cX10_power 97 = .ok (.ireturn, 1) := by decide +kernel
theorem dX10_power_98 : decode cX10_power 98 = .ok (.iload_n 3, 1) := by decide +kernel
theorem dX10_power_99 : decode cX10_power 99 = .ok (.ifCond .ne 8, 3) := by decide +kernel
theorem dX10_power_102 : decode cX10_power 102 = .ok (.iload 4, 2) := by decide +kernel
theorem dX10_power_104 : decode cX10_power 104 = .ok (.goto 23, 3) := by decide +kernel
theorem dX10_power_107 : decode cX10_power 107 = .ok (.iload_n 3, 1) := by decide +kernel
theorem dX10_power_108 : decode cX10_power 108 = .ok (.iconst 1, 1) := by decide +kernel
theorem dX10_power_109 : decode cX10_power 109 = .ok (.if_icmp .ne 13, 3) := by decide +kernel
theorem dX10_power_112 : decode cX10_power 112 = .ok (.aload_n 0, 1) := by decide +kernel
theorem dX10_power_113 : decode cX10_power 113 = .ok (.getfield 115, 3) := by decide +kernel
theorem dX10_power_116 : decode cX10_power 116 = .ok (.iload 5, 2) := by decide +kernel
theorem dX10_power_118 : decode cX10_power 118 = .ok (.idiv, 1) := by decide +kernel
theorem dX10_power_119 : decode cX10_power 119 = .ok (.goto 8, 3) := by decide +kernel
theorem dX10_power_122 : decode cX10_power 122 = .ok (.iload 4, 2) := by decide +kernel
theorem dX10_power_124 : decode cX10_power 124 = .ok (.iload 5, 2) := by decide +kernel
theorem dX10_power_126 : decode cX10_power 126 = .ok (.idiv, 1) := by decide +kernel
theorem dX10_power_127 : decode cX10_power 127 = .ok (.ireturn, 1) := by decide +kernel
theorem dX10_gcd_0 : decode cX10_gcd 0 = .ok (.iload_n 0, 1) := by decide +kernel
theorem dX10_gcd_1 : decode cX10_gcd 1 = .ok (.istore_n 2, 1) := by decide +kernel
theorem dX10_gcd_2 : decode cX10_gcd 2 = .ok (.iload_n 1, 1) := by decide +kernel
theorem dX10_gcd_3 : decode cX10_gcd 3 = .ok (.istore_n 3, 1) := by decide +kernel
theorem dX10_gcd_4 : decode cX10_gcd 4 = .ok (.iload_n 3, 1) := by decide +kernel
theorem dX10_gcd_5 : decode cX10_gcd 5 = .ok (.ifCond .eq 16, 3) := by decide +kernel
theorem dX10_gcd_8 : decode cX10_gcd 8 = .ok (.iload_n 2, 1) := by decide +kernel
theorem dX10_gcd_9 : decode cX10_gcd 9 = .ok (.iload_n 3, 1) := by decide +kernel
theorem dX10_gcd_10 : decode cX10_gcd 10 = .ok (.irem, 1) := by decide +kernel
theorem dX10_gcd_11 : decode cX10_gcd 11 = .ok (.istore 4, 2) := by decide +kernel
theorem dX10_gcd_13 : decode cX10_gcd 13 = .ok (.iload_n 3, 1) := by decide +kernel
theorem dX10_gcd_14 : decode cX10_gcd 14 = .ok (.istore_n 2, 1) := by decide +kernel
theorem dX10_gcd_15 : decode cX10_gcd 15 = .ok (.iload 4, 2) := by decide +kernel
theorem dX10_gcd_17 : decode cX10_gcd 17 = .ok (.istore_n 3, 1) := by decide +kernel
theorem dX10_gcd_18 : decode cX10_gcd 18 = .ok (.goto (-14), 3) := by decide +kernel
theorem dX10_gcd_21 : decode cX10_gcd 21 = .ok (.iload_n 2, 1) := by decide +kernel
theorem dX10_gcd_22 : decode cX10_gcd 22 = .ok (.ireturn, 1) := by decide +kernel
theorem dX10_findRuns_0 : decode cX10_findRuns 0 = .ok (.aload_n 0, 1) := by decide +kernel
theorem dX10_findRuns_1 : decode cX10_findRuns 1 = .ok (.iconst 0, 1) := by decide +kernel
theorem dX10_findRuns_2 : decode cX10_findRuns 2 = .ok (.putfield 164, 3) := by decide +kernel
theorem dX10_findRuns_5 : decode cX10_findRuns 5 = .ok (.iconst 0, 1) := by decide +kernel
theorem dX10_findRuns_6 : decode cX10_findRuns 6 = .ok (.istore_n 1, 1) := by decide +kernel
theorem dX10_findRuns_7 : decode cX10_findRuns 7 = .ok (.iload_n 1, 1) := by decide +kernel
theorem dX10_findRuns_8 : decode cX10_findRuns 8 = .ok (.aload_n 0, 1) := by decide +kernel
theorem dX10_findRuns_9 : decode cX10_findRuns 9 = .ok (.getfield 115, 3) := by decide +kernel
theorem dX10_findRuns_12 : decode cX10_findRuns 12 = .ok (.if_icmp .ge 166, 3) := by decide +kernel
theorem dX10_findRuns_15 : decode cX10_findRuns 15 = .ok (.iconst 1, 1) := by decide +kernel
theorem dX10_findRuns_16 : decode cX10_findRuns 16 = .ok (.istore_n 2, 1) := by decide +kernel
theorem dX10_findRuns_17 : decode cX10_findRuns 17 = .ok (.iload_n 1, 1) := by decide +kernel
theorem dX10_findRuns_18 : decode cX10_findRuns 18 = .ok (.iconst 2, 1) := by decide +kernel
theorem dX10_findRuns_19 : decode cX10_findRuns 19 = .ok (.iload_n 2, 1) := by decide +kernel
theorem dX10_findRuns_20 : decode cX10_findRuns 20 = .ok (.imul, 1) := by decide +kernel
theorem dX10_findRuns_21 : decode cX10_findRuns 21 = .ok (.iadd, 1) := by decide +kernel
theorem dX10_findRuns_22 : decode cX10_findRuns 22 = .ok (.aload_n 0, 1) := by decide +kernel
theorem dX10_findRuns_23 : decode cX10_findRuns 23 = .ok (.getfield 115, 3) := by decide +kernel
theorem dX10_findRuns_26 : decode cX10_findRuns 26 = .ok (.if_icmp .gt 146, 3) := by decide +kernel
theorem dX10_findRuns_29 : decode cX10_findRuns 29 = .ok (.iload_n 1, 1) := by decide +kernel
theorem dX10_findRuns_30 : decode cX10_findRuns 30 = .ok (.iload_n 2, 1) := by decide +kernel
theorem dX10_findRuns_31 : decode cX10_findRuns 31 = .ok (.iadd, 1) := by decide +kernel
theorem dX10_findRuns_32 : decode cX10_findRuns 32 = .ok (.istore_n 3, 1) := by decide +kernel
theorem dX10_findRuns_33 : decode cX10_findRuns 33 = .ok (.iload_n 3, 1) := by decide +kernel
theorem dX10_findRuns_34 : decode cX10_findRuns 34 = .ok (.aload_n 0, 1) := by decide +kernel
theorem dX10_findRuns_35 : decode cX10_findRuns 35 = .ok (.getfield 115, 3) := by decide +kernel
theorem dX10_findRuns_38 : decode cX10_findRuns 38 = .ok (.if_icmp .ge 26, 3) := by decide +kernel
theorem dX10_findRuns_41 : decode cX10_findRuns 41 = .ok (.aload_n 0, 1) := by decide +kernel
theorem dX10_findRuns_42 : decode cX10_findRuns 42 = .ok (.getfield 23, 3) := by decide +kernel
theorem dX10_findRuns_45 : decode cX10_findRuns 45 = .ok (.iload_n 3, 1) := by decide +kernel
theorem dX10_findRuns_46 : decode cX10_findRuns 46 = .ok (.iaload, 1) := by decide +kernel
theorem dX10_findRuns_47 : decode cX10_findRuns 47 = .ok (.aload_n 0, 1) := by decide +kernel
theorem dX10_findRuns_48 : decode cX10_findRuns 48 = .ok (.getfield 23, 3) := by decide +kernel
theorem dX10_findRuns_51 : decode cX10_findRuns 51 = .ok (.iload_n 3, 1) := by decide +kernel
theorem dX10_findRuns_52 : decode cX10_findRuns 52 = .ok (.iload_n 2, 1) := by decide +kernel
theorem dX10_findRuns_53 : decode cX10_findRuns 53 = .ok (.isub, 1) := by decide +kernel
theorem dX10_findRuns_54 : decode cX10_findRuns 54 = .ok (.iaload, 1) := by decide +kernel
theorem dX10_findRuns_55 : decode cX10_findRuns 55 = .ok (.if_icmp .ne 9, 3) := by decide +kernel
theorem dX10_findRuns_58 : decode cX10_findRuns 58 = .ok (.iinc 3 1, 3) := by decide +kernel
theorem dX10_findRuns_61 : decode cX10_findRuns 61 = .ok (.goto (-28), 3) := by decide +kernel
theorem dX10_findRuns_64 : decode cX10_findRuns 64 = .ok (.iload_n 3, 1) := by decide +kernel
theorem dX10_findRuns_65 : decode cX10_findRuns 65 = .ok (.iload_n 1, 1) := by decide +kernel
theorem dX10_findRuns_66 : decode cX10_findRuns 66 = .ok (.isub, 1) := by decide +kernel
theorem dX10_findRuns_67 : decode cX10_findRuns 67 = .ok (.iconst 2, 1) := by decide +kernel
theorem dX10_findRuns_68 : decode cX10_findRuns 68 = .ok (.iload_n 2, 1) := by decide +kernel
theorem dX10_findRuns_69 : decode cX10_findRuns 69 = .ok (.imul, 1) := by decide +kernel
theorem dX10_findRuns_70 : decode cX10_findRuns 70 = .ok (.if_icmp .lt 45, 3) := by decide +kernel
theorem dX10_findRuns_73 : decode cX10_findRuns 73 = .ok (.iload_n 1, 1) := by decide +kernel
theorem dX10_findRuns_74 : decode cX10_findRuns 74 = .ok (.ifCond .eq 24, 3) := by decide +kernel
theorem dX10_findRuns_77 : decode cX10_findRuns 77 = .ok (.aload_n 0, 1) := by decide +kernel
theorem dX10_findRuns_78 : decode cX10_findRuns 78 = .ok (.getfield 23, 3) := by decide +kernel
theorem dX10_findRuns_81 : decode cX10_findRuns 81 = .ok (.iload_n 1, 1) := by decide +kernel
theorem dX10_findRuns_82 : decode cX10_findRuns 82 = .ok (.iconst 1, 1) := by decide +kernel
theorem dX10_findRuns_83 : decode cX10_findRuns 83 = .ok (.isub, 1) := by decide +kernel
theorem dX10_findRuns_84 : decode cX10_findRuns 84 = .ok (.iaload, 1) := by decide +kernel
theorem dX10_findRuns_85 : decode cX10_findRuns 85 = .ok (.aload_n 0, 1) := by decide +kernel
theorem dX10_findRuns_86 : decode cX10_findRuns 86 = .ok (.getfield 23, 3) := by decide +kernel
theorem dX10_findRuns_89 : decode cX10_findRuns 89 = .ok (.iload_n 1, 1) := by decide +kernel
theorem dX10_findRuns_90 : decode cX10_findRuns 90 = .ok (.iconst 1, 1) := by decide +kernel
theorem dX10_findRuns_91 : decode cX10_findRuns 91 = .ok (.isub, 1) := by decide +kernel
theorem dX10_findRuns_92 : decode cX10_findRuns 92 = .ok (.iload_n 2, 1) := by decide +kernel
theorem dX10_findRuns_93 : decode cX10_findRuns 93 = .ok (.iadd, 1) := by decide +kernel
theorem dX10_findRuns_94 : decode cX10_findRuns 94 = .ok (.iaload, 1) := by decide +kernel
theorem dX10_findRuns_95 : decode cX10_findRuns 95 = .ok (.if_icmp .eq 20, 3) := by decide +kernel
theorem dX10_findRuns_98 : decode cX10_findRuns 98 = .ok (.aload_n 0, 1) := by decide +kernel
theorem dX10_findRuns_99 : decode cX10_findRuns 99 = .ok (.getfield 23, 3) := by decide +kernel
theorem dX10_findRuns_102 : decode cX10_findRuns 102 = .ok (.iload_n 1, 1) := by decide +kernel
theorem dX10_findRuns_103 : decode cX10_findRuns 103 = .ok (.iload_n 3, 1) := by decide +kernel
theorem dX10_findRuns_104 : decode cX10_findRuns 104 = .ok (.invokestatic 132, 3) := by decide +kernel
theorem dX10_findRuns_107 : decode cX10_findRuns 107 = .ok (.iload_n 2, 1) := by decide +kernel
theorem dX10_findRuns_108 : decode cX10_findRuns 108 = .ok (.if_icmp .ne 7, 3) := by decide +kernel
theorem dX10_findRuns_111 : decode cX10_findRuns 111 = .ok (.iconst 1, 1) := by decide +kernel
theorem dX10_findRuns_112 : decode cX10_findRuns 112 = .ok (.goto 4, 3) := by decide +kernel
theorem dX10_findRuns_115 : decode cX10_findRuns 115 = .ok (.iconst 0, 1) := by decide +kernel
theorem dX10_findRuns_116 : decode cX10_findRuns 116 = .ok (.istore 4, 2) := by decide +kernel
theorem dX10_findRuns_118 : decode cX10_findRuns 118 = .ok (.iload 4, 2) := by decide +kernel
theorem dX10_findRuns_120 : decode cX10_findRuns 120 = .ok (.ifCond .ne 6, 3) := by decide +kernel
theorem dX10_findRuns_123 : decode cX10_findRuns 123 = .ok (.goto 43, 3) := by decide +kernel
theorem dX10_findRuns_126 : decode cX10_findRuns 126 = .ok (.aload_n 0, 1) := by decide +kernel
theorem dX10_findRuns_127 : decode cX10_findRuns 127 = .ok (.getfield 50, 3) := by decide +kernel
theorem dX10_findRuns_130 : decode cX10_findRuns 130 = .ok (.aload_n 0, 1) := by decide +kernel
theorem dX10_findRuns_131 : decode cX10_findRuns 131 = .ok (.getfield 164, 3) := by decide +kernel
theorem dX10_findRuns_134 : decode cX10_findRuns 134 = .ok (.iload_n 1, 1) := by decide +kernel
theorem dX10_findRuns_135 : decode cX10_findRuns 135 = .ok (.iastore, 1) := by decide +kernel
theorem dX10_findRuns_136 : decode cX10_findRuns 136 = .ok (.aload_n 0, 1) := by decide +kernel
theorem dX10_findRuns_137 : decode cX10_findRuns 137 = .ok (.getfield 53, 3) := by decide +kernel
theorem dX10_findRuns_140 : decode cX10_findRuns 140 = .ok (.aload_n 0, 1) := by decide +kernel
theorem dX10_findRuns_141 : decode cX10_findRuns 141 = .ok (.getfield 164, 3) := by decide +kernel
theorem dX10_findRuns_144 : decode cX10_findRuns 144 = .ok (.iload_n 3, 1) := by decide +kernel
theorem dX10_findRuns_145 : decode cX10_findRuns 145 = .ok (.iastore, 1) := by decide +kernel
theorem dX10_findRuns_146 : decode cX10_findRuns 146 = .ok (.aload_n 0, 1) := by decide +kernel
theorem dX10_findRuns_147 : decode cX10_findRuns 147 = .ok (.getfield 56, 3) := by decide +kernel
theorem dX10_findRuns_150 : decode cX10_findRuns 150 = .ok (.aload_n 0, 1) := by decide +kernel
theorem dX10_findRuns_151 : decode cX10_findRuns 151 = .ok (.getfield 164, 3) := by decide +kernel
theorem dX10_findRuns_154 : decode cX10_findRuns 154 = .ok (.iload_n 2, 1) := by decide +kernel
theorem dX10_findRuns_155 : decode cX10_findRuns 155 = .ok (.iastore, 1) := by decide +kernel
theorem dX10_findRuns_156 : decode cX10_findRuns 156 = .ok (.aload_n 0, 1) := by decide +kernel
theorem dX10_findRuns_157 : decode cX10_findRuns 157 = .ok (.dup, 1) := by decide +kernel
theorem dX10_findRuns_158 : decode cX10_findRuns 158 = .ok (.getfield 164, 3) := by decide +kernel
theorem dX10_findRuns_161 : decode cX10_findRuns 161 = .ok (.iconst 1, 1) := by decide +kernel
theorem dX10_findRuns_162 : decode cX10_findRuns 162 = .ok (.iadd, 1) := by decide +kernel
theorem dX10_findRuns_163 : decode cX10_findRuns 163 = .ok (.putfield 164, 3) := by decide +kernel
theorem dX10_findRuns_166 : decode cX10_findRuns 166 = .ok (.iinc 2 1, 3) := by decide +kernel
theorem dX10_findRuns_169 : decode cX10_findRuns 169 = .ok (.goto (-152), 3) := by decide +kernel
theorem dX10_findRuns_172 : decode cX10_findRuns 172 = .ok (.iinc 1 1, 3) := by decide +kernel
theorem dX10_findRuns_175 : decode cX10_findRuns 175 = .ok (.goto (-168), 3) := by decide +kernel
theorem dX10_findRuns_178 : decode cX10_findRuns 178 = .ok (.return_, 1) := by decide +kernel
theorem dX10_run_0 : decode cX10_run 0 = .ok (.aload_n 0, 1) := by decide +kernel
theorem dX10_run_1 : decode cX10_run 1 = .ok (.iconst 0, 1) := by decide +kernel
theorem dX10_run_2 : decode cX10_run 2 = .ok (.putfield 1, 3) := by decide +kernel
theorem dX10_run_5 : decode cX10_run 5 = .ok (.aload_n 0, 1) := by decide +kernel
theorem dX10_run_6 : decode cX10_run 6 = .ok (.iload_n 1, 1) := by decide +kernel
theorem dX10_run_7 : decode cX10_run 7 = .ok (.iload_n 2, 1) := by decide +kernel
theorem dX10_run_8 : decode cX10_run 8 = .ok (.iconst 1, 1) := by decide +kernel
theorem dX10_run_9 : decode cX10_run 9 = .ok (.invokevirtual 111, 3) := by decide +kernel
theorem dX10_run_12 : decode cX10_run 12 = .ok (.ifCond .eq 27, 3) := by decide +kernel
theorem dX10_run_15 : decode cX10_run 15 = .ok (.aload_n 0, 1) := by decide +kernel
theorem dX10_run_16 : decode cX10_run 16 = .ok (.iload 4, 2) := by decide +kernel
theorem dX10_run_18 : decode cX10_run 18 = .ok (.ifCond .lt 13, 3) := by decide +kernel
theorem dX10_run_21 : decode cX10_run 21 = .ok (.iload 4, 2) := by decide +kernel
theorem dX10_run_23 : decode cX10_run 23 = .ok (.iconst 2, 1) := by decide +kernel
theorem dX10_run_24 : decode cX10_run 24 = .ok (.if_icmp .gt 7, 3) := by decide +kernel
theorem dX10_run_27 : decode cX10_run 27 = .ok (.iconst 1, 1) := by decide +kernel
theorem dX10_run_28 : decode cX10_run 28 = .ok (.goto 4, 3) := by decide +kernel
theorem dX10_run_31 : decode cX10_run 31 = .ok (.iconst 0, 1) := by decide +kernel
theorem dX10_run_32 : decode cX10_run 32 = .ok (.iconst 2, 1) := by decide +kernel
theorem dX10_run_33 : decode cX10_run 33 = .ok (.invokevirtual 100, 3) := by decide +kernel
theorem dX10_run_36 : decode cX10_run 36 = .ok (.ifCond .ne 5, 3) := by decide +kernel
theorem dX10_run_39 : decode cX10_run 39 = .ok (.iconst 0, 1) := by decide +kernel
theorem dX10_run_40 : decode cX10_run 40 = .ok (.ireturn, 1) := by decide +kernel
theorem dX10_run_41 : decode cX10_run 41 = .ok (.aload_n 0, 1) := by decide +kernel
theorem dX10_run_42 : decode cX10_run 42 = .ok (.iload_n 1, 1) := by decide +kernel
theorem dX10_run_43 : decode cX10_run 43 = .ok (.iload_n 2, 1) := by decide +kernel
theorem dX10_run_44 : decode cX10_run 44 = .ok (.invokevirtual 118, 3) := by decide +kernel
theorem dX10_run_47 : decode cX10_run 47 = .ok (.ifCond .ne 5, 3) := by decide +kernel
theorem dX10_run_50 : decode cX10_run 50 = .ok (.iconst (-1), 1) := by decide +kernel
theorem dX10_run_51 : decode cX10_run 51 = .ok (.ireturn, 1) := by decide +kernel
theorem dX10_run_52 : decode cX10_run 52 = .ok (.aload_n 0, 1) := by decide +kernel
theorem dX10_run_53 : decode cX10_run 53 = .ok (.invokevirtual 161, 3) := by decide +kernel
theorem dX10_run_56 : decode cX10_run 56 = .ok (.iload_n 3, 1) := by decide +kernel
theorem dX10_run_57 : decode cX10_run 57 = .ok (.ifCond .lt 11, 3) := by decide +kernel
theorem dX10_run_60 : decode cX10_run 60 = .ok (.iload_n 3, 1) := by decide +kernel
theorem dX10_run_61 : decode cX10_run 61 = .ok (.aload_n 0, 1) := by decide +kernel
theorem dX10_run_62 : decode cX10_run 62 = .ok (.getfield 164, 3) := by decide +kernel
theorem dX10_run_65 : decode cX10_run 65 = .ok (.if_icmp .lt 5, 3) := by decide +kernel
theorem dX10_run_68 : decode cX10_run 68 = .ok (.iconst (-1), 1) := by decide +kernel
theorem dX10_run_69 : decode cX10_run 69 = .ok (.ireturn, 1) := by decide +kernel
theorem dX10_run_70 : decode cX10_run 70 = .ok (.iload 4, 2) := by decide +kernel
theorem dX10_run_72 : decode cX10_run 72 = .ok (.ifCond .ne 12, 3) := by decide +kernel
theorem dX10_run_75 : decode cX10_run 75 = .ok (.aload_n 0, 1) := by decide +kernel
theorem dX10_run_76 : decode cX10_run 76 = .ok (.getfield 50, 3) := by decide +kernel
theorem dX10_run_79 : decode cX10_run 79 = .ok (.iload_n 3, 1) := by decide +kernel
theorem dX10_run_80 : decode cX10_run 80 = .ok (.iaload, 1) := by decide +kernel
theorem dX10_run_81 : decode cX10_run 81 = .ok (.goto 24, 3) := by decide +kernel
theorem dX10_run_84 : decode cX10_run 84 = .ok (.iload 4, 2) := by decide +kernel
theorem dX10_run_86 : decode cX10_run 86 = .ok (.iconst 1, 1) := by decide +kernel
theorem dX10_run_87 : decode cX10_run 87 = .ok (.if_icmp .ne 12, 3) := by decide +kernel
theorem dX10_run_90 : decode cX10_run 90 = .ok (.aload_n 0, 1) := by decide +kernel
theorem dX10_run_91 : decode cX10_run 91 = .ok (.getfield 53, 3) := by decide +kernel
theorem dX10_run_94 : decode cX10_run 94 = .ok (.iload_n 3, 1) := by decide +kernel
theorem dX10_run_95 : decode cX10_run 95 = .ok (.iaload, 1) := by decide +kernel
theorem dX10_run_96 : decode cX10_run 96 = .ok (.goto 9, 3) := by decide +kernel
theorem dX10_run_99 : decode cX10_run 99 = .ok (.aload_n 0, 1) := by decide +kernel
theorem dX10_run_100 : decode cX10_run 100 = .ok (.getfield 56, 3) := by decide +kernel
theorem dX10_run_103 : decode cX10_run 103 = .ok (.iload_n 3, 1) := by decide +kernel
theorem dX10_run_104 : decode cX10_run 104 = .ok (.iaload, 1) := by decide +kernel
theorem dX10_run_105 : decode cX10_run 105 = .ok (.ireturn, 1) := by decide +kernel
theorem dX10_findClash_0 : decode cX10_findClash 0 = .ok (.aload_n 0, 1) := by decide +kernel
theorem dX10_findClash_1 : decode cX10_findClash 1 = .ok (.iconst (-1), 1) := by decide +kernel
theorem dX10_findClash_2 : decode cX10_findClash 2 = .ok (.putfield 167, 3) := by decide +kernel
theorem dX10_findClash_5 : decode cX10_findClash 5 = .ok (.iconst 1, 1) := by decide +kernel
theorem dX10_findClash_6 : decode cX10_findClash 6 = .ok (.istore 4, 2) := by decide +kernel
theorem dX10_findClash_8 : decode cX10_findClash 8 = .ok (.iload 4, 2) := by decide +kernel
theorem dX10_findClash_10 : decode cX10_findClash 10 = .ok (.iload_n 3, 1) := by decide +kernel
theorem dX10_findClash_11 : decode cX10_findClash 11 = .ok (.if_icmp .gt 115, 3) := by decide +kernel
theorem dX10_findClash_14 : decode cX10_findClash 14 = .ok (.aload_n 0, 1) := by decide +kernel
theorem dX10_findClash_15 : decode cX10_findClash 15 = .ok (.getfield 167, 3) := by decide +kernel
theorem dX10_findClash_18 : decode cX10_findClash 18 = .ok (.iconst (-1), 1) := by decide +kernel
theorem dX10_findClash_19 : decode cX10_findClash 19 = .ok (.if_icmp .ne 107, 3) := by decide +kernel
theorem dX10_findClash_22 : decode cX10_findClash 22 = .ok (.iconst 0, 1) := by decide +kernel
theorem dX10_findClash_23 : decode cX10_findClash 23 = .ok (.istore 5, 2) := by decide +kernel
theorem dX10_findClash_25 : decode cX10_findClash 25 = .ok (.iload 5, 2) := by decide +kernel
theorem dX10_findClash_27 : decode cX10_findClash 27 = .ok (.aload_n 0, 1) := by decide +kernel
theorem dX10_findClash_28 : decode cX10_findClash 28 = .ok (.getfield 122, 3) := by decide +kernel
theorem dX10_findClash_31 : decode cX10_findClash 31 = .ok (.if_icmp .ge 89, 3) := by decide +kernel
theorem dX10_findClash_34 : decode cX10_findClash 34 = .ok (.aload_n 0, 1) := by decide +kernel
theorem dX10_findClash_35 : decode cX10_findClash 35 = .ok (.getfield 167, 3) := by decide +kernel
theorem dX10_findClash_38 : decode cX10_findClash 38 = .ok (.iconst (-1), 1) := by decide +kernel
theorem dX10_findClash_39 : decode cX10_findClash 39 = .ok (.if_icmp .ne 81, 3) := by decide +kernel
theorem dX10_findClash_42 : decode cX10_findClash 42 = .ok (.iload 4, 2) := by decide +kernel
theorem dX10_findClash_44 : decode cX10_findClash 44 = .ok (.iconst 1, 1) := by decide +kernel
theorem dX10_findClash_45 : decode cX10_findClash 45 = .ok (.isub, 1) := by decide +kernel
theorem dX10_findClash_46 : decode cX10_findClash 46 = .ok (.istore 6, 2) := by decide +kernel
theorem dX10_findClash_48 : decode cX10_findClash 48 = .ok (.iload_n 1, 1) := by decide +kernel
theorem dX10_findClash_49 : decode cX10_findClash 49 = .ok (.iload 5, 2) := by decide +kernel
theorem dX10_findClash_51 : decode cX10_findClash 51 = .ok (.invokestatic 150, 3) := by decide +kernel
theorem dX10_findClash_54 : decode cX10_findClash 54 = .ok (.ifCond .eq 60, 3) := by decide +kernel
theorem dX10_findClash_57 : decode cX10_findClash 57 = .ok (.iload 6, 2) := by decide +kernel
theorem dX10_findClash_59 : decode cX10_findClash 59 = .ok (.ifCond .lt 55, 3) := by decide +kernel
theorem dX10_findClash_62 : decode cX10_findClash 62 = .ok (.aload_n 0, 1) := by decide +kernel
theorem dX10_findClash_63 : decode cX10_findClash 63 = .ok (.getfield 167, 3) := by decide +kernel
theorem dX10_findClash_66 : decode cX10_findClash 66 = .ok (.iconst (-1), 1) := by decide +kernel
theorem dX10_findClash_67 : decode cX10_findClash 67 = .ok (.if_icmp .ne 47, 3) := by decide +kernel
theorem dX10_findClash_70 : decode cX10_findClash 70 = .ok (.aload_n 0, 1) := by decide +kernel
theorem dX10_findClash_71 : decode cX10_findClash 71 = .ok (.iload 5, 2) := by decide +kernel
theorem dX10_findClash_73 : decode cX10_findClash 73 = .ok (.aload_n 2, 1) := by decide +kernel
theorem dX10_findClash_74 : decode cX10_findClash 74 = .ok (.iload 6, 2) := by decide +kernel
theorem dX10_findClash_76 : decode cX10_findClash 76 = .ok (.iload 4, 2) := by decide +kernel
theorem dX10_findClash_78 : decode cX10_findClash 78 = .ok (.invokevirtual 153, 3) := by decide +kernel
theorem dX10_findClash_81 : decode cX10_findClash 81 = .ok (.ifCond .ne 6, 3) := by decide +kernel
theorem dX10_findClash_84 : decode cX10_findClash 84 = .ok (.goto 24, 3) := by decide +kernel
theorem dX10_findClash_87 : decode cX10_findClash 87 = .ok (.aload_n 0, 1) := by decide +kernel
theorem dX10_findClash_88 : decode cX10_findClash 88 = .ok (.iload 4, 2) := by decide +kernel
theorem dX10_findClash_90 : decode cX10_findClash 90 = .ok (.putfield 167, 3) := by decide +kernel
theorem dX10_findClash_93 : decode cX10_findClash 93 = .ok (.aload_n 0, 1) := by decide +kernel
theorem dX10_findClash_94 : decode cX10_findClash 94 = .ok (.iload 5, 2) := by decide +kernel
theorem dX10_findClash_96 : decode cX10_findClash 96 = .ok (.putfield 170, 3) := by decide +kernel
theorem dX10_findClash_99 : decode cX10_findClash 99 = .ok (.aload_n 0, 1) := by decide +kernel
theorem dX10_findClash_100 : decode cX10_findClash 100 = .ok (.iload 4, 2) := by decide +kernel
theorem dX10_findClash_102 : decode cX10_findClash 102 = .ok (.iload 6, 2) := by decide +kernel
theorem dX10_findClash_104 : decode cX10_findClash 104 = .ok (.isub, 1) := by decide +kernel
theorem dX10_findClash_105 : decode cX10_findClash 105 = .ok (.putfield 173, 3) := by decide +kernel
theorem dX10_findClash_108 : decode cX10_findClash 108 = .ok (.iinc 6 (-1), 3) := by decide +kernel
theorem dX10_findClash_111 : decode cX10_findClash 111 = .ok (.goto (-63), 3) := by decide +kernel
theorem dX10_findClash_114 : decode cX10_findClash 114 = .ok (.iinc 5 1, 3) := by decide +kernel
theorem dX10_findClash_117 : decode cX10_findClash 117 = .ok (.goto (-92), 3) := by decide +kernel
theorem dX10_findClash_120 : decode cX10_findClash 120 = .ok (.iinc 4 1, 3) := by decide +kernel
theorem dX10_findClash_123 : decode cX10_findClash 123 = .ok (.goto (-115), 3) := by decide +kernel
theorem dX10_findClash_126 : decode cX10_findClash 126 = .ok (.return_, 1) := by decide +kernel
theorem dX10_clash_0 : decode cX10_clash 0 = .ok (.aload_n 0, 1) := by decide +kernel
theorem dX10_clash_1 : decode cX10_clash 1 = .ok (.iconst 0, 1) := by decide +kernel
theorem dX10_clash_2 : decode cX10_clash 2 = .ok (.putfield 1, 3) := by decide +kernel
theorem dX10_clash_5 : decode cX10_clash 5 = .ok (.aload_n 0, 1) := by decide +kernel
theorem dX10_clash_6 : decode cX10_clash 6 = .ok (.iload_n 2, 1) := by decide +kernel
theorem dX10_clash_7 : decode cX10_clash 7 = .ok (.iload_n 3, 1) := by decide +kernel
theorem dX10_clash_8 : decode cX10_clash 8 = .ok (.iconst 1, 1) := by decide +kernel
theorem dX10_clash_9 : decode cX10_clash 9 = .ok (.invokevirtual 111, 3) := by decide +kernel
theorem dX10_clash_12 : decode cX10_clash 12 = .ok (.ifCond .eq 35, 3) := by decide +kernel
theorem dX10_clash_15 : decode cX10_clash 15 = .ok (.aload_n 0, 1) := by decide +kernel
theorem dX10_clash_16 : decode cX10_clash 16 = .ok (.aload_n 0, 1) := by decide +kernel
theorem dX10_clash_17 : decode cX10_clash 17 = .ok (.iload_n 1, 1) := by decide +kernel
theorem dX10_clash_18 : decode cX10_clash 18 = .ok (.invokevirtual 176, 3) := by decide +kernel
theorem dX10_clash_21 : decode cX10_clash 21 = .ok (.ifCond .eq 18, 3) := by decide +kernel
theorem dX10_clash_24 : decode cX10_clash 24 = .ok (.iload 4, 2) := by decide +kernel
theorem dX10_clash_26 : decode cX10_clash 26 = .ok (.ifCond .lt 13, 3) := by decide +kernel
theorem dX10_clash_29 : decode cX10_clash 29 = .ok (.iload 4, 2) := by decide +kernel
theorem dX10_clash_31 : decode cX10_clash 31 = .ok (.iconst 3, 1) := by decide +kernel
theorem dX10_clash_32 : decode cX10_clash 32 = .ok (.if_icmp .gt 7, 3) := by decide +kernel
theorem dX10_clash_35 : decode cX10_clash 35 = .ok (.iconst 1, 1) := by decide +kernel
theorem dX10_clash_36 : decode cX10_clash 36 = .ok (.goto 4, 3) := by decide +kernel
theorem dX10_clash_39 : decode cX10_clash 39 = .ok (.iconst 0, 1) := by decide +kernel
theorem dX10_clash_40 : decode cX10_clash 40 = .ok (.iconst 2, 1) := by decide +kernel
theorem dX10_clash_41 : decode cX10_clash 41 = .ok (.invokevirtual 100, 3) := by decide +kernel
theorem dX10_clash_44 : decode cX10_clash 44 = .ok (.ifCond .ne 5, 3) := by decide +kernel
theorem dX10_clash_47 : decode cX10_clash 47 = .ok (.iconst 0, 1) := by decide +kernel
theorem dX10_clash_48 : decode cX10_clash 48 = .ok (.ireturn, 1) := by decide +kernel
theorem dX10_clash_49 : decode cX10_clash 49 = .ok (.aload_n 0, 1) := by decide +kernel
theorem dX10_clash_50 : decode cX10_clash 50 = .ok (.iload_n 2, 1) := by decide +kernel
theorem dX10_clash_51 : decode cX10_clash 51 = .ok (.iload_n 3, 1) := by decide +kernel
theorem dX10_clash_52 : decode cX10_clash 52 = .ok (.invokevirtual 118, 3) := by decide +kernel
theorem dX10_clash_55 : decode cX10_clash 55 = .ok (.ifCond .ne 6, 3) := by decide +kernel
theorem dX10_clash_58 : decode cX10_clash 58 = .ok (.bipush (-2), 2) := by decide +kernel
theorem dX10_clash_60 : decode cX10_clash 60 = .ok (.ireturn, 1) := by decide +kernel
theorem dX10_clash_61 : decode cX10_clash 61 = .ok (.aload_n 0, 1) := by decide +kernel
theorem dX10_clash_62 : decode cX10_clash 62 = .ok (.iload_n 1, 1) := by decide +kernel
theorem dX10_clash_63 : decode cX10_clash 63 = .ok (.aload_n 0, 1) := by decide +kernel
theorem dX10_clash_64 : decode cX10_clash 64 = .ok (.getfield 23, 3) := by decide +kernel
theorem dX10_clash_67 : decode cX10_clash 67 = .ok (.aload_n 0, 1) := by decide +kernel
theorem dX10_clash_68 : decode cX10_clash 68 = .ok (.getfield 115, 3) := by decide +kernel
theorem dX10_clash_71 : decode cX10_clash 71 = .ok (.invokevirtual 179, 3) := by decide +kernel
theorem dX10_clash_74 : decode cX10_clash 74 = .ok (.iload 4, 2) := by decide +kernel
theorem dX10_clash_76 : decode cX10_clash 76 = .ok (.ifCond .ne 17, 3) := by decide +kernel
theorem dX10_clash_79 : decode cX10_clash 79 = .ok (.aload_n 0, 1) := by decide +kernel
theorem dX10_clash_80 : decode cX10_clash 80 = .ok (.getfield 167, 3) := by decide +kernel
theorem dX10_clash_83 : decode cX10_clash 83 = .ok (.iconst (-1), 1) := by decide +kernel
theorem dX10_clash_84 : decode cX10_clash 84 = .ok (.if_icmp .ne 7, 3) := by decide +kernel
theorem dX10_clash_87 : decode cX10_clash 87 = .ok (.iconst 1, 1) := by decide +kernel
theorem dX10_clash_88 : decode cX10_clash 88 = .ok (.goto 4, 3) := by decide +kernel
theorem dX10_clash_91 : decode cX10_clash 91 = .ok (.iconst 0, 1) := by decide +kernel
theorem dX10_clash_92 : decode cX10_clash 92 = .ok (.ireturn, 1) := by decide +kernel
theorem dX10_clash_93 : decode cX10_clash 93 = .ok (.aload_n 0, 1) := by decide +kernel
theorem dX10_clash_94 : decode cX10_clash 94 = .ok (.getfield 167, 3) := by decide +kernel
theorem dX10_clash_97 : decode cX10_clash 97 = .ok (.iconst (-1), 1) := by decide +kernel
theorem dX10_clash_98 : decode cX10_clash 98 = .ok (.if_icmp .ne 5, 3) := by decide +kernel
theorem dX10_clash_101 : decode cX10_clash 101 = .ok (.iconst (-1), 1) := by decide +kernel
theorem dX10_clash_102 : decode cX10_clash 102 = .ok (.ireturn, 1) := by decide +kernel
theorem dX10_clash_103 : decode cX10_clash 103 = .ok (.iload 4, 2) := by decide +kernel
theorem dX10_clash_105 : decode cX10_clash 105 = .ok (.iconst 1, 1) := by decide +kernel
theorem dX10_clash_106 : decode cX10_clash 106 = .ok (.if_icmp .ne 10, 3) := by decide +kernel
theorem dX10_clash_109 : decode cX10_clash 109 = .ok (.aload_n 0, 1) := by decide +kernel
theorem dX10_clash_110 : decode cX10_clash 110 = .ok (.getfield 167, 3) := by decide +kernel
theorem dX10_clash_113 : decode cX10_clash 113 = .ok (.goto 20, 3) := by decide +kernel
