theorem dX7_in_0 : decode cX7_in 0 = .ok (.iload_n 0, 1) := by decide +kernel
theorem dX7_in_1 : decode cX7_in 1 = .ok (.iload_n 1, 1) := by decide +kernel
theorem dX7_in_2 : decode cX7_in 2 = .ok (.if_icmp .lt 12, 3) := by decide +kernel
theorem dX7_in_5 : decode cX7_in 5 = .ok (.iload_n 0, 1) := by decide +kernel
theorem dX7_in_6 : decode cX7_in 6 = .ok (.iload_n 2, 1) := by decide +kernel
theorem dX7_in_7 : decode cX7_in 7 = .ok (.if_icmp .gt 7, 3) := by decide +kernel
theorem dX7_in_10 : decode cX7_in 10 = .ok (.iconst 1, 1) := by decide +kernel
theorem dX7_in_11 : decode cX7_in 11 = .ok (.goto 4, 3) := by decide +kernel
theorem dX7_in_14 : decode cX7_in 14 = .ok (.iconst 0, 1) := by decide +kernel
theorem dX7_in_15 : decode cX7_in 15 = .ok (.ireturn, 1) := by decide +kernel
theorem dX7_has_0 : decode cX7_has 0 = .ok (.iload_n 0, 1) := by decide +kernel
theorem dX7_has_1 : decode cX7_has 1 = .ok (.iload_n 1, 1) := by decide +kernel
theorem dX7_has_2 : decode cX7_has 2 = .ok (.ishr, 1) := by decide +kernel
theorem dX7_has_3 : decode cX7_has 3 = .ok (.iconst 1, 1) := by decide +kernel
theorem dX7_has_4 : decode cX7_has 4 = .ok (.iand, 1) := by decide +kernel
theorem dX7_has_5 : decode cX7_has 5 = .ok (.iconst 1, 1) := by decide +kernel
theorem dX7_has_6 : decode cX7_has 6 = .ok (.if_icmp .ne 7, 3) := by decide +kernel
theorem dX7_has_9 : decode cX7_has 9 = .ok (.iconst 1, 1) := by decide +kernel
theorem dX7_has_10 : decode cX7_has 10 = .ok (.goto 4, 3) := by decide +kernel
theorem dX7_has_13 : decode cX7_has 13 = .ok (.iconst 0, 1) := by decide +kernel
theorem dX7_has_14 : decode cX7_has 14 = .ok (.ireturn, 1) := by decide +kernel
theorem dX7_bits_0 : decode cX7_bits 0 = .ok (.iconst 0, 1) := by decide +kernel
theorem dX7_bits_1 : decode cX7_bits 1 = .ok (.istore_n 1, 1) := by decide +kernel
theorem dX7_bits_2 : decode cX7_bits 2 = .ok (.iconst 0, 1) := by decide +kernel
theorem dX7_bits_3 : decode cX7_bits 3 = .ok (.istore_n 2, 1) := by decide +kernel
theorem dX7_bits_4 : decode cX7_bits 4 = .ok (.iload_n 2, 1) := by decide +kernel
theorem dX7_bits_5 : decode cX7_bits 5 = .ok (.bipush 6, 2) := by decide +kernel
theorem dX7_bits_7 : decode cX7_bits 7 = .ok (.if_icmp .ge 17, 3) := by decide +kernel
theorem dX7_bits_10 : decode cX7_bits 10 = .ok (.iload_n 1, 1) := by decide +kernel
theorem dX7_bits_11 : decode cX7_bits 11 = .ok (.iload_n 0, 1) := by decide +kernel
theorem dX7_bits_12 : decode cX7_bits 12 = .ok (.iload_n 2, 1) := by decide +kernel
theorem dX7_bits_13 : decode cX7_bits 13 = .ok (.ishr, 1) := by decide +kernel
theorem dX7_bits_14 : decode cX7_bits 14 = .ok (.iconst 1, 1) := by decide +kernel
theorem dX7_bits_15 : decode cX7_bits 15 = .ok (.iand, 1) := by decide +kernel
theorem dX7_bits_16 : decode cX7_bits 16 = .ok (.iadd, 1) := by decide +kernel
theorem dX7_bits_17 : decode cX7_bits 17 = .ok (.istore_n 1, 1) := by decide +kernel
theorem dX7_bits_18 : decode cX7_bits 18 = .ok (.iinc 2 1, 3) := by decide +kernel
theorem dX7_bits_21 : decode cX7_bits 21 = .ok (.goto (-17), 3) := by decide +kernel
theorem dX7_bits_24 : decode cX7_bits 24 = .ok (.iload_n 1, 1) := by decide +kernel
theorem dX7_bits_25 : decode cX7_bits 25 = .ok (.ireturn, 1) := by decide +kernel
theorem dX7_lesser_0 : decode cX7_lesser 0 = .ok (.iload_n 0, 1) := by decide +kernel
theorem dX7_lesser_1 : decode cX7_lesser 1 = .ok (.iload_n 1, 1) := by decide +kernel
theorem dX7_lesser_2 : decode cX7_lesser 2 = .ok (.if_icmp .ge 7, 3) := by decide +kernel
theorem dX7_lesser_5 : decode cX7_lesser 5 = .ok (.iload_n 0, 1) := by decide +kernel
theorem dX7_lesser_6 : decode cX7_lesser 6 = .ok (.goto 4, 3) := by decide +kernel
theorem dX7_lesser_9 : decode cX7_lesser 9 = .ok (.iload_n 1, 1) := by decide +kernel
theorem dX7_lesser_10 : decode cX7_lesser 10 = .ok (.ireturn, 1) := by decide +kernel
theorem dX7_init_0 : decode cX7_init 0 = .ok (.aload_n 0, 1) := by decide +kernel
theorem dX7_init_1 : decode cX7_init 1 = .ok (.invokespecial 3, 3) := by decide +kernel
theorem dX7_init_4 : decode cX7_init 4 = .ok (.aload_n 0, 1) := by decide +kernel
theorem dX7_init_5 : decode cX7_init 5 = .ok (.bipush 6, 2) := by decide +kernel
theorem dX7_init_7 : decode cX7_init 7 = .ok (.newarray .int, 2) := by decide +kernel
theorem dX7_init_9 : decode cX7_init 9 = .ok (.putfield 9, 3) := by decide +kernel
theorem dX7_init_12 : decode cX7_init 12 = .ok (.aload_n 0, 1) := by decide +kernel
theorem dX7_init_13 : decode cX7_init 13 = .ok (.bipush 6, 2) := by decide +kernel
theorem dX7_init_15 : decode cX7_init 15 = .ok (.newarray .int, 2) := by decide +kernel
theorem dX7_init_17 : decode cX7_init 17 = .ok (.putfield 13, 3) := by decide +kernel
theorem dX7_init_20 : decode cX7_init 20 = .ok (.aload_n 0, 1) := by decide +kernel
theorem dX7_init_21 : decode cX7_init 21 = .ok (.bipush 6, 2) := by decide +kernel
theorem dX7_init_23 : decode cX7_init 23 = .ok (.newarray .int, 2) := by decide +kernel
theorem dX7_init_25 : decode cX7_init 25 = .ok (.putfield 16, 3) := by decide +kernel
theorem dX7_init_28 : decode cX7_init 28 = .ok (.aload_n 0, 1) := by decide +kernel
theorem dX7_init_29 : decode cX7_init 29 = .ok (.bipush 6, 2) := by decide +kernel
theorem dX7_init_31 : decode cX7_init 31 = .ok (.newarray .int, 2) := by decide +kernel
theorem dX7_init_33 : decode cX7_init 33 = .ok (.putfield 19, 3) := by decide +kernel
theorem dX7_init_36 : decode cX7_init 36 = .ok (.aload_n 0, 1) := by decide +kernel
theorem dX7_init_37 : decode cX7_init 37 = .ok (.bipush 6, 2) := by decide +kernel
theorem dX7_init_39 : decode cX7_init 39 = .ok (.newarray .int, 2) := by decide +kernel
theorem dX7_init_41 : decode cX7_init 41 = .ok (.putfield 22, 3) := by decide +kernel
theorem dX7_init_44 : decode cX7_init 44 = .ok (.aload_n 0, 1) := by decide +kernel
theorem dX7_init_45 : decode cX7_init 45 = .ok (.bipush 6, 2) := by decide +kernel
theorem dX7_init_47 : decode cX7_init 47 = .ok (.newarray .int, 2) := by decide +kernel
theorem dX7_init_49 : decode cX7_init 49 = .ok (.putfield 25, 3) := by decide +kernel
theorem dX7_init_52 : decode cX7_init 52 = .ok (.aload_n 0, 1) := by decide +kernel
theorem dX7_init_53 : decode cX7_init 53 = .ok (.bipush 6, 2) := by decide +kernel
theorem dX7_init_55 : decode cX7_init 55 = .ok (.newarray .int, 2) := by decide +kernel
theorem dX7_init_57 : decode cX7_init 57 = .ok (.putfield 28, 3) := by decide +kernel
theorem dX7_init_60 : decode cX7_init 60 = .ok (.aload_n 0, 1) := by decide +kernel
theorem dX7_init_61 : decode cX7_init 61 = .ok (.bipush 6, 2) := by decide +kernel
theorem dX7_init_63 : decode cX7_init 63 = .ok (.newarray .int, 2) := by decide +kernel
theorem dX7_init_65 : decode cX7_init 65 = .ok (.putfield 31, 3) := by decide +kernel
theorem dX7_init_68 : decode cX7_init 68 = .ok (.aload_n 0, 1) := by decide +kernel
theorem dX7_init_69 : decode cX7_init 69 = .ok (.bipush 6, 2) := by decide +kernel
theorem dX7_init_71 : decode cX7_init 71 = .ok (.newarray .int, 2) := by decide +kernel
theorem dX7_init_73 : decode cX7_init 73 = .ok (.putfield 34, 3) := by decide +kernel
theorem dX7_init_76 : decode cX7_init 76 = .ok (.aload_n 0, 1) := by decide +kernel
theorem dX7_init_77 : decode cX7_init 77 = .ok (.bipush 6, 2) := by decide +kernel
theorem dX7_init_79 : decode cX7_init 79 = .ok (.newarray .int, 2) := by decide +kernel
theorem dX7_init_81 : decode cX7_init 81 = .ok (.putfield 37, 3) := by decide +kernel
theorem dX7_init_84 : decode cX7_init 84 = .ok (.aload_n 0, 1) := by decide +kernel
theorem dX7_init_85 : decode cX7_init 85 = .ok (.bipush 6, 2) := by decide +kernel
theorem dX7_init_87 : decode cX7_init 87 = .ok (.newarray .int, 2) := by decide +kernel
theorem dX7_init_89 : decode cX7_init 89 = .ok (.putfield 40, 3) := by decide +kernel
theorem dX7_init_92 : decode cX7_init 92 = .ok (.aload_n 0, 1) := by decide +kernel
theorem dX7_init_93 : decode cX7_init 93 = .ok (.bipush 6, 2) := by decide +kernel
theorem dX7_init_95 : decode cX7_init 95 = .ok (.newarray .int, 2) := by decide +kernel
theorem dX7_init_97 : decode cX7_init 97 = .ok (.putfield 43, 3) := by decide +kernel
theorem dX7_init_100 : decode cX7_init 100 = .ok (.aload_n 0, 1) := by decide +kernel
theorem dX7_init_101 : decode cX7_init 101 = .ok (.bipush 6, 2) := by decide +kernel
theorem dX7_init_103 : decode cX7_init 103 = .ok (.newarray .int, 2) := by decide +kernel
theorem dX7_init_105 : decode cX7_init 105 = .ok (.putfield 46, 3) := by decide +kernel
theorem dX7_init_108 : decode cX7_init 108 = .ok (.aload_n 0, 1) := by decide +kernel
theorem dX7_init_109 : decode cX7_init 109 = .ok (.bipush 6, 2) := by decide +kernel
theorem dX7_init_111 : decode cX7_init 111 = .ok (.newarray .int, 2) := by decide +kernel
theorem dX7_init_113 : decode cX7_init 113 = .ok (.putfield 49, 3) := by decide +kernel
theorem dX7_init_116 : decode cX7_init 116 = .ok (.aload_n 0, 1) := by decide +kernel
theorem dX7_init_117 : decode cX7_init 117 = .ok (.bipush 6, 2) := by decide +kernel
theorem dX7_init_119 : decode cX7_init 119 = .ok (.newarray .int, 2) := by decide +kernel
theorem dX7_init_121 : decode cX7_init 121 = .ok (.putfield 52, 3) := by decide +kernel
theorem dX7_init_124 : decode cX7_init 124 = .ok (.aload_n 0, 1) := by decide +kernel
theorem dX7_init_125 : decode cX7_init 125 = .ok (.sipush 200, 3) := by decide +kernel
theorem dX7_init_128 : decode cX7_init 128 = .ok (.newarray .int, 2) := by decide +kernel
theorem dX7_init_130 : decode cX7_init 130 = .ok (.putfield 55, 3) := by decide +kernel
theorem dX7_init_133 : decode cX7_init 133 = .ok (.aload_n 0, 1) := by decide +kernel
theorem dX7_init_134 : decode cX7_init 134 = .ok (.bipush 24, 2) := by decide +kernel
theorem dX7_init_136 : decode cX7_init 136 = .ok (.newarray .int, 2) := by decide +kernel
theorem dX7_init_138 : decode cX7_init 138 = .ok (.putfield 58, 3) := by decide +kernel
theorem dX7_init_141 : decode cX7_init 141 = .ok (.aload_n 0, 1) := by decide +kernel
theorem dX7_init_142 : decode cX7_init 142 = .ok (.sipush 416, 3) := by decide +kernel
theorem dX7_init_145 : decode cX7_init 145 = .ok (.newarray .int, 2) := by decide +kernel
theorem dX7_init_147 : decode cX7_init 147 = .ok (.putfield 61, 3) := by decide +kernel
theorem dX7_init_150 : decode cX7_init 150 = .ok (.aload_n 0, 1) := by decide +kernel
theorem dX7_init_151 : decode cX7_init 151 = .ok (.bipush 52, 2) := by decide +kernel
theorem dX7_init_153 : decode cX7_init 153 = .ok (.newarray .int, 2) := by decide +kernel
theorem dX7_init_155 : decode cX7_init 155 = .ok (.putfield 64, 3) := by decide +kernel
theorem dX7_init_158 : decode cX7_init 158 = .ok (.aload_n 0, 1) := by decide +kernel
theorem dX7_init_159 : decode cX7_init 159 = .ok (.bipush 6, 2) := by decide +kernel
theorem dX7_init_161 : decode cX7_init 161 = .ok (.newarray .int, 2) := by decide +kernel
theorem dX7_init_163 : decode cX7_init 163 = .ok (.putfield 67, 3) := by decide +kernel
theorem dX7_init_166 : decode cX7_init 166 = .ok (.aload_n 0, 1) := by decide +kernel
theorem dX7_init_167 : decode cX7_init 167 = .ok (.bipush 6, 2) := by decide +kernel
theorem dX7_init_169 : decode cX7_init 169 = .ok (.newarray .int, 2) := by decide +kernel
theorem dX7_init_171 : decode cX7_init 171 = .ok (.putfield 70, 3) := by decide +kernel
theorem dX7_init_174 : decode cX7_init 174 = .ok (.aload_n 0, 1) := by decide +kernel
theorem dX7_init_175 : decode cX7_init 175 = .ok (.bipush 104, 2) := by decide +kernel
theorem dX7_init_177 : decode cX7_init 177 = .ok (.newarray .int, 2) := by decide +kernel
theorem dX7_init_179 : decode cX7_init 179 = .ok (.putfield 73, 3) := by decide +kernel
theorem dX7_init_182 : decode cX7_init 182 = .ok (.aload_n 0, 1) := by decide +kernel
theorem dX7_init_183 : decode cX7_init 183 = .ok (.iconst 0, 1) := by decide +kernel
theorem dX7_init_184 : decode cX7_init 184 = .ok (.iconst 5, 1) := by decide +kernel
theorem dX7_init_185 : decode cX7_init 185 = .ok (.bipush 6, 2) := by decide +kernel
theorem dX7_init_187 : decode cX7_init 187 = .ok (.iconst 4, 1) := by decide +kernel
theorem dX7_init_188 : decode cX7_init 188 = .ok (.invokevirtual 76, 3) := by decide +kernel
theorem dX7_init_191 : decode cX7_init 191 = .ok (.aload_n 0, 1) := by decide +kernel
theorem dX7_init_192 : decode cX7_init 192 = .ok (.iconst 1, 1) := by decide +kernel
theorem dX7_init_193 : decode cX7_init 193 = .ok (.bipush 12, 2) := by decide +kernel
theorem dX7_init_195 : decode cX7_init 195 = .ok (.iconst 5, 1) := by decide +kernel
theorem dX7_init_196 : decode cX7_init 196 = .ok (.bipush 7, 2) := by decide +kernel
theorem dX7_init_198 : decode cX7_init 198 = .ok (.invokevirtual 76, 3) := by decide +kernel
theorem dX7_init_201 : decode cX7_init 201 = .ok (.aload_n 0, 1) := by decide +kernel
theorem dX7_init_202 : decode cX7_init 202 = .ok (.iconst 2, 1) := by decide +kernel
theorem dX7_init_203 : decode cX7_init 203 = .ok (.bipush 33, 2) := by decide +kernel
theorem dX7_init_205 : decode cX7_init 205 = .ok (.bipush 9, 2) := by decide +kernel
theorem dX7_init_207 : decode cX7_init 207 = .ok (.iconst 3, 1) := by decide +kernel
theorem dX7_init_208 : decode cX7_init 208 = .ok (.invokevirtual 76, 3) := by decide +kernel
theorem dX7_init_211 : decode cX7_init 211 = .ok (.aload_n 0, 1) := by decide +kernel
theorem dX7_init_212 : decode cX7_init 212 = .ok (.iconst 3, 1) := by decide +kernel
theorem dX7_init_213 : decode cX7_init 213 = .ok (.bipush 20, 2) := by decide +kernel
theorem dX7_init_215 : decode cX7_init 215 = .ok (.bipush 8, 2) := by decide +kernel
theorem dX7_init_217 : decode cX7_init 217 = .ok (.bipush 9, 2) := by decide +kernel
theorem dX7_init_219 : decode cX7_init 219 = .ok (.invokevirtual 76, 3) := by decide +kernel
theorem dX7_init_222 : decode cX7_init 222 = .ok (.aload_n 0, 1) := by decide +kernel
theorem dX7_init_223 : decode cX7_init 223 = .ok (.iconst 0, 1) := by decide +kernel
theorem dX7_init_224 : decode cX7_init 224 = .ok (.iconst 0, 1) := by decide +kernel
theorem dX7_init_225 : decode cX7_init 225 = .ok (.iconst 2, 1) := by decide +kernel
theorem dX7_init_226 : decode cX7_init 226 = .ok (.iconst 2, 1) := by decide +kernel
theorem dX7_init_227 : decode cX7_init 227 = .ok (.invokevirtual 76, 3) := by decide +kernel
theorem dX7_init_230 : decode cX7_init 230 = .ok (.aload_n 0, 1) := by decide +kernel
theorem dX7_init_231 : decode cX7_init 231 = .ok (.iconst 4, 1) := by decide +kernel
theorem dX7_init_232 : decode cX7_init 232 = .ok (.invokevirtual 80, 3) := by decide +kernel
theorem dX7_init_235 : decode cX7_init 235 = .ok (.return_, 1) := by decide +kernel
theorem dX7_firstOne_0 : decode cX7_firstOne 0 = .ok (.aload_n 0, 1) := by decide +kernel
theorem dX7_firstOne_1 : decode cX7_firstOne 1 = .ok (.getfield 9, 3) := by decide +kernel
theorem dX7_firstOne_4 : decode cX7_firstOne 4 = .ok (.aload_n 0, 1) := by decide +kernel
theorem dX7_firstOne_5 : decode cX7_firstOne 5 = .ok (.getfield 84, 3) := by decide +kernel
theorem dX7_firstOne_8 : decode cX7_firstOne 8 = .ok (.iload_n 1, 1) := by decide +kernel
theorem dX7_firstOne_9 : decode cX7_firstOne 9 = .ok (.iastore, 1) := by decide +kernel
theorem dX7_firstOne_10 : decode cX7_firstOne 10 = .ok (.aload_n 0, 1) := by decide +kernel
theorem dX7_firstOne_11 : decode cX7_firstOne 11 = .ok (.getfield 13, 3) := by decide +kernel
theorem dX7_firstOne_14 : decode cX7_firstOne 14 = .ok (.aload_n 0, 1) := by decide +kernel
theorem dX7_firstOne_15 : decode cX7_firstOne 15 = .ok (.getfield 84, 3) := by decide +kernel
theorem dX7_firstOne_18 : decode cX7_firstOne 18 = .ok (.iload_n 2, 1) := by decide +kernel
theorem dX7_firstOne_19 : decode cX7_firstOne 19 = .ok (.iastore, 1) := by decide +kernel
theorem dX7_firstOne_20 : decode cX7_firstOne 20 = .ok (.aload_n 0, 1) := by decide +kernel
theorem dX7_firstOne_21 : decode cX7_firstOne 21 = .ok (.getfield 16, 3) := by decide +kernel
theorem dX7_firstOne_24 : decode cX7_firstOne 24 = .ok (.aload_n 0, 1) := by decide +kernel
theorem dX7_firstOne_25 : decode cX7_firstOne 25 = .ok (.getfield 84, 3) := by decide +kernel
theorem dX7_firstOne_28 : decode cX7_firstOne 28 = .ok (.iload_n 3, 1) := by decide +kernel
theorem dX7_firstOne_29 : decode cX7_firstOne 29 = .ok (.iastore, 1) := by decide +kernel
theorem dX7_firstOne_30 : decode cX7_firstOne 30 = .ok (.aload_n 0, 1) := by decide +kernel
theorem dX7_firstOne_31 : decode cX7_firstOne 31 = .ok (.getfield 19, 3) := by decide +kernel
theorem dX7_firstOne_34 : decode cX7_firstOne 34 = .ok (.aload_n 0, 1) := by decide +kernel
theorem dX7_firstOne_35 : decode cX7_firstOne 35 = .ok (.getfield 84, 3) := by decide +kernel
theorem dX7_firstOne_38 : decode cX7_firstOne 38 = .ok (.iload 4, 2) := by decide +kernel
theorem dX7_firstOne_40 : decode cX7_firstOne 40 = .ok (.iastore, 1) := by decide +kernel
theorem dX7_firstOne_41 : decode cX7_firstOne 41 = .ok (.aload_n 0, 1) := by decide +kernel
theorem dX7_firstOne_42 : decode cX7_firstOne 42 = .ok (.dup, 1) := by decide +kernel
theorem dX7_firstOne_43 : decode cX7_firstOne 43 = .ok (.getfield 84, 3) := by decide +kernel
theorem dX7_firstOne_46 : decode cX7_firstOne 46 = .ok (.iconst 1, 1) := by decide +kernel
theorem dX7_firstOne_47 : decode cX7_firstOne 47 = .ok (.iadd, 1) := by decide +kernel
theorem dX7_firstOne_48 : decode cX7_firstOne 48 = .ok (.putfield 84, 3) := by decide +kernel
theorem dX7_firstOne_51 : decode cX7_firstOne 51 = .ok (.return_, 1) := by decide +kernel
theorem dX7_begin_0 : decode cX7_begin 0 = .ok (.aload_n 0, 1) := by decide +kernel
theorem dX7_begin_1 : decode cX7_begin 1 = .ok (.iconst 0, 1) := by decide +kernel
theorem dX7_begin_2 : decode cX7_begin 2 = .ok (.putfield 88, 3) := by decide +kernel
theorem dX7_begin_5 : decode cX7_begin 5 = .ok (.aload_n 0, 1) := by decide +kernel
theorem dX7_begin_6 : decode cX7_begin 6 = .ok (.iload_n 1, 1) := by decide +kernel
theorem dX7_begin_7 : decode cX7_begin 7 = .ok (.putfield 91, 3) := by decide +kernel
theorem dX7_begin_10 : decode cX7_begin 10 = .ok (.aload_n 0, 1) := by decide +kernel
theorem dX7_begin_11 : decode cX7_begin 11 = .ok (.iconst 0, 1) := by decide +kernel
theorem dX7_begin_12 : decode cX7_begin 12 = .ok (.putfield 94, 3) := by decide +kernel
theorem dX7_begin_15 : decode cX7_begin 15 = .ok (.aload_n 0, 1) := by decide +kernel
theorem dX7_begin_16 : decode cX7_begin 16 = .ok (.iconst 0, 1) := by decide +kernel
theorem dX7_begin_17 : decode cX7_begin 17 = .ok (.putfield 97, 3) := by decide +kernel
theorem dX7_begin_20 : decode cX7_begin 20 = .ok (.iconst 0, 1) := by decide +kernel
theorem dX7_begin_21 : decode cX7_begin 21 = .ok (.istore_n 2, 1) := by decide +kernel
theorem dX7_begin_22 : decode cX7_begin 22 = .ok (.iload_n 2, 1) := by decide +kernel
theorem dX7_begin_23 : decode cX7_begin 23 = .ok (.bipush 6, 2) := by decide +kernel
theorem dX7_begin_25 : decode cX7_begin 25 = .ok (.if_icmp .ge 67, 3) := by decide +kernel
theorem dX7_begin_28 : decode cX7_begin 28 = .ok (.aload_n 0, 1) := by decide +kernel
theorem dX7_begin_29 : decode cX7_begin 29 = .ok (.getfield 22, 3) := by decide +kernel
theorem dX7_begin_32 : decode cX7_begin 32 = .ok (.iload_n 2, 1) := by decide +kernel
theorem dX7_begin_33 : decode cX7_begin 33 = .ok (.iconst 0, 1) := by decide +kernel
theorem dX7_begin_34 : decode cX7_begin 34 = .ok (.iastore, 1) := by decide +kernel
theorem dX7_begin_35 : decode cX7_begin 35 = .ok (.aload_n 0, 1) := by decide +kernel
theorem dX7_begin_36 : decode cX7_begin 36 = .ok (.getfield 25, 3) := by decide +kernel
theorem dX7_begin_39 : decode cX7_begin 39 = .ok (.iload_n 2, 1) := by decide +kernel
theorem dX7_begin_40 : decode cX7_begin 40 = .ok (.bipush (-4), 2) := by decide +kernel
theorem dX7_begin_42 : decode cX7_begin 42 = .ok (.iastore, 1) := by decide +kernel
theorem dX7_begin_43 : decode cX7_begin 43 = .ok (.aload_n 0, 1) := by decide +kernel
theorem dX7_begin_44 : decode cX7_begin 44 = .ok (.getfield 28, 3) := by decide +kernel
theorem dX7_begin_47 : decode cX7_begin 47 = .ok (.iload_n 2, 1) := by decide +kernel
theorem dX7_begin_48 : decode cX7_begin 48 = .ok (.iconst 0, 1) := by decide +kernel
theorem dX7_begin_49 : decode cX7_begin 49 = .ok (.iastore, 1) := by decide +kernel
theorem dX7_begin_50 : decode cX7_begin 50 = .ok (.aload_n 0, 1) := by decide +kernel
theorem dX7_begin_51 : decode cX7_begin 51 = .ok (.getfield 31, 3) := by decide +kernel
theorem dX7_begin_54 : decode cX7_begin 54 = .ok (.iload_n 2, 1) := by decide +kernel
theorem dX7_begin_55 : decode cX7_begin 55 = .ok (.bipush (-4), 2) := by decide +kernel
theorem dX7_begin_57 : decode cX7_begin 57 = .ok (.iastore, 1) := by decide +kernel
theorem dX7_begin_58 : decode cX7_begin 58 = .ok (.aload_n 0, 1) := by decide +kernel
theorem dX7_begin_59 : decode cX7_begin 59 = .ok (.getfield 34, 3) := by decide +kernel
theorem dX7_begin_62 : decode cX7_begin 62 = .ok (.iload_n 2, 1) := by decide +kernel
theorem dX7_begin_63 : decode cX7_begin 63 = .ok (.iconst 0, 1) := by decide +kernel
theorem dX7_begin_64 : decode cX7_begin 64 = .ok (.iastore, 1) := by decide +kernel
theorem dX7_begin_65 : decode cX7_begin 65 = .ok (.aload_n 0, 1) := by decide +kernel
theorem dX7_begin_66 : decode cX7_begin 66 = .ok (.getfield 37, 3) := by decide +kernel
theorem dX7_begin_69 : decode cX7_begin 69 = .ok (.iload_n 2, 1) := by decide +kernel
theorem dX7_begin_70 : decode cX7_begin 70 = .ok (.iconst 0, 1) := by decide +kernel
theorem dX7_begin_71 : decode cX7_begin 71 = .ok (.iastore, 1) := by decide +kernel
theorem dX7_begin_72 : decode cX7_begin 72 = .ok (.aload_n 0, 1) := by decide +kernel
theorem dX7_begin_73 : decode cX7_begin 73 = .ok (.getfield 40, 3) := by decide +kernel
theorem dX7_begin_76 : decode cX7_begin 76 = .ok (.iload_n 2, 1) := by decide +kernel
theorem dX7_begin_77 : decode cX7_begin 77 = .ok (.iconst 0, 1) := by decide +kernel
theorem dX7_begin_78 : decode cX7_begin 78 = .ok (.iastore, 1) := by decide +kernel
theorem dX7_begin_79 : decode cX7_begin 79 = .ok (.aload_n 0, 1) := by decide +kernel
theorem dX7_begin_80 : decode cX7_begin 80 = .ok (.getfield 43, 3) := by decide +kernel
theorem dX7_begin_83 : decode cX7_begin 83 = .ok (.iload_n 2, 1) := by decide +kernel
theorem dX7_begin_84 : decode cX7_begin 84 = .ok (.iconst 0, 1) := by decide +kernel
theorem dX7_begin_85 : decode cX7_begin 85 = .ok (.iastore, 1) := by decide +kernel
theorem dX7_begin_86 : decode cX7_begin 86 = .ok (.iinc 2 1, 3) := by decide +kernel
theorem dX7_begin_89 : decode cX7_begin 89 = .ok (.goto (-67), 3) := by decide +kernel
theorem dX7_begin_92 : decode cX7_begin 92 = .ok (.return_, 1) := by decide +kernel
theorem dX7_isOne_0 : decode cX7_isOne 0 = .ok (.iload_n 1, 1) := by decide +kernel
theorem dX7_isOne_1 : decode cX7_isOne 1 = .ok (.iconst 0, 1) := by decide +kernel
theorem dX7_isOne_2 : decode cX7_isOne 2 = .ok (.aload_n 0, 1) := by decide +kernel
theorem dX7_isOne_3 : decode cX7_isOne 3 = .ok (.getfield 84, 3) := by decide +kernel
theorem dX7_isOne_6 : decode cX7_isOne 6 = .ok (.iconst 1, 1) := by decide +kernel
theorem dX7_isOne_7 : decode cX7_isOne 7 = .ok (.isub, 1) := by decide +kernel
theorem dX7_isOne_8 : decode cX7_isOne 8 = .ok (.invokestatic 100, 3) := by decide +kernel
theorem dX7_isOne_11 : decode cX7_isOne 11 = .ok (.ireturn, 1) := by decide +kernel
theorem dX7_write_0 : decode cX7_write 0 = .ok (.iload_n 1, 1) := by decide +kernel
theorem dX7_write_1 : decode cX7_write 1 = .ok (.bipush 32, 2) := by decide +kernel
theorem dX7_write_3 : decode cX7_write 3 = .ok (.bipush 126, 2) := by decide +kernel
theorem dX7_write_5 : decode cX7_write 5 = .ok (.invokestatic 100, 3) := by decide +kernel
theorem dX7_write_8 : decode cX7_write 8 = .ok (.ifCond .ne 5, 3) := by decide +kernel
theorem dX7_write_11 : decode cX7_write 11 = .ok (.iconst (-1), 1) := by decide +kernel
theorem dX7_write_12 : decode cX7_write 12 = .ok (.ireturn, 1) := by decide +kernel
theorem dX7_write_13 : decode cX7_write 13 = .ok (.aload_n 0, 1) := by decide +kernel
theorem dX7_write_14 : decode cX7_write 14 = .ok (.getfield 104, 3) := by decide +kernel
theorem dX7_write_17 : decode cX7_write 17 = .ok (.sipush 200, 3) := by decide +kernel
theorem dX7_write_20 : decode cX7_write 20 = .ok (.if_icmp .ne 6, 3) := by decide +kernel
theorem dX7_write_23 : decode cX7_write 23 = .ok (.bipush (-3), 2) := by decide +kernel
theorem dX7_write_25 : decode cX7_write 25 = .ok (.ireturn, 1) := by decide +kernel
theorem dX7_write_26 : decode cX7_write 26 = .ok (.aload_n 0, 1) := by decide +kernel
theorem dX7_write_27 : decode cX7_write 27 = .ok (.getfield 55, 3) := by decide +kernel
theorem dX7_write_30 : decode cX7_write 30 = .ok (.aload_n 0, 1) := by decide +kernel
theorem dX7_write_31 : decode cX7_write 31 = .ok (.getfield 104, 3) := by decide +kernel
theorem dX7_write_34 : decode cX7_write 34 = .ok (.iload_n 1, 1) := by decide +kernel
theorem dX7_write_35 : decode cX7_write 35 = .ok (.iastore, 1) := by decide +kernel
theorem dX7_write_36 : decode cX7_write 36 = .ok (.aload_n 0, 1) := by decide +kernel
theorem dX7_write_37 : decode cX7_write 37 = .ok (.dup, 1) := by decide +kernel
theorem dX7_write_38 : decode cX7_write 38 = .ok (.getfield 104, 3) := by decide +kernel
theorem dX7_write_41 : decode cX7_write 41 = .ok (.iconst 1, 1) := by decide +kernel
theorem dX7_write_42 : decode cX7_write 42 = .ok (.iadd, 1) := by decide +kernel
theorem dX7_write_43 : decode cX7_write 43 = .ok (.putfield 104, 3) := by decide +kernel
theorem dX7_write_46 : decode cX7_write 46 = .ok (.aload_n 0, 1) := by decide +kernel
theorem dX7_write_47 : decode cX7_write 47 = .ok (.getfield 104, 3) := by decide +kernel
theorem dX7_write_50 : decode cX7_write 50 = .ok (.ireturn, 1) := by decide +kernel
theorem dX7_wipe_0 : decode cX7_wipe 0 = .ok (.aload_n 0, 1) := by decide +kernel
theorem dX7_wipe_1 : decode cX7_wipe 1 = .ok (.getfield 104, 3) := by decide +kernel
theorem dX7_wipe_4 : decode cX7_wipe 4 = .ok (.istore_n 1, 1) := by decide +kernel
theorem dX7_wipe_5 : decode cX7_wipe 5 = .ok (.aload_n 0, 1) := by decide +kernel
theorem dX7_wipe_6 : decode cX7_wipe 6 = .ok (.iconst 0, 1) := by decide +kernel
theorem dX7_wipe_7 : decode cX7_wipe 7 = .ok (.putfield 104, 3) := by decide +kernel
theorem dX7_wipe_10 : decode cX7_wipe 10 = .ok (.iload_n 1, 1) := by decide +kernel
theorem dX7_wipe_11 : decode cX7_wipe 11 = .ok (.ireturn, 1) := by decide +kernel
theorem dX7_here_0 : decode cX7_here 0 = .ok (.aload_n 0, 1) := by decide +kernel
theorem dX7_here_1 : decode cX7_here 1 = .ok (.getfield 107, 3) := by decide +kernel
theorem dX7_here_4 : decode cX7_here 4 = .ok (.aload_n 0, 1) := by decide +kernel
theorem dX7_here_5 : decode cX7_here 5 = .ok (.getfield 104, 3) := by decide +kernel
theorem dX7_here_8 : decode cX7_here 8 = .ok (.if_icmp .ge 15, 3) := by decide +kernel
theorem dX7_here_11 : decode cX7_here 11 = .ok (.aload_n 0, 1) := by decide +kernel
theorem dX7_here_12 : decode cX7_here 12 = .ok (.getfield 55, 3) := by decide +kernel
theorem dX7_here_15 : decode cX7_here 15 = .ok (.aload_n 0, 1) := by decide +kernel
theorem dX7_here_16 : decode cX7_here 16 = .ok (.getfield 107, 3) := by decide +kernel
theorem dX7_here_19 : decode cX7_here 19 = .ok (.iaload, 1) := by decide +kernel
theorem dX7_here_20 : decode cX7_here 20 = .ok (.goto 4, 3) := by decide +kernel
theorem dX7_here_23 : decode cX7_here 23 = .ok (.iconst 0, 1) := by decide +kernel
theorem dX7_here_24 : decode cX7_here 24 = .ok (.ireturn, 1) := by decide +kernel
theorem dX7_isFigure_0 : decode cX7_isFigure 0 = .ok (.aload_n 0, 1) := by decide +kernel
theorem dX7_isFigure_1 : decode cX7_isFigure 1 = .ok (.invokevirtual 110, 3) := by decide +kernel
theorem dX7_isFigure_4 : decode cX7_isFigure 4 = .ok (.bipush 48, 2) := by decide +kernel
theorem dX7_isFigure_6 : decode cX7_isFigure 6 = .ok (.bipush 57, 2) := by decide +kernel
theorem dX7_isFigure_8 : decode cX7_isFigure 8 = .ok (.invokestatic 100, 3) := by decide +kernel
theorem dX7_isFigure_11 : decode cX7_isFigure 11 = .ok (.ireturn, 1) := by decide +kernel
theorem dX7_number_0 : decode cX7_number 0 = .ok (.aload_n 0, 1) := by decide +kernel
theorem dX7_number_1 : decode cX7_number 1 = .ok (.invokevirtual 114, 3) := by decide +kernel
theorem dX7_number_4 : decode cX7_number 4 = .ok (.ifCond .ne 5, 3) := by decide +kernel
theorem dX7_number_7 : decode cX7_number 7 = .ok (.iconst 0, 1) := by decide +kernel
theorem dX7_number_8 : decode cX7_number 8 = .ok (.ireturn, 1) := by decide +kernel
theorem dX7_number_9 : decode cX7_number 9 = .ok (.aload_n 0, 1) := by decide +kernel
theorem dX7_number_10 : decode cX7_number 10 = .ok (.invokevirtual 110, 3) := by decide +kernel
theorem dX7_number_13 : decode cX7_number 13 = .ok (.bipush 48, 2) := by decide +kernel
theorem dX7_number_15 : decode cX7_number 15 = .ok (.isub, 1) := by decide +kernel
theorem dX7_number_16 : decode cX7_number 16 = .ok (.istore 4, 2) := by decide +kernel
theorem dX7_number_18 : decode cX7_number 18 = .ok (.aload_n 0, 1) := by decide +kernel
theorem dX7_number_19 : decode cX7_number 19 = .ok (.dup, 1) := by decide +kernel
theorem dX7_number_20 : decode cX7_number 20 = .ok (.getfield 107, 3) := by decide +kernel
theorem dX7_number_23 : decode cX7_number 23 = .ok (.iconst 1, 1) := by decide +kernel
theorem dX7_number_24 : decode cX7_number 24 = .ok (.iadd, 1) := by decide +kernel
theorem dX7_number_25 : decode cX7_number 25 = .ok (.putfield 107, 3) := by decide +kernel
theorem dX7_number_28 : decode cX7_number 28 = .ok (.aload_n 0, 1) := by decide +kernel
theorem dX7_number_29 : decode cX7_number 29 = .ok (.invokevirtual 114, 3) := by decide +kernel
theorem dX7_number_32 : decode cX7_number 32 = .ok (.ifCond .eq 28, 3) := by decide +kernel
theorem dX7_number_35 : decode cX7_number 35 = .ok (.bipush 10, 2) := by decide +kernel
theorem dX7_number_37 : decode cX7_number 37 = .ok (.iload 4, 2) := by decide +kernel
theorem dX7_number_39 : decode cX7_number 39 = .ok (.imul, 1) := by decide +kernel
theorem dX7_number_40 : decode cX7_number 40 = .ok (.aload_n 0, 1) := by decide +kernel
theorem dX7_number_41 : decode cX7_number 41 = .ok (.invokevirtual 110, 3) := by decide +kernel
theorem dX7_number_44 : decode cX7_number 44 = .ok (.iadd, 1) := by decide +kernel
theorem dX7_number_45 : decode cX7_number 45 = .ok (.bipush 48, 2) := by decide +kernel
theorem dX7_number_47 : decode cX7_number 47 = .ok (.isub, 1) := by decide +kernel
theorem dX7_number_48 : decode cX7_number 48 = .ok (.istore 4, 2) := by decide +kernel
theorem dX7_number_50 : decode cX7_number 50 = .ok (.aload_n 0, 1) := by decide +kernel
theorem dX7_number_51 : decode cX7_number 51 = .ok (.dup, 1) := by decide +kernel
theorem dX7_number_52 : decode cX7_number 52 = .ok (.getfield 107, 3) := by decide +kernel
theorem dX7_number_55 : decode cX7_number 55 = .ok (.iconst 1, 1) := by decide +kernel
theorem dX7_number_56 : decode cX7_number 56 = .ok (.iadd, 1) := by decide +kernel
theorem dX7_number_57 : decode cX7_number 57 = .ok (.putfield 107, 3) := by decide +kernel
theorem dX7_number_60 : decode cX7_number 60 = .ok (.aload_n 0, 1) := by decide +kernel
theorem dX7_number_61 : decode cX7_number 61 = .ok (.iload 4, 2) := by decide +kernel
theorem dX7_number_63 : decode cX7_number 63 = .ok (.putfield 118, 3) := by decide +kernel
theorem dX7_number_66 : decode cX7_number 66 = .ok (.aload_n 0, 1) := by decide +kernel
theorem dX7_number_67 : decode cX7_number 67 = .ok (.invokevirtual 110, 3) := by decide +kernel
theorem dX7_number_70 : decode cX7_number 70 = .ok (.iload_n 3, 1) := by decide +kernel
theorem dX7_number_71 : decode cX7_number 71 = .ok (.if_icmp .ne 13, 3) := by decide +kernel
theorem dX7_number_74 : decode cX7_number 74 = .ok (.iload 4, 2) := by decide +kernel
theorem dX7_number_76 : decode cX7_number 76 = .ok (.iload_n 1, 1) := by decide +kernel
theorem dX7_number_77 : decode cX7_number 77 = .ok (.iload_n 2, 1) := by decide +kernel
theorem dX7_number_78 : decode cX7_number 78 = .ok (.invokestatic 100, 3) := by decide +kernel
theorem dX7_number_81 : decode cX7_number 81 = .ok (.ifCond .ne 5, 3) := by decide +kernel
theorem dX7_number_84 : decode cX7_number 84 = .ok (.iconst 0, 1) := by decide +kernel
theorem dX7_number_85 : decode cX7_number 85 = .ok (.ireturn, 1) := by decide +kernel
theorem dX7_number_86 : decode cX7_number 86 = .ok (.aload_n 0, 1) := by decide +kernel
theorem dX7_number_87 : decode cX7_number 87 = .ok (.dup, 1) := by decide +kernel
theorem dX7_number_88 : decode cX7_number 88 = .ok (.getfield 107, 3) := by decide +kernel
theorem dX7_number_91 : decode cX7_number 91 = .ok (.iconst 1, 1) := by decide +kernel
theorem dX7_number_92 : decode cX7_number 92 = .ok (.iadd, 1) := by decide +kernel
theorem dX7_number_93 : decode cX7_number 93 = .ok (.putfield 107, 3) := by decide +kernel
theorem dX7_number_96 : decode cX7_number 96 = .ok (.iconst 1, 1) := by decide +kernel
theorem dX7_number_97 : decode cX7_number 97 = .ok (.ireturn, 1) := by decide +kernel
theorem dX7_readsOne_0 : decode cX7_readsOne 0 = .ok (.aload_n 0, 1) := by decide +kernel
theorem dX7_readsOne_1 : decode cX7_readsOne 1 = .ok (.getfield 121, 3) := by decide +kernel
theorem dX7_readsOne_4 : decode cX7_readsOne 4 = .ok (.bipush 6, 2) := by decide +kernel
theorem dX7_readsOne_6 : decode cX7_readsOne 6 = .ok (.if_icmp .eq 14, 3) := by decide +kernel
theorem dX7_readsOne_9 : decode cX7_readsOne 9 = .ok (.aload_n 0, 1) := by decide +kernel
theorem dX7_readsOne_10 : decode cX7_readsOne 10 = .ok (.iconst 0, 1) := by decide +kernel
theorem dX7_readsOne_11 : decode cX7_readsOne 11 = .ok (.iconst 3, 1) := by decide +kernel
theorem dX7_readsOne_12 : decode cX7_readsOne 12 = .ok (.bipush 44, 2) := by decide +kernel
theorem dX7_readsOne_14 : decode cX7_readsOne 14 = .ok (.invokevirtual 124, 3) := by decide +kernel
theorem dX7_readsOne_17 : decode cX7_readsOne 17 = .ok (.ifCond .ne 5, 3) := by decide +kernel
theorem dX7_readsOne_20 : decode cX7_readsOne 20 = .ok (.iconst 0, 1) := by decide +kernel
theorem dX7_readsOne_21 : decode cX7_readsOne 21 = .ok (.ireturn, 1) := by decide +kernel
theorem dX7_readsOne_22 : decode cX7_readsOne 22 = .ok (.iconst 4, 1) := by decide +kernel
theorem dX7_readsOne_23 : decode cX7_readsOne 23 = .ok (.aload_n 0, 1) := by decide +kernel
theorem dX7_readsOne_24 : decode cX7_readsOne 24 = .ok (.getfield 121, 3) := by decide +kernel
theorem dX7_readsOne_27 : decode cX7_readsOne 27 = .ok (.imul, 1) := by decide +kernel
theorem dX7_readsOne_28 : decode cX7_readsOne 28 = .ok (.istore_n 1, 1) := by decide +kernel
theorem dX7_readsOne_29 : decode cX7_readsOne 29 = .ok (.aload_n 0, 1) := by decide +kernel
theorem dX7_readsOne_30 : decode cX7_readsOne 30 = .ok (.getfield 58, 3) := by decide +kernel
theorem dX7_readsOne_33 : decode cX7_readsOne 33 = .ok (.iload_n 1, 1) := by decide +kernel
theorem dX7_readsOne_34 : decode cX7_readsOne 34 = .ok (.aload_n 0, 1) := by decide +kernel
theorem dX7_readsOne_35 : decode cX7_readsOne 35 = .ok (.getfield 118, 3) := by decide +kernel
theorem dX7_readsOne_38 : decode cX7_readsOne 38 = .ok (.iastore, 1) := by decide +kernel
theorem dX7_readsOne_39 : decode cX7_readsOne 39 = .ok (.aload_n 0, 1) := by decide +kernel
theorem dX7_readsOne_40 : decode cX7_readsOne 40 = .ok (.iconst 0, 1) := by decide +kernel
theorem dX7_readsOne_41 : decode cX7_readsOne 41 = .ok (.bipush 40, 2) := by decide +kernel
theorem dX7_readsOne_43 : decode cX7_readsOne 43 = .ok (.bipush 44, 2) := by decide +kernel
theorem dX7_readsOne_45 : decode cX7_readsOne 45 = .ok (.invokevirtual 124, 3) := by decide +kernel
theorem dX7_readsOne_48 : decode cX7_readsOne 48 = .ok (.ifCond .ne 5, 3) := by decide +kernel
theorem dX7_readsOne_51 : decode cX7_readsOne 51 = .ok (.iconst 0, 1) := by decide +kernel
theorem dX7_readsOne_52 : decode cX7_readsOne 52 = .ok (.ireturn, 1) := by decide +kernel
theorem dX7_readsOne_53 : decode cX7_readsOne 53 = .ok (.aload_n 0, 1) := by decide +kernel
theorem dX7_readsOne_54 : decode cX7_readsOne 54 = .ok (.getfield 58, 3) := by decide +kernel
theorem dX7_readsOne_57 : decode cX7_readsOne 57 = .ok (.iload_n 1, 1) := by decide +kernel
theorem dX7_readsOne_58 : decode cX7_readsOne 58 = .ok (.iconst 1, 1) := by decide +kernel
theorem dX7_readsOne_59 : decode cX7_readsOne 59 = .ok (.iadd, 1) := by decide +kernel
theorem dX7_readsOne_60 : decode cX7_readsOne 60 = .ok (.aload_n 0, 1) := by decide +kernel
theorem dX7_readsOne_61 : decode cX7_readsOne 61 = .ok (.getfield 118, 3) := by decide +kernel
theorem dX7_readsOne_64 : decode cX7_readsOne 64 = .ok (.iastore, 1) := by decide +kernel
theorem dX7_readsOne_65 : decode cX7_readsOne 65 = .ok (.aload_n 0, 1) := by decide +kernel
theorem dX7_readsOne_66 : decode cX7_readsOne 66 = .ok (.iconst 0, 1) := by decide +kernel
theorem dX7_readsOne_67 : decode cX7_readsOne 67 = .ok (.bipush 40, 2) := by decide +kernel
theorem dX7_readsOne_69 : decode cX7_readsOne 69 = .ok (.bipush 44, 2) := by decide +kernel
theorem dX7_readsOne_71 : decode cX7_readsOne 71 = .ok (.invokevirtual 124, 3) := by decide +kernel
theorem dX7_readsOne_74 : decode cX7_readsOne 74 = .ok (.ifCond .ne 5, 3) := by decide +kernel
theorem dX7_readsOne_77 : decode cX7_readsOne 77 = .ok (.iconst 0, 1) := by decide +kernel
theorem dX7_readsOne_78 : decode cX7_readsOne 78 = .ok (.ireturn, 1) := by decide +kernel
theorem dX7_readsOne_79 : decode cX7_readsOne 79 = .ok (.aload_n 0, 1) := by decide +kernel
theorem dX7_readsOne_80 : decode cX7_readsOne 80 = .ok (.getfield 58, 3) := by decide +kernel
theorem dX7_readsOne_83 : decode cX7_readsOne 83 = .ok (.iload_n 1, 1) := by decide +kernel
theorem dX7_readsOne_84 : decode cX7_readsOne 84 = .ok (.iconst 2, 1) := by decide +kernel
theorem dX7_readsOne_85 : decode cX7_readsOne 85 = .ok (.iadd, 1) := by decide +kernel
theorem dX7_readsOne_86 : decode cX7_readsOne 86 = .ok (.aload_n 0, 1) := by decide +kernel
theorem dX7_readsOne_87 : decode cX7_readsOne 87 = .ok (.getfield 118, 3) := by decide +kernel
theorem dX7_readsOne_90 : decode cX7_readsOne 90 = .ok (.iastore, 1) := by decide +kernel
theorem dX7_readsOne_91 : decode cX7_readsOne 91 = .ok (.aload_n 0, 1) := by decide +kernel
theorem dX7_readsOne_92 : decode cX7_readsOne 92 = .ok (.iconst 1, 1) := by decide +kernel
theorem dX7_readsOne_93 : decode cX7_readsOne 93 = .ok (.bipush 9, 2) := by decide +kernel
theorem dX7_readsOne_95 : decode cX7_readsOne 95 = .ok (.bipush 59, 2) := by decide +kernel
theorem dX7_readsOne_97 : decode cX7_readsOne 97 = .ok (.invokevirtual 124, 3) := by decide +kernel
theorem dX7_readsOne_100 : decode cX7_readsOne 100 = .ok (.ifCond .ne 5, 3) := by decide +kernel
theorem dX7_readsOne_103 : decode cX7_readsOne 103 = .ok (.iconst 0, 1) := by decide +kernel
theorem dX7_readsOne_104 : decode cX7_readsOne 104 = .ok (.ireturn, 1) := by decide +kernel
theorem dX7_readsOne_105 : decode cX7_readsOne 105 = .ok (.aload_n 0, 1) := by decide +kernel
theorem dX7_readsOne_106 : decode cX7_readsOne 106 = .ok (.getfield 58, 3) := by decide +kernel
theorem dX7_readsOne_109 : decode cX7_readsOne 109 = .ok (.iload_n 1, 1) := by decide +kernel
theorem dX7_readsOne_110 : decode cX7_readsOne 110 = .ok (.iconst 3, 1) := by decide +kernel
theorem dX7_readsOne_111 : decode cX7_readsOne 111 = .ok (.iadd, 1) := by decide +kernel
theorem dX7_readsOne_112 : decode cX7_readsOne 112 = .ok (.aload_n 0, 1) := by decide +kernel
theorem dX7_readsOne_113 : decode cX7_readsOne 113 = .ok (.getfield 118, 3) := by decide +kernel
theorem dX7_readsOne_116 : decode cX7_readsOne 116 = .ok (.iastore, 1) := by decide +kernel
theorem dX7_readsOne_117 : decode cX7_readsOne 117 = .ok (.aload_n 0, 1) := by decide +kernel
theorem dX7_readsOne_118 : decode cX7_readsOne 118 = .ok (.dup, 1) := by decide +kernel
theorem dX7_readsOne_119 : decode cX7_readsOne 119 = .ok (.getfield 121, 3) := by decide +kernel
theorem dX7_readsOne_122 : decode cX7_readsOne 122 = .ok (.iconst 1, 1) := by decide +kernel
theorem dX7_readsOne_123 : decode cX7_readsOne 123 = .ok (.iadd, 1) := by decide +kernel
theorem dX7_readsOne_124 : decode cX7_readsOne 124 = .ok (.putfield 121, 3) := by decide +kernel
theorem dX7_readsOne_127 : decode cX7_readsOne 127 = .ok (.iconst 1, 1) := by decide +kernel
theorem dX7_readsOne_128 : decode cX7_readsOne 128 = .ok (.ireturn, 1) := by decide +kernel
theorem dX7_readsStock_0 : decode cX7_readsStock 0 = .ok (.aload_n 0, 1) := by decide +kernel
theorem dX7_readsStock_1 : decode cX7_readsStock 1 = .ok (.iconst 0, 1) := by decide +kernel
theorem dX7_readsStock_2 : decode cX7_readsStock 2 = .ok (.bipush 20, 2) := by decide +kernel
theorem dX7_readsStock_4 : decode cX7_readsStock 4 = .ok (.bipush 59, 2) := by decide +kernel
theorem dX7_readsStock_6 : decode cX7_readsStock 6 = .ok (.invokevirtual 124, 3) := by decide +kernel
theorem dX7_readsStock_9 : decode cX7_readsStock 9 = .ok (.ifCond .ne 5, 3) := by decide +kernel
theorem dX7_readsStock_12 : decode cX7_readsStock 12 = .ok (.iconst 0, 1) := by decide +kernel
theorem dX7_readsStock_13 : decode cX7_readsStock 13 = .ok (.ireturn, 1) := by decide +kernel
theorem dX7_readsStock_14 : decode cX7_readsStock 14 = .ok (.aload_n 0, 1) := by decide +kernel
theorem dX7_readsStock_15 : decode cX7_readsStock 15 = .ok (.aload_n 0, 1) := by decide +kernel
theorem dX7_readsStock_16 : decode cX7_readsStock 16 = .ok (.getfield 118, 3) := by decide +kernel
theorem dX7_readsStock_19 : decode cX7_readsStock 19 = .ok (.putfield 127, 3) := by decide +kernel
theorem dX7_readsStock_22 : decode cX7_readsStock 22 = .ok (.iconst 1, 1) := by decide +kernel
theorem dX7_readsStock_23 : decode cX7_readsStock 23 = .ok (.ireturn, 1) := by decide +kernel
theorem dX7_readsItem_0 : decode cX7_readsItem 0 = .ok (.aload_n 0, 1) := by decide +kernel
theorem dX7_readsItem_1 : decode cX7_readsItem 1 = .ok (.invokevirtual 110, 3) := by decide +kernel
theorem dX7_readsItem_4 : decode cX7_readsItem 4 = .ok (.istore_n 1, 1) := by decide +kernel
theorem dX7_readsItem_5 : decode cX7_readsItem 5 = .ok (.aload_n 0, 1) := by decide +kernel
theorem dX7_readsItem_6 : decode cX7_readsItem 6 = .ok (.dup, 1) := by decide +kernel
theorem dX7_readsItem_7 : decode cX7_readsItem 7 = .ok (.getfield 107, 3) := by decide +kernel
theorem dX7_readsItem_10 : decode cX7_readsItem 10 = .ok (.iconst 1, 1) := by decide +kernel
theorem dX7_readsItem_11 : decode cX7_readsItem 11 = .ok (.iadd, 1) := by decide +kernel
theorem dX7_readsItem_12 : decode cX7_readsItem 12 = .ok (.putfield 107, 3) := by decide +kernel
theorem dX7_readsItem_15 : decode cX7_readsItem 15 = .ok (.iload_n 1, 1) := by decide +kernel
theorem dX7_readsItem_16 : decode cX7_readsItem 16 = .ok (.bipush 112, 2) := by decide +kernel
theorem dX7_readsItem_18 : decode cX7_readsItem 18 = .ok (.if_icmp .ne 10, 3) := by decide +kernel
theorem dX7_readsItem_21 : decode cX7_readsItem 21 = .ok (.aload_n 0, 1) := by decide +kernel
theorem dX7_readsItem_22 : decode cX7_readsItem 22 = .ok (.invokevirtual 130, 3) := by decide +kernel
theorem dX7_readsItem_25 : decode cX7_readsItem 25 = .ok (.goto 21, 3) := by decide +kernel
theorem dX7_readsItem_28 : decode cX7_readsItem 28 = .ok (.iload_n 1, 1) := by decide +kernel
theorem dX7_readsItem_29 : decode cX7_readsItem 29 = .ok (.bipush 104, 2) := by decide +kernel
theorem dX7_readsItem_31 : decode cX7_readsItem 31 = .ok (.if_icmp .ne 14, 3) := by decide +kernel
theorem dX7_readsItem_34 : decode cX7_readsItem 34 = .ok (.aload_n 0, 1) := by decide +kernel
theorem dX7_readsItem_35 : decode cX7_readsItem 35 = .ok (.invokevirtual 133, 3) := by decide +kernel
theorem dX7_readsItem_38 : decode cX7_readsItem 38 = .ok (.ifCond .eq 7, 3) := by decide +kernel
theorem dX7_readsItem_41 : decode cX7_readsItem 41 = .ok (.iconst 1, 1) := by decide +kernel
theorem dX7_readsItem_42 : decode cX7_readsItem 42 = .ok (.goto 4, 3) := by decide +kernel
theorem dX7_readsItem_45 : decode cX7_readsItem 45 = .ok (.iconst 0, 1) := by decide +kernel
theorem dX7_readsItem_46 : decode cX7_readsItem 46 = .ok (.ireturn, 1) := by decide +kernel
theorem dX7_fault_0 : decode cX7_fault 0 = .ok (.aload_n 0, 1) := by decide +kernel
theorem dX7_fault_1 : decode cX7_fault 1 = .ok (.iconst 0, 1) := by decide +kernel
theorem dX7_fault_2 : decode cX7_fault 2 = .ok (.putfield 107, 3) := by decide +kernel
theorem dX7_fault_5 : decode cX7_fault 5 = .ok (.aload_n 0, 1) := by decide +kernel
theorem dX7_fault_6 : decode cX7_fault 6 = .ok (.iconst 0, 1) := by decide +kernel
theorem dX7_fault_7 : decode cX7_fault 7 = .ok (.putfield 121, 3) := by decide +kernel
theorem dX7_fault_10 : decode cX7_fault 10 = .ok (.aload_n 0, 1) := by decide +kernel
theorem dX7_fault_11 : decode cX7_fault 11 = .ok (.iconst 3, 1) := by decide +kernel
theorem dX7_fault_12 : decode cX7_fault 12 = .ok (.putfield 127, 3) := by decide +kernel
theorem dX7_fault_15 : decode cX7_fault 15 = .ok (.aload_n 0, 1) := by decide +kernel
theorem dX7_fault_16 : decode cX7_fault 16 = .ok (.getfield 107, 3) := by decide +kernel
theorem dX7_fault_19 : decode cX7_fault 19 = .ok (.aload_n 0, 1) := by decide +kernel
theorem dX7_fault_20 : decode cX7_fault 20 = .ok (.getfield 104, 3) := by decide +kernel
theorem dX7_fault_23 : decode cX7_fault 23 = .ok (.if_icmp .ge 20, 3) := by decide +kernel
theorem dX7_fault_26 : decode cX7_fault 26 = .ok (.aload_n 0, 1) := by decide +kernel
theorem dX7_fault_27 : decode cX7_fault 27 = .ok (.getfield 107, 3) := by decide +kernel
theorem dX7_fault_30 : decode cX7_fault 30 = .ok (.istore_n 1, 1) := by decide +kernel
theorem dX7_fault_31 : decode cX7_fault 31 = .ok (.aload_n 0, 1) := by decide +kernel
theorem dX7_fault_32 : decode cX7_fault 32 = .ok (.invokevirtual 136, 3) := by decide +kernel
theorem dX7_fault_35 : decode cX7_fault 35 = .ok (.ifCond .ne 5, 3) := by decide +kernel
theorem dX7_fault_38 : decode cX7_fault 38 = .ok (.iload_n 1, 1) := by decide +kernel
theorem dX7_fault_39 : decode cX7_fault 39 = .ok (.ireturn, 1) := by decide +kernel
theorem dX7_fault_40 : decode cX7_fault 40 = .ok (.goto (-25), 3) := by decide +kernel
theorem dX7_fault_43 : decode cX7_fault 43 = .ok (.bipush (-4), 2) := by decide +kernel
theorem dX7_fault_45 : decode cX7_fault 45 = .ok (.ireturn, 1) := by decide +kernel
theorem dX7_lay_0 : decode cX7_lay 0 = .ok (.aload_n 0, 1) := by decide +kernel
theorem dX7_lay_1 : decode cX7_lay 1 = .ok (.invokevirtual 139, 3) := by decide +kernel
theorem dX7_lay_4 : decode cX7_lay 4 = .ok (.bipush (-4), 2) := by decide +kernel
theorem dX7_lay_6 : decode cX7_lay 6 = .ok (.if_icmp .ne 10, 3) := by decide +kernel
theorem dX7_lay_9 : decode cX7_lay 9 = .ok (.aload_n 0, 1) := by decide +kernel
theorem dX7_lay_10 : decode cX7_lay 10 = .ok (.getfield 121, 3) := by decide +kernel
theorem dX7_lay_13 : decode cX7_lay 13 = .ok (.ifCond .ne 6, 3) := by decide +kernel
theorem dX7_lay_16 : decode cX7_lay 16 = .ok (.bipush (-2), 2) := by decide +kernel
theorem dX7_lay_18 : decode cX7_lay 18 = .ok (.ireturn, 1) := by decide +kernel
theorem dX7_lay_19 : decode cX7_lay 19 = .ok (.aload_n 0, 1) := by decide +kernel
theorem dX7_lay_20 : decode cX7_lay 20 = .ok (.iconst 0, 1) := by decide +kernel
theorem dX7_lay_21 : decode cX7_lay 21 = .ok (.putfield 84, 3) := by decide +kernel
theorem dX7_lay_24 : decode cX7_lay 24 = .ok (.iconst 0, 1) := by decide +kernel
theorem dX7_lay_25 : decode cX7_lay 25 = .ok (.istore_n 1, 1) := by decide +kernel
theorem dX7_lay_26 : decode cX7_lay 26 = .ok (.iload_n 1, 1) := by decide +kernel
theorem dX7_lay_27 : decode cX7_lay 27 = .ok (.aload_n 0, 1) := by decide +kernel
theorem dX7_lay_28 : decode cX7_lay 28 = .ok (.getfield 121, 3) := by decide +kernel
theorem dX7_lay_31 : decode cX7_lay 31 = .ok (.if_icmp .ge 51, 3) := by decide +kernel
theorem dX7_lay_34 : decode cX7_lay 34 = .ok (.aload_n 0, 1) := by decide +kernel
theorem dX7_lay_35 : decode cX7_lay 35 = .ok (.aload_n 0, 1) := by decide +kernel
theorem dX7_lay_36 : decode cX7_lay 36 = .ok (.getfield 58, 3) := by decide +kernel
theorem dX7_lay_39 : decode cX7_lay 39 = .ok (.iconst 4, 1) := by decide +kernel
theorem dX7_lay_40 : decode cX7_lay 40 = .ok (.iload_n 1, 1) := by decide +kernel
theorem dX7_lay_41 : decode cX7_lay 41 = .ok (.imul, 1) := by decide +kernel
theorem dX7_lay_42 : decode cX7_lay 42 = .ok (.iaload, 1) := by decide +kernel
theorem dX7_lay_43 : decode cX7_lay 43 = .ok (.aload_n 0, 1) := by decide +kernel
theorem dX7_lay_44 : decode cX7_lay 44 = .ok (.getfield 58, 3) := by decide +kernel
theorem dX7_lay_47 : decode cX7_lay 47 = .ok (.iconst 4, 1) := by decide +kernel
theorem dX7_lay_48 : decode cX7_lay 48 = .ok (.iload_n 1, 1) := by decide +kernel
theorem dX7_lay_49 : decode cX7_lay 49 = .ok (.imul, 1) := by decide +kernel
theorem dX7_lay_50 : decode cX7_lay 50 = .ok (.iconst 1, 1) := by decide +kernel
theorem dX7_lay_51 : decode cX7_lay 51 = .ok (.iadd, 1) := by decide +kernel
theorem dX7_lay_52 : decode cX7_lay 52 = .ok (.iaload, 1) := by decide +kernel
theorem dX7_lay_53 : decode cX7_lay 53 = .ok (.aload_n 0, 1) := by decide +kernel
theorem dX7_lay_54 : decode cX7_lay 54 = .ok (.getfield 58, 3) := by decide +kernel
theorem dX7_lay_57 : decode cX7_lay 57 = .ok (.iconst 4, 1) := by decide +kernel
theorem dX7_lay_58 : decode cX7_lay 58 = .ok (.iload_n 1, 1) := by decide +kernel
theorem dX7_lay_59 : decode cX7_lay 59 = .ok (.imul, 1) := by decide +kernel
theorem dX7_lay_60 : decode cX7_lay 60 = .ok (.iconst 2, 1) := by decide +kernel
theorem dX7_lay_61 : decode cX7_lay 61 = .ok (.iadd, 1) := by decide +kernel
theorem dX7_lay_62 : decode cX7_lay 62 = .ok (.iaload, 1) := by decide +kernel
theorem dX7_lay_63 : decode cX7_lay 63 = .ok (.aload_n 0, 1) := by decide +kernel
theorem dX7_lay_64 : decode cX7_lay 64 = .ok (.getfield 58, 3) := by decide +kernel
theorem dX7_lay_67 : decode cX7_lay 67 = .ok (.iconst 4, 1) := by decide +kernel
theorem dX7_lay_68 : decode cX7_lay 68 = .ok (.iload_n 1, 1) := by decide +kernel
theorem dX7_lay_69 : decode cX7_lay 69 = .ok (.imul, 1) := by decide +kernel
theorem dX7_lay_70 : decode cX7_lay 70 = .ok (.iconst 3, 1) := by decide +kernel
theorem dX7_lay_71 : decode cX7_lay 71 = .ok (.iadd, 1) := by decide +kernel
theorem dX7_lay_72 : decode cX7_lay 72 = .ok (.iaload, 1) := by decide +kernel
theorem dX7_lay_73 : decode cX7_lay 73 = .ok (.invokevirtual 76, 3) := by decide +kernel
theorem dX7_lay_76 : decode cX7_lay 76 = .ok (.iinc 1 1, 3) := by decide +kernel
theorem dX7_lay_79 : decode cX7_lay 79 = .ok (.goto (-53), 3) := by decide +kernel
theorem dX7_lay_82 : decode cX7_lay 82 = .ok (.aload_n 0, 1) := by decide +kernel
theorem dX7_lay_83 : decode cX7_lay 83 = .ok (.aload_n 0, 1) := by decide +kernel
theorem dX7_lay_84 : decode cX7_lay 84 = .ok (.getfield 127, 3) := by decide +kernel
theorem dX7_lay_87 : decode cX7_lay 87 = .ok (.invokevirtual 80, 3) := by decide +kernel
theorem dX7_lay_90 : decode cX7_lay 90 = .ok (.aload_n 0, 1) := by decide +kernel
theorem dX7_lay_91 : decode cX7_lay 91 = .ok (.iconst 0, 1) := by decide +kernel
theorem dX7_lay_92 : decode cX7_lay 92 = .ok (.putfield 142, 3) := by decide +kernel
theorem dX7_lay_95 : decode cX7_lay 95 = .ok (.aload_n 0, 1) := by decide +kernel
theorem dX7_lay_96 : decode cX7_lay 96 = .ok (.iconst 0, 1) := by decide +kernel
theorem dX7_lay_97 : decode cX7_lay 97 = .ok (.putfield 145, 3) := by decide +kernel
theorem dX7_lay_100 : decode cX7_lay 100 = .ok (.aload_n 0, 1) := by decide +kernel
theorem dX7_lay_101 : decode cX7_lay 101 = .ok (.iconst 0, 1) := by decide +kernel
theorem dX7_lay_102 : decode cX7_lay 102 = .ok (.putfield 148, 3) := by decide +kernel
theorem dX7_lay_105 : decode cX7_lay 105 = .ok (.aload_n 0, 1) := by decide +kernel
theorem dX7_lay_106 : decode cX7_lay 106 = .ok (.getfield 84, 3) := by decide +kernel
theorem dX7_lay_109 : decode cX7_lay 109 = .ok (.ireturn, 1) := by decide +kernel
theorem dX7_eatsBy_0 : decode cX7_eatsBy 0 = .ok (.iload_n 0, 1) := by decide +kernel
theorem dX7_eatsBy_1 : decode cX7_eatsBy 1 = .ok (.iconst 1, 1) := by decide +kernel
theorem dX7_eatsBy_2 : decode cX7_eatsBy 2 = .ok (.if_icmp .ne 11, 3) := by decide +kernel
theorem dX7_eatsBy_5 : decode cX7_eatsBy 5 = .ok (.iconst 2, 1) := by decide +kernel
theorem dX7_eatsBy_6 : decode cX7_eatsBy 6 = .ok (.iload_n 1, 1) := by decide +kernel
theorem dX7_eatsBy_7 : decode cX7_eatsBy 7 = .ok (.imul, 1) := by decide +kernel
theorem dX7_eatsBy_8 : decode cX7_eatsBy 8 = .ok (.iconst 2, 1) := by decide +kernel
theorem dX7_eatsBy_9 : decode cX7_eatsBy 9 = .ok (.iadd, 1) := by decide +kernel
theorem dX7_eatsBy_10 : decode cX7_eatsBy 10 = .ok (.goto 15, 3) := by decide +kernel
theorem dX7_eatsBy_13 : decode cX7_eatsBy 13 = .ok (.iload_n 0, 1) := by decide +kernel
theorem dX7_eatsBy_14 : decode cX7_eatsBy 14 = .ok (.iconst 2, 1) := by decide +kernel
theorem dX7_eatsBy_15 : decode cX7_eatsBy 15 = .ok (.if_icmp .ne 7, 3) := by decide +kernel
theorem dX7_eatsBy_18 : decode cX7_eatsBy 18 = .ok (.iload_n 1, 1) := by decide +kernel
theorem dX7_eatsBy_19 : decode cX7_eatsBy 19 = .ok (.goto 6, 3) := by decide +kernel
theorem dX7_eatsBy_22 : decode cX7_eatsBy 22 = .ok (.iconst 2, 1) := by decide +kernel
theorem dX7_eatsBy_23 : decode cX7_eatsBy 23 = .ok (.iload_n 1, 1) := by decide +kernel
theorem dX7_eatsBy_24 : decode cX7_eatsBy 24 = .ok (.imul, 1) := by decide +kernel
theorem dX7_eatsBy_25 : decode cX7_eatsBy 25 = .ok (.ireturn, 1) := by decide +kernel
theorem dX7_comesIn_0 : decode cX7_comesIn 0 = .ok (.aload_n 0, 1) := by decide +kernel
theorem dX7_comesIn_1 : decode cX7_comesIn 1 = .ok (.getfield 9, 3) := by decide +kernel
theorem dX7_comesIn_4 : decode cX7_comesIn 4 = .ok (.iload_n 1, 1) := by decide +kernel
theorem dX7_comesIn_5 : decode cX7_comesIn 5 = .ok (.iaload, 1) := by decide +kernel
theorem dX7_comesIn_6 : decode cX7_comesIn 6 = .ok (.iconst 3, 1) := by decide +kernel
theorem dX7_comesIn_7 : decode cX7_comesIn 7 = .ok (.if_icmp .ne 79, 3) := by decide +kernel
theorem dX7_comesIn_10 : decode cX7_comesIn 10 = .ok (.aload_n 0, 1) := by decide +kernel
theorem dX7_comesIn_11 : decode cX7_comesIn 11 = .ok (.getfield 40, 3) := by decide +kernel
theorem dX7_comesIn_14 : decode cX7_comesIn 14 = .ok (.iload_n 1, 1) := by decide +kernel
theorem dX7_comesIn_15 : decode cX7_comesIn 15 = .ok (.iaload, 1) := by decide +kernel
theorem dX7_comesIn_16 : decode cX7_comesIn 16 = .ok (.ifCond .ne 70, 3) := by decide +kernel
theorem dX7_comesIn_19 : decode cX7_comesIn 19 = .ok (.aload_n 0, 1) := by decide +kernel
theorem dX7_comesIn_20 : decode cX7_comesIn 20 = .ok (.getfield 40, 3) := by decide +kernel
theorem dX7_comesIn_23 : decode cX7_comesIn 23 = .ok (.iload_n 1, 1) := by decide +kernel
theorem dX7_comesIn_24 : decode cX7_comesIn 24 = .ok (.iconst 1, 1) := by decide +kernel
theorem dX7_comesIn_25 : decode cX7_comesIn 25 = .ok (.iastore, 1) := by decide +kernel
theorem dX7_comesIn_26 : decode cX7_comesIn 26 = .ok (.aload_n 0, 1) := by decide +kernel
theorem dX7_comesIn_27 : decode cX7_comesIn 27 = .ok (.dup, 1) := by decide +kernel
theorem dX7_comesIn_28 : decode cX7_comesIn 28 = .ok (.getfield 97, 3) := by decide +kernel
theorem dX7_comesIn_31 : decode cX7_comesIn 31 = .ok (.iconst 1, 1) := by decide +kernel
theorem dX7_comesIn_32 : decode cX7_comesIn 32 = .ok (.iadd, 1) := by decide +kernel
theorem dX7_comesIn_33 : decode cX7_comesIn 33 = .ok (.putfield 97, 3) := by decide +kernel
theorem dX7_comesIn_36 : decode cX7_comesIn 36 = .ok (.aload_n 0, 1) := by decide +kernel
theorem dX7_comesIn_37 : decode cX7_comesIn 37 = .ok (.getfield 25, 3) := by decide +kernel
theorem dX7_comesIn_40 : decode cX7_comesIn 40 = .ok (.iload_n 1, 1) := by decide +kernel
theorem dX7_comesIn_41 : decode cX7_comesIn 41 = .ok (.aload_n 0, 1) := by decide +kernel
theorem dX7_comesIn_42 : decode cX7_comesIn 42 = .ok (.getfield 88, 3) := by decide +kernel
theorem dX7_comesIn_45 : decode cX7_comesIn 45 = .ok (.iconst 1, 1) := by decide +kernel
theorem dX7_comesIn_46 : decode cX7_comesIn 46 = .ok (.iadd, 1) := by decide +kernel
theorem dX7_comesIn_47 : decode cX7_comesIn 47 = .ok (.iastore, 1) := by decide +kernel
theorem dX7_comesIn_48 : decode cX7_comesIn 48 = .ok (.aload_n 0, 1) := by decide +kernel
theorem dX7_comesIn_49 : decode cX7_comesIn 49 = .ok (.getfield 22, 3) := by decide +kernel
theorem dX7_comesIn_52 : decode cX7_comesIn 52 = .ok (.iload_n 1, 1) := by decide +kernel
theorem dX7_comesIn_53 : decode cX7_comesIn 53 = .ok (.aload_n 0, 1) := by decide +kernel
theorem dX7_comesIn_54 : decode cX7_comesIn 54 = .ok (.getfield 91, 3) := by decide +kernel
theorem dX7_comesIn_57 : decode cX7_comesIn 57 = .ok (.ifCond .le 7, 3) := by decide +kernel
theorem dX7_comesIn_60 : decode cX7_comesIn 60 = .ok (.iconst 2, 1) := by decide +kernel
theorem dX7_comesIn_61 : decode cX7_comesIn 61 = .ok (.goto 4, 3) := by decide +kernel
theorem dX7_comesIn_64 : decode cX7_comesIn 64 = .ok (.iconst 1, 1) := by decide +kernel
theorem dX7_comesIn_65 : decode cX7_comesIn 65 = .ok (.iastore, 1) := by decide +kernel
theorem dX7_comesIn_66 : decode cX7_comesIn 66 = .ok (.aload_n 0, 1) := by decide +kernel
theorem dX7_comesIn_67 : decode cX7_comesIn 67 = .ok (.dup, 1) := by decide +kernel
theorem dX7_comesIn_68 : decode cX7_comesIn 68 = .ok (.getfield 91, 3) := by decide +kernel
theorem dX7_comesIn_71 : decode cX7_comesIn 71 = .ok (.aload_n 0, 1) := by decide +kernel
theorem dX7_comesIn_72 : decode cX7_comesIn 72 = .ok (.getfield 22, 3) := by decide +kernel
theorem dX7_comesIn_75 : decode cX7_comesIn 75 = .ok (.iload_n 1, 1) := by decide +kernel
theorem dX7_comesIn_76 : decode cX7_comesIn 76 = .ok (.iaload, 1) := by decide +kernel
theorem dX7_comesIn_77 : decode cX7_comesIn 77 = .ok (.iconst 1, 1) := by decide +kernel
theorem dX7_comesIn_78 : decode cX7_comesIn 78 = .ok (.isub, 1) := by decide +kernel
theorem dX7_comesIn_79 : decode cX7_comesIn 79 = .ok (.isub, 1) := by decide +kernel
theorem dX7_comesIn_80 : decode cX7_comesIn 80 = .ok (.putfield 91, 3) := by decide +kernel
theorem dX7_comesIn_83 : decode cX7_comesIn 83 = .ok (.goto 46, 3) := by decide +kernel
theorem dX7_comesIn_86 : decode cX7_comesIn 86 = .ok (.aload_n 0, 1) := by decide +kernel
theorem dX7_comesIn_87 : decode cX7_comesIn 87 = .ok (.getfield 37, 3) := by decide +kernel
theorem dX7_comesIn_90 : decode cX7_comesIn 90 = .ok (.iload_n 1, 1) := by decide +kernel
theorem dX7_comesIn_91 : decode cX7_comesIn 91 = .ok (.iconst 1, 1) := by decide +kernel
theorem dX7_comesIn_92 : decode cX7_comesIn 92 = .ok (.iastore, 1) := by decide +kernel
theorem dX7_comesIn_93 : decode cX7_comesIn 93 = .ok (.aload_n 0, 1) := by decide +kernel
theorem dX7_comesIn_94 : decode cX7_comesIn 94 = .ok (.getfield 28, 3) := by decide +kernel
theorem dX7_comesIn_97 : decode cX7_comesIn 97 = .ok (.iload_n 1, 1) := by decide +kernel
theorem dX7_comesIn_98 : decode cX7_comesIn 98 = .ok (.aload_n 0, 1) := by decide +kernel
theorem dX7_comesIn_99 : decode cX7_comesIn 99 = .ok (.getfield 9, 3) := by decide +kernel
theorem dX7_comesIn_102 : decode cX7_comesIn 102 = .ok (.iload_n 1, 1) := by decide +kernel
theorem dX7_comesIn_103 : decode cX7_comesIn 103 = .ok (.iaload, 1) := by decide +kernel
theorem dX7_comesIn_104 : decode cX7_comesIn 104 = .ok (.aload_n 0, 1) := by decide +kernel
theorem dX7_comesIn_105 : decode cX7_comesIn 105 = .ok (.getfield 22, 3) := by decide +kernel
theorem dX7_comesIn_108 : decode cX7_comesIn 108 = .ok (.iload_n 1, 1) := by decide +kernel
theorem dX7_comesIn_109 : decode cX7_comesIn 109 = .ok (.iaload, 1) := by decide +kernel
theorem dX7_comesIn_110 : decode cX7_comesIn 110 = .ok (.invokestatic 151, 3) := by decide +kernel
theorem dX7_comesIn_113 : decode cX7_comesIn 113 = .ok (.iastore, 1) := by decide +kernel
theorem dX7_comesIn_114 : decode cX7_comesIn 114 = .ok (.aload_n 0, 1) := by decide +kernel
theorem dX7_comesIn_115 : decode cX7_comesIn 115 = .ok (.getfield 22, 3) := by decide +kernel
theorem dX7_comesIn_118 : decode cX7_comesIn 118 = .ok (.iload_n 1, 1) := by decide +kernel
theorem dX7_comesIn_119 : decode cX7_comesIn 119 = .ok (.iconst 0, 1) := by decide +kernel
theorem dX7_comesIn_120 : decode cX7_comesIn 120 = .ok (.iastore, 1) := by decide +kernel
theorem dX7_comesIn_121 : decode cX7_comesIn 121 = .ok (.aload_n 0, 1) := by decide +kernel
theorem dX7_comesIn_122 : decode cX7_comesIn 122 = .ok (.getfield 25, 3) := by decide +kernel
theorem dX7_comesIn_125 : decode cX7_comesIn 125 = .ok (.iload_n 1, 1) := by decide +kernel
theorem dX7_comesIn_126 : decode cX7_comesIn 126 = .ok (.bipush (-4), 2) := by decide +kernel
theorem dX7_comesIn_128 : decode cX7_comesIn 128 = .ok (.iastore, 1) := by decide +kernel
theorem dX7_comesIn_129 : decode cX7_comesIn 129 = .ok (.return_, 1) := by decide +kernel
theorem dX7_passes_0 : decode cX7_passes 0 = .ok (.iconst 0, 1) := by decide +kernel
theorem dX7_passes_1 : decode cX7_passes 1 = .ok (.istore_n 2, 1) := by decide +kernel
theorem dX7_passes_2 : decode cX7_passes 2 = .ok (.iconst 0, 1) := by decide +kernel
theorem dX7_passes_3 : decode cX7_passes 3 = .ok (.istore_n 3, 1) := by decide +kernel
theorem dX7_passes_4 : decode cX7_passes 4 = .ok (.iload_n 3, 1) := by decide +kernel
theorem dX7_passes_5 : decode cX7_passes 5 = .ok (.aload_n 0, 1) := by decide +kernel
theorem dX7_passes_6 : decode cX7_passes 6 = .ok (.getfield 84, 3) := by decide +kernel
theorem dX7_passes_9 : decode cX7_passes 9 = .ok (.if_icmp .ge 40, 3) := by decide +kernel
theorem dX7_passes_12 : decode cX7_passes 12 = .ok (.iload_n 1, 1) := by decide +kernel
theorem dX7_passes_13 : decode cX7_passes 13 = .ok (.ifCond .ne 30, 3) := by decide +kernel
theorem dX7_passes_16 : decode cX7_passes 16 = .ok (.aload_n 0, 1) := by decide +kernel
theorem dX7_passes_17 : decode cX7_passes 17 = .ok (.getfield 22, 3) := by decide +kernel
theorem dX7_passes_20 : decode cX7_passes 20 = .ok (.iload_n 3, 1) := by decide +kernel
theorem dX7_passes_21 : decode cX7_passes 21 = .ok (.iaload, 1) := by decide +kernel
theorem dX7_passes_22 : decode cX7_passes 22 = .ok (.ifCond .le 21, 3) := by decide +kernel
theorem dX7_passes_25 : decode cX7_passes 25 = .ok (.aload_n 0, 1) := by decide +kernel
theorem dX7_passes_26 : decode cX7_passes 26 = .ok (.getfield 25, 3) := by decide +kernel
theorem dX7_passes_29 : decode cX7_passes 29 = .ok (.iload_n 3, 1) := by decide +kernel
theorem dX7_passes_30 : decode cX7_passes 30 = .ok (.iaload, 1) := by decide +kernel
theorem dX7_passes_31 : decode cX7_passes 31 = .ok (.aload_n 0, 1) := by decide +kernel
theorem dX7_passes_32 : decode cX7_passes 32 = .ok (.getfield 88, 3) := by decide +kernel
theorem dX7_passes_35 : decode cX7_passes 35 = .ok (.if_icmp .gt 8, 3) := by decide +kernel
theorem dX7_passes_38 : decode cX7_passes 38 = .ok (.aload_n 0, 1) := by decide +kernel
theorem dX7_passes_39 : decode cX7_passes 39 = .ok (.iload_n 3, 1) := by decide +kernel
theorem dX7_passes_40 : decode cX7_passes 40 = .ok (.invokevirtual 155, 3) := by decide +kernel
theorem dX7_passes_43 : decode cX7_passes 43 = .ok (.iinc 3 1, 3) := by decide +kernel
theorem dX7_passes_46 : decode cX7_passes 46 = .ok (.goto (-42), 3) := by decide +kernel
theorem dX7_passes_49 : decode cX7_passes 49 = .ok (.iconst 0, 1) := by decide +kernel
theorem dX7_passes_50 : decode cX7_passes 50 = .ok (.istore_n 3, 1) := by decide +kernel
theorem dX7_passes_51 : decode cX7_passes 51 = .ok (.iload_n 3, 1) := by decide +kernel
theorem dX7_passes_52 : decode cX7_passes 52 = .ok (.aload_n 0, 1) := by decide +kernel
theorem dX7_passes_53 : decode cX7_passes 53 = .ok (.getfield 84, 3) := by decide +kernel
theorem dX7_passes_56 : decode cX7_passes 56 = .ok (.if_icmp .ge 90, 3) := by decide +kernel
theorem dX7_passes_59 : decode cX7_passes 59 = .ok (.aload_n 0, 1) := by decide +kernel
theorem dX7_passes_60 : decode cX7_passes 60 = .ok (.getfield 16, 3) := by decide +kernel
theorem dX7_passes_63 : decode cX7_passes 63 = .ok (.iload_n 3, 1) := by decide +kernel
theorem dX7_passes_64 : decode cX7_passes 64 = .ok (.iaload, 1) := by decide +kernel
theorem dX7_passes_65 : decode cX7_passes 65 = .ok (.aload_n 0, 1) := by decide +kernel
theorem dX7_passes_66 : decode cX7_passes 66 = .ok (.getfield 88, 3) := by decide +kernel
theorem dX7_passes_69 : decode cX7_passes 69 = .ok (.if_icmp .gt 48, 3) := by decide +kernel
theorem dX7_passes_72 : decode cX7_passes 72 = .ok (.aload_n 0, 1) := by decide +kernel
theorem dX7_passes_73 : decode cX7_passes 73 = .ok (.getfield 31, 3) := by decide +kernel
theorem dX7_passes_76 : decode cX7_passes 76 = .ok (.iload_n 3, 1) := by decide +kernel
theorem dX7_passes_77 : decode cX7_passes 77 = .ok (.iaload, 1) := by decide +kernel
theorem dX7_passes_78 : decode cX7_passes 78 = .ok (.bipush (-4), 2) := by decide +kernel
theorem dX7_passes_80 : decode cX7_passes 80 = .ok (.if_icmp .ne 37, 3) := by decide +kernel
theorem dX7_passes_83 : decode cX7_passes 83 = .ok (.aload_n 0, 1) := by decide +kernel
theorem dX7_passes_84 : decode cX7_passes 84 = .ok (.getfield 28, 3) := by decide +kernel
theorem dX7_passes_87 : decode cX7_passes 87 = .ok (.iload_n 3, 1) := by decide +kernel
theorem dX7_passes_88 : decode cX7_passes 88 = .ok (.iaload, 1) := by decide +kernel
theorem dX7_passes_89 : decode cX7_passes 89 = .ok (.ifCond .ne 28, 3) := by decide +kernel
theorem dX7_passes_92 : decode cX7_passes 92 = .ok (.aload_n 0, 1) := by decide +kernel
theorem dX7_passes_93 : decode cX7_passes 93 = .ok (.getfield 31, 3) := by decide +kernel
theorem dX7_passes_96 : decode cX7_passes 96 = .ok (.iload_n 3, 1) := by decide +kernel
theorem dX7_passes_97 : decode cX7_passes 97 = .ok (.aload_n 0, 1) := by decide +kernel
theorem dX7_passes_98 : decode cX7_passes 98 = .ok (.getfield 88, 3) := by decide +kernel
theorem dX7_passes_101 : decode cX7_passes 101 = .ok (.iastore, 1) := by decide +kernel
theorem dX7_passes_102 : decode cX7_passes 102 = .ok (.aload_n 0, 1) := by decide +kernel
theorem dX7_passes_103 : decode cX7_passes 103 = .ok (.getfield 34, 3) := by decide +kernel
theorem dX7_passes_106 : decode cX7_passes 106 = .ok (.iload_n 3, 1) := by decide +kernel
theorem dX7_passes_107 : decode cX7_passes 107 = .ok (.aload_n 0, 1) := by decide +kernel
theorem dX7_passes_108 : decode cX7_passes 108 = .ok (.getfield 37, 3) := by decide +kernel
theorem dX7_passes_111 : decode cX7_passes 111 = .ok (.iload_n 3, 1) := by decide +kernel
theorem dX7_passes_112 : decode cX7_passes 112 = .ok (.iaload, 1) := by decide +kernel
theorem dX7_passes_113 : decode cX7_passes 113 = .ok (.iastore, 1) := by decide +kernel
theorem dX7_passes_114 : decode cX7_passes 114 = .ok (.iinc 2 1, 3) := by decide +kernel
theorem dX7_passes_117 : decode cX7_passes 117 = .ok (.aload_n 0, 1) := by decide +kernel
theorem dX7_passes_118 : decode cX7_passes 118 = .ok (.getfield 28, 3) := by decide +kernel
theorem dX7_passes_121 : decode cX7_passes 121 = .ok (.iload_n 3, 1) := by decide +kernel
theorem dX7_passes_122 : decode cX7_passes 122 = .ok (.dup2, 1) := by decide +kernel
theorem dX7_passes_123 : decode cX7_passes 123 = .ok (.iaload, 1) := by decide +kernel
theorem dX7_passes_124 : decode cX7_passes 124 = .ok (.aload_n 0, 1) := by decide +kernel
theorem dX7_passes_125 : decode cX7_passes 125 = .ok (.getfield 28, 3) := by decide +kernel
theorem dX7_passes_128 : decode cX7_passes 128 = .ok (.iload_n 3, 1) := by decide +kernel
theorem dX7_passes_129 : decode cX7_passes 129 = .ok (.iaload, 1) := by decide +kernel
theorem dX7_passes_130 : decode cX7_passes 130 = .ok (.ifCond .le 7, 3) := by decide +kernel
theorem dX7_passes_133 : decode cX7_passes 133 = .ok (.iconst 1, 1) := by decide +kernel
theorem dX7_passes_134 : decode cX7_passes 134 = .ok (.goto 4, 3) := by decide +kernel
theorem dX7_passes_137 : decode cX7_passes 137 = .ok (.iconst 0, 1) := by decide +kernel
theorem dX7_passes_138 : decode cX7_passes 138 = .ok (.isub, 1) := by decide +kernel
theorem dX7_passes_139 : decode cX7_passes 139 = .ok (.iastore, 1) := by decide +kernel
theorem dX7_passes_140 : decode cX7_passes 140 = .ok (.iinc 3 1, 3) := by decide +kernel
theorem dX7_passes_143 : decode cX7_passes 143 = .ok (.goto (-92), 3) := by decide +kernel
theorem dX7_passes_146 : decode cX7_passes 146 = .ok (.aload_n 0, 1) := by decide +kernel
theorem dX7_passes_147 : decode cX7_passes 147 = .ok (.dup, 1) := by decide +kernel
theorem dX7_passes_148 : decode cX7_passes 148 = .ok (.getfield 88, 3) := by decide +kernel
theorem dX7_passes_151 : decode cX7_passes 151 = .ok (.iconst 1, 1) := by decide +kernel
theorem dX7_passes_152 : decode cX7_passes 152 = .ok (.iadd, 1) := by decide +kernel
theorem dX7_passes_153 : decode cX7_passes 153 = .ok (.putfield 88, 3) := by decide +kernel
theorem dX7_passes_156 : decode cX7_passes 156 = .ok (.aload_n 0, 1) := by decide +kernel
theorem dX7_passes_157 : decode cX7_passes 157 = .ok (.iconst 0, 1) := by decide +kernel
theorem dX7_passes_158 : decode cX7_passes 158 = .ok (.putfield 94, 3) := by decide +kernel
theorem dX7_passes_161 : decode cX7_passes 161 = .ok (.iload_n 2, 1) := by decide +kernel
theorem dX7_passes_162 : decode cX7_passes 162 = .ok (.ireturn, 1) := by decide +kernel
theorem dX7_goesOn_0 : decode cX7_goesOn 0 = .ok (.iconst 0, 1) := by decide +kernel
theorem dX7_goesOn_1 : decode cX7_goesOn 1 = .ok (.istore_n 2, 1) := by decide +kernel
theorem dX7_goesOn_2 : decode cX7_goesOn 2 = .ok (.iconst 0, 1) := by decide +kernel
theorem dX7_goesOn_3 : decode cX7_goesOn 3 = .ok (.istore_n 3, 1) := by decide +kernel
theorem dX7_goesOn_4 : decode cX7_goesOn 4 = .ok (.iload_n 3, 1) := by decide +kernel
theorem dX7_goesOn_5 : decode cX7_goesOn 5 = .ok (.iload_n 1, 1) := by decide +kernel
theorem dX7_goesOn_6 : decode cX7_goesOn 6 = .ok (.if_icmp .ge 17, 3) := by decide +kernel
theorem dX7_goesOn_9 : decode cX7_goesOn 9 = .ok (.iload_n 2, 1) := by decide +kernel
theorem dX7_goesOn_10 : decode cX7_goesOn 10 = .ok (.aload_n 0, 1) := by decide +kernel
theorem dX7_goesOn_11 : decode cX7_goesOn 11 = .ok (.iconst 0, 1) := by decide +kernel
theorem dX7_goesOn_12 : decode cX7_goesOn 12 = .ok (.invokevirtual 158, 3) := by decide +kernel
theorem dX7_goesOn_15 : decode cX7_goesOn 15 = .ok (.iadd, 1) := by decide +kernel
theorem dX7_goesOn_16 : decode cX7_goesOn 16 = .ok (.istore_n 2, 1) := by decide +kernel
theorem dX7_goesOn_17 : decode cX7_goesOn 17 = .ok (.iinc 3 1, 3) := by decide +kernel
theorem dX7_goesOn_20 : decode cX7_goesOn 20 = .ok (.goto (-16), 3) := by decide +kernel
theorem dX7_goesOn_23 : decode cX7_goesOn 23 = .ok (.iload_n 2, 1) := by decide +kernel
theorem dX7_goesOn_24 : decode cX7_goesOn 24 = .ok (.ireturn, 1) := by decide +kernel
theorem dX7_eatSet_0 : decode cX7_eatSet 0 = .ok (.iconst 0, 1) := by decide +kernel
theorem dX7_eatSet_1 : decode cX7_eatSet 1 = .ok (.istore_n 1, 1) := by decide +kernel
theorem dX7_eatSet_2 : decode cX7_eatSet 2 = .ok (.iconst 0, 1) := by decide +kernel
theorem dX7_eatSet_3 : decode cX7_eatSet 3 = .ok (.istore_n 2, 1) := by decide +kernel
theorem dX7_eatSet_4 : decode cX7_eatSet 4 = .ok (.iload_n 2, 1) := by decide +kernel
theorem dX7_eatSet_5 : decode cX7_eatSet 5 = .ok (.aload_n 0, 1) := by decide +kernel
theorem dX7_eatSet_6 : decode cX7_eatSet 6 = .ok (.getfield 84, 3) := by decide +kernel
theorem dX7_eatSet_9 : decode cX7_eatSet 9 = .ok (.if_icmp .ge 28, 3) := by decide +kernel
theorem dX7_eatSet_12 : decode cX7_eatSet 12 = .ok (.iload_n 1, 1) := by decide +kernel
theorem dX7_eatSet_13 : decode cX7_eatSet 13 = .ok (.aload_n 0, 1) := by decide +kernel
theorem dX7_eatSet_14 : decode cX7_eatSet 14 = .ok (.getfield 28, 3) := by decide +kernel
theorem dX7_eatSet_17 : decode cX7_eatSet 17 = .ok (.iload_n 2, 1) := by decide +kernel
theorem dX7_eatSet_18 : decode cX7_eatSet 18 = .ok (.iaload, 1) := by decide +kernel
theorem dX7_eatSet_19 : decode cX7_eatSet 19 = .ok (.ifCond .le 9, 3) := by decide +kernel
theorem dX7_eatSet_22 : decode cX7_eatSet 22 = .ok (.iconst 1, 1) := by decide +kernel
theorem dX7_eatSet_23 : decode cX7_eatSet 23 = .ok (.iload_n 2, 1) := by decide +kernel
theorem dX7_eatSet_24 : decode cX7_eatSet 24 = .ok (.ishl, 1) := by decide +kernel
theorem dX7_eatSet_25 : decode cX7_eatSet 25 = .ok (.goto 4, 3) := by decide +kernel
theorem dX7_eatSet_28 : decode cX7_eatSet 28 = .ok (.iconst 0, 1) := by decide +kernel
theorem dX7_eatSet_29 : decode cX7_eatSet 29 = .ok (.ior, 1) := by decide +kernel
theorem dX7_eatSet_30 : decode cX7_eatSet 30 = .ok (.istore_n 1, 1) := by decide +kernel
theorem dX7_eatSet_31 : decode cX7_eatSet 31 = .ok (.iinc 2 1, 3) := by decide +kernel
theorem dX7_eatSet_34 : decode cX7_eatSet 34 = .ok (.goto (-30), 3) := by decide +kernel
theorem dX7_eatSet_37 : decode cX7_eatSet 37 = .ok (.iload_n 1, 1) := by decide +kernel
theorem dX7_eatSet_38 : decode cX7_eatSet 38 = .ok (.ireturn, 1) := by decide +kernel
theorem dX7_toldSet_0 : decode cX7_toldSet 0 = .ok (.iconst 0, 1) := by decide +kernel
theorem dX7_toldSet_1 : decode cX7_toldSet 1 = .ok (.istore_n 1, 1) := by decide +kernel
theorem dX7_toldSet_2 : decode cX7_toldSet 2 = .ok (.iconst 0, 1) := by decide +kernel
theorem dX7_toldSet_3 : decode cX7_toldSet 3 = .ok (.istore_n 2, 1) := by decide +kernel
theorem dX7_toldSet_4 : decode cX7_toldSet 4 = .ok (.iload_n 2, 1) := by decide +kernel
theorem dX7_toldSet_5 : decode cX7_toldSet 5 = .ok (.aload_n 0, 1) := by decide +kernel
theorem dX7_toldSet_6 : decode cX7_toldSet 6 = .ok (.getfield 84, 3) := by decide +kernel
theorem dX7_toldSet_9 : decode cX7_toldSet 9 = .ok (.if_icmp .ge 30, 3) := by decide +kernel
theorem dX7_toldSet_12 : decode cX7_toldSet 12 = .ok (.iload_n 1, 1) := by decide +kernel
theorem dX7_toldSet_13 : decode cX7_toldSet 13 = .ok (.aload_n 0, 1) := by decide +kernel
theorem dX7_toldSet_14 : decode cX7_toldSet 14 = .ok (.getfield 31, 3) := by decide +kernel
theorem dX7_toldSet_17 : decode cX7_toldSet 17 = .ok (.iload_n 2, 1) := by decide +kernel
theorem dX7_toldSet_18 : decode cX7_toldSet 18 = .ok (.iaload, 1) := by decide +kernel
theorem dX7_toldSet_19 : decode cX7_toldSet 19 = .ok (.bipush (-4), 2) := by decide +kernel
theorem dX7_toldSet_21 : decode cX7_toldSet 21 = .ok (.if_icmp .ne 7, 3) := by decide +kernel
theorem dX7_toldSet_24 : decode cX7_toldSet 24 = .ok (.iconst 0, 1) := by decide +kernel
theorem dX7_toldSet_25 : decode cX7_toldSet 25 = .ok (.goto 6, 3) := by decide +kernel
theorem dX7_toldSet_28 : decode cX7_toldSet 28 = .ok (.iconst 1, 1) := by decide +kernel
theorem dX7_toldSet_29 : decode cX7_toldSet 29 = .ok (.iload_n 2, 1) := by decide +kernel
theorem dX7_toldSet_30 : decode cX7_toldSet 30 = .ok (.ishl, 1) := by decide +kernel
theorem dX7_toldSet_31 : decode cX7_toldSet 31 = .ok (.ior, 1) := by decide +kernel
theorem dX7_toldSet_32 : decode cX7_toldSet 32 = .ok (.istore_n 1, 1) := by decide +kernel
theorem dX7_toldSet_33 : decode cX7_toldSet 33 = .ok (.iinc 2 1, 3) := by decide +kernel
theorem dX7_toldSet_36 : decode cX7_toldSet 36 = .ok (.goto (-32), 3) := by decide +kernel
theorem dX7_toldSet_39 : decode cX7_toldSet 39 = .ok (.iload_n 1, 1) := by decide +kernel
theorem dX7_toldSet_40 : decode cX7_toldSet 40 = .ok (.ireturn, 1) := by decide +kernel
theorem dX7_softSet_0 : decode cX7_softSet 0 = .ok (.iconst 0, 1) := by decide +kernel
theorem dX7_softSet_1 : decode cX7_softSet 1 = .ok (.istore_n 1, 1) := by decide +kernel
theorem dX7_softSet_2 : decode cX7_softSet 2 = .ok (.iconst 0, 1) := by decide +kernel
theorem dX7_softSet_3 : decode cX7_softSet 3 = .ok (.istore_n 2, 1) := by decide +kernel
theorem dX7_softSet_4 : decode cX7_softSet 4 = .ok (.iload_n 2, 1) := by decide +kernel
theorem dX7_softSet_5 : decode cX7_softSet 5 = .ok (.aload_n 0, 1) := by decide +kernel
theorem dX7_softSet_6 : decode cX7_softSet 6 = .ok (.getfield 84, 3) := by decide +kernel
theorem dX7_softSet_9 : decode cX7_softSet 9 = .ok (.if_icmp .ge 20, 3) := by decide +kernel
theorem dX7_softSet_12 : decode cX7_softSet 12 = .ok (.iload_n 1, 1) := by decide +kernel
theorem dX7_softSet_13 : decode cX7_softSet 13 = .ok (.aload_n 0, 1) := by decide +kernel
theorem dX7_softSet_14 : decode cX7_softSet 14 = .ok (.getfield 34, 3) := by decide +kernel
theorem dX7_softSet_17 : decode cX7_softSet 17 = .ok (.iload_n 2, 1) := by decide +kernel
theorem dX7_softSet_18 : decode cX7_softSet 18 = .ok (.iaload, 1) := by decide +kernel
theorem dX7_softSet_19 : decode cX7_softSet 19 = .ok (.iload_n 2, 1) := by decide +kernel
theorem dX7_softSet_20 : decode cX7_softSet 20 = .ok (.ishl, 1) := by decide +kernel
theorem dX7_softSet_21 : decode cX7_softSet 21 = .ok (.ior, 1) := by decide +kernel
theorem dX7_softSet_22 : decode cX7_softSet 22 = .ok (.istore_n 1, 1) := by decide +kernel
theorem dX7_softSet_23 : decode cX7_softSet 23 = .ok (.iinc 2 1, 3) := by decide +kernel
theorem dX7_softSet_26 : decode cX7_softSet 26 = .ok (.goto (-22), 3) := by decide +kernel
theorem dX7_softSet_29 : decode cX7_softSet 29 = .ok (.iload_n 1, 1) := by decide +kernel
theorem dX7_softSet_30 : decode cX7_softSet 30 = .ok (.ireturn, 1) := by decide +kernel
theorem dX7_softWeight_0 : decode cX7_softWeight 0 = .ok (.iconst 0, 1) := by decide +kernel
theorem dX7_softWeight_1 : decode cX7_softWeight 1 = .ok (.istore_n 1, 1) := by decide +kernel
theorem dX7_softWeight_2 : decode cX7_softWeight 2 = .ok (.iconst 0, 1) := by decide +kernel
theorem dX7_softWeight_3 : decode cX7_softWeight 3 = .ok (.istore_n 2, 1) := by decide +kernel
theorem dX7_softWeight_4 : decode cX7_softWeight 4 = .ok (.iload_n 2, 1) := by decide +kernel
theorem dX7_softWeight_5 : decode cX7_softWeight 5 = .ok (.aload_n 0, 1) := by decide +kernel
theorem dX7_softWeight_6 : decode cX7_softWeight 6 = .ok (.getfield 84, 3) := by decide +kernel
theorem dX7_softWeight_9 : decode cX7_softWeight 9 = .ok (.if_icmp .ge 32, 3) := by decide +kernel
theorem dX7_softWeight_12 : decode cX7_softWeight 12 = .ok (.iload_n 1, 1) := by decide +kernel
theorem dX7_softWeight_13 : decode cX7_softWeight 13 = .ok (.aload_n 0, 1) := by decide +kernel
theorem dX7_softWeight_14 : decode cX7_softWeight 14 = .ok (.getfield 34, 3) := by decide +kernel
theorem dX7_softWeight_17 : decode cX7_softWeight 17 = .ok (.iload_n 2, 1) := by decide +kernel
theorem dX7_softWeight_18 : decode cX7_softWeight 18 = .ok (.iaload, 1) := by decide +kernel
theorem dX7_softWeight_19 : decode cX7_softWeight 19 = .ok (.iconst 1, 1) := by decide +kernel
theorem dX7_softWeight_20 : decode cX7_softWeight 20 = .ok (.if_icmp .ne 12, 3) := by decide +kernel
theorem dX7_softWeight_23 : decode cX7_softWeight 23 = .ok (.aload_n 0, 1) := by decide +kernel
theorem dX7_softWeight_24 : decode cX7_softWeight 24 = .ok (.getfield 19, 3) := by decide +kernel
theorem dX7_softWeight_27 : decode cX7_softWeight 27 = .ok (.iload_n 2, 1) := by decide +kernel
theorem dX7_softWeight_28 : decode cX7_softWeight 28 = .ok (.iaload, 1) := by decide +kernel
theorem dX7_softWeight_29 : decode cX7_softWeight 29 = .ok (.goto 4, 3) := by decide +kernel
theorem dX7_softWeight_32 : decode cX7_softWeight 32 = .ok (.iconst 0, 1) := by decide +kernel
theorem dX7_softWeight_33 : decode cX7_softWeight 33 = .ok (.iadd, 1) := by decide +kernel
theorem dX7_softWeight_34 : decode cX7_softWeight 34 = .ok (.istore_n 1, 1) := by decide +kernel
theorem dX7_softWeight_35 : decode cX7_softWeight 35 = .ok (.iinc 2 1, 3) := by decide +kernel
theorem dX7_softWeight_38 : decode cX7_softWeight 38 = .ok (.goto (-34), 3) := by decide +kernel
theorem dX7_softWeight_41 : decode cX7_softWeight 41 = .ok (.iload_n 1, 1) := by decide +kernel
theorem dX7_softWeight_42 : decode cX7_softWeight 42 = .ok (.ireturn, 1) := by decide +kernel
theorem dX7_personTells_0 : decode cX7_personTells 0 = .ok (.iload_n 2, 1) := by decide +kernel
theorem dX7_personTells_1 : decode cX7_personTells 1 = .ok (.tableswitch 125 0 9 #[55, 62, 69, 76, 83, 90, 97, 104, 111, 118], 55) := by decide +kernel
theorem dX7_personTells_56 : decode cX7_personTells 56 = .ok (.aload_n 0, 1) := by decide +kernel
theorem dX7_personTells_57 : decode cX7_personTells 57 = .ok (.getfield 9, 3) := by decide +kernel
theorem dX7_personTells_60 : decode cX7_personTells 60 = .ok (.iload_n 1, 1) := by decide +kernel
theorem dX7_personTells_61 : decode cX7_personTells 61 = .ok (.iaload, 1) := by decide +kernel
theorem dX7_personTells_62 : decode cX7_personTells 62 = .ok (.ireturn, 1) := by decide +kernel
theorem dX7_personTells_63 : decode cX7_personTells 63 = .ok (.aload_n 0, 1) := by decide +kernel
theorem dX7_personTells_64 : decode cX7_personTells 64 = .ok (.getfield 13, 3) := by decide +kernel
theorem dX7_personTells_67 : decode cX7_personTells 67 = .ok (.iload_n 1, 1) := by decide +kernel
theorem dX7_personTells_68 : decode cX7_personTells 68 = .ok (.iaload, 1) := by decide +kernel
theorem dX7_personTells_69 : decode cX7_personTells 69 = .ok (.ireturn, 1) := by decide +kernel
theorem dX7_personTells_70 : decode cX7_personTells 70 = .ok (.aload_n 0, 1) := by decide +kernel
theorem dX7_personTells_71 : decode cX7_personTells 71 = .ok (.getfield 16, 3) := by decide +kernel
theorem dX7_personTells_74 : decode cX7_personTells 74 = .ok (.iload_n 1, 1) := by decide +kernel
theorem dX7_personTells_75 : decode cX7_personTells 75 = .ok (.iaload, 1) := by decide +kernel
theorem dX7_personTells_76 : decode cX7_personTells 76 = .ok (.ireturn, 1) := by decide +kernel
theorem dX7_personTells_77 : decode cX7_personTells 77 = .ok (.aload_n 0, 1) := by decide +kernel
theorem dX7_personTells_78 : decode cX7_personTells 78 = .ok (.getfield 19, 3) := by decide +kernel
theorem dX7_personTells_81 : decode cX7_personTells 81 = .ok (.iload_n 1, 1) := by decide +kernel
theorem dX7_personTells_82 : decode cX7_personTells 82 = .ok (.iaload, 1) := by decide +kernel
theorem dX7_personTells_83 : decode cX7_personTells 83 = .ok (.ireturn, 1) := by decide +kernel
theorem dX7_personTells_84 : decode cX7_personTells 84 = .ok (.aload_n 0, 1) := by decide +kernel
theorem dX7_personTells_85 : decode cX7_personTells 85 = .ok (.getfield 22, 3) := by decide +kernel
theorem dX7_personTells_88 : decode cX7_personTells 88 = .ok (.iload_n 1, 1) := by decide +kernel
theorem dX7_personTells_89 : decode cX7_personTells 89 = .ok (.iaload, 1) := by decide +kernel
theorem dX7_personTells_90 : decode cX7_personTells 90 = .ok (.ireturn, 1) := by decide +kernel
theorem dX7_personTells_91 : decode cX7_personTells 91 = .ok (.aload_n 0, 1) := by decide +kernel
theorem dX7_personTells_92 : decode cX7_personTells 92 = .ok (.getfield 25, 3) := by decide +kernel
theorem dX7_personTells_95 : decode cX7_personTells 95 = .ok (.iload_n 1, 1) := by decide +kernel
theorem dX7_personTells_96 : decode cX7_personTells 96 = .ok (.iaload, 1) := by decide +kernel
theorem dX7_personTells_97 : decode cX7_personTells 97 = .ok (.ireturn, 1) := by decide +kernel
theorem dX7_personTells_98 : decode cX7_personTells 98 = .ok (.aload_n 0, 1) := by decide +kernel
theorem dX7_personTells_99 : decode cX7_personTells 99 = .ok (.getfield 28, 3) := by decide +kernel
theorem dX7_personTells_102 : decode cX7_personTells 102 = .ok (.iload_n 1, 1) := by decide +kernel
theorem dX7_personTells_103 : decode cX7_personTells 103 = .ok (.iaload, 1) := by decide +kernel
theorem dX7_personTells_104 : decode cX7_personTells 104 = .ok (.ireturn, 1) := by decide +kernel
theorem dX7_personTells_105 : decode cX7_personTells 105 = .ok (.aload_n 0, 1) := by decide +kernel
theorem dX7_personTells_106 : decode cX7_personTells 106 = .ok (.getfield 31, 3) := by decide +kernel
theorem dX7_personTells_109 : decode cX7_personTells 109 = .ok (.iload_n 1, 1) := by decide +kernel
theorem dX7_personTells_110 : decode cX7_personTells 110 = .ok (.iaload, 1) := by decide +kernel
theorem dX7_personTells_111 : decode cX7_personTells 111 = .ok (.ireturn, 1) := by decide +kernel
theorem dX7_personTells_112 : decode cX7_personTells 112 = .ok (.aload_n 0, 1) := by decide +kernel
theorem dX7_personTells_113 : decode cX7_personTells 113 = .ok (.getfield 34, 3) := by decide +kernel
theorem dX7_personTells_116 : decode cX7_personTells 116 = .ok (.iload_n 1, 1) := by decide +kernel
theorem dX7_personTells_117 : decode cX7_personTells 117 = .ok (.iaload, 1) := by decide +kernel
theorem dX7_personTells_118 : decode cX7_personTells 118 = .ok (.ireturn, 1) := by decide +kernel
theorem dX7_personTells_119 : decode cX7_personTells 119 = .ok (.aload_n 0, 1) := by decide +kernel
theorem dX7_personTells_120 : decode cX7_personTells 120 = .ok (.getfield 37, 3) := by decide +kernel
theorem dX7_personTells_123 : decode cX7_personTells 123 = .ok (.iload_n 1, 1) := by decide +kernel
theorem dX7_personTells_124 : decode cX7_personTells 124 = .ok (.iaload, 1) := by decide +kernel
theorem dX7_personTells_125 : decode cX7_personTells 125 = .ok (.ireturn, 1) := by decide +kernel
theorem dX7_personTells_126 : decode cX7_personTells 126 = .ok (.aload_n 0, 1) := by decide +kernel
theorem dX7_personTells_127 : decode cX7_personTells 127 = .ok (.getfield 40, 3) := by decide +kernel
theorem dX7_personTells_130 : decode cX7_personTells 130 = .ok (.iload_n 1, 1) := by decide +kernel
theorem dX7_personTells_131 : decode cX7_personTells 131 = .ok (.iaload, 1) := by decide +kernel
theorem dX7_personTells_132 : decode cX7_personTells 132 = .ok (.ireturn, 1) := by decide +kernel
theorem dX7_person_0 : decode cX7_person 0 = .ok (.aload_n 0, 1) := by decide +kernel
theorem dX7_person_1 : decode cX7_person 1 = .ok (.iload_n 1, 1) := by decide +kernel
theorem dX7_person_2 : decode cX7_person 2 = .ok (.invokevirtual 162, 3) := by decide +kernel
theorem dX7_person_5 : decode cX7_person 5 = .ok (.ifCond .eq 22, 3) := by decide +kernel
theorem dX7_person_8 : decode cX7_person 8 = .ok (.iload_n 2, 1) := by decide +kernel
theorem dX7_person_9 : decode cX7_person 9 = .ok (.iconst 0, 1) := by decide +kernel
theorem dX7_person_10 : decode cX7_person 10 = .ok (.bipush 10, 2) := by decide +kernel
theorem dX7_person_12 : decode cX7_person 12 = .ok (.invokestatic 100, 3) := by decide +kernel
theorem dX7_person_15 : decode cX7_person 15 = .ok (.ifCond .eq 12, 3) := by decide +kernel
theorem dX7_person_18 : decode cX7_person 18 = .ok (.aload_n 0, 1) := by decide +kernel
theorem dX7_person_19 : decode cX7_person 19 = .ok (.iload_n 1, 1) := by decide +kernel
theorem dX7_person_20 : decode cX7_person 20 = .ok (.iload_n 2, 1) := by decide +kernel
theorem dX7_person_21 : decode cX7_person 21 = .ok (.invokevirtual 166, 3) := by decide +kernel
theorem dX7_person_24 : decode cX7_person 24 = .ok (.goto 4, 3) := by decide +kernel
theorem dX7_person_27 : decode cX7_person 27 = .ok (.iconst (-1), 1) := by decide +kernel
theorem dX7_person_28 : decode cX7_person 28 = .ok (.ireturn, 1) := by decide +kernel
theorem dX7_lays_0 : decode cX7_lays 0 = .ok (.aload_n 1, 1) := by decide +kernel
theorem dX7_lays_1 : decode cX7_lays 1 = .ok (.iload_n 2, 1) := by decide +kernel
theorem dX7_lays_2 : decode cX7_lays 2 = .ok (.aload_n 0, 1) := by decide +kernel
theorem dX7_lays_3 : decode cX7_lays 3 = .ok (.getfield 88, 3) := by decide +kernel
theorem dX7_lays_6 : decode cX7_lays 6 = .ok (.iastore, 1) := by decide +kernel
theorem dX7_lays_7 : decode cX7_lays 7 = .ok (.aload_n 1, 1) := by decide +kernel
theorem dX7_lays_8 : decode cX7_lays 8 = .ok (.iload_n 2, 1) := by decide +kernel
theorem dX7_lays_9 : decode cX7_lays 9 = .ok (.iconst 1, 1) := by decide +kernel
theorem dX7_lays_10 : decode cX7_lays 10 = .ok (.iadd, 1) := by decide +kernel
theorem dX7_lays_11 : decode cX7_lays 11 = .ok (.aload_n 0, 1) := by decide +kernel
theorem dX7_lays_12 : decode cX7_lays 12 = .ok (.getfield 91, 3) := by decide +kernel
theorem dX7_lays_15 : decode cX7_lays 15 = .ok (.iastore, 1) := by decide +kernel
theorem dX7_lays_16 : decode cX7_lays 16 = .ok (.aload_n 1, 1) := by decide +kernel
theorem dX7_lays_17 : decode cX7_lays 17 = .ok (.iload_n 2, 1) := by decide +kernel
theorem dX7_lays_18 : decode cX7_lays 18 = .ok (.iconst 2, 1) := by decide +kernel
theorem dX7_lays_19 : decode cX7_lays 19 = .ok (.iadd, 1) := by decide +kernel
theorem dX7_lays_20 : decode cX7_lays 20 = .ok (.aload_n 0, 1) := by decide +kernel
theorem dX7_lays_21 : decode cX7_lays 21 = .ok (.getfield 94, 3) := by decide +kernel
theorem dX7_lays_24 : decode cX7_lays 24 = .ok (.iastore, 1) := by decide +kernel
theorem dX7_lays_25 : decode cX7_lays 25 = .ok (.aload_n 1, 1) := by decide +kernel
theorem dX7_lays_26 : decode cX7_lays 26 = .ok (.iload_n 2, 1) := by decide +kernel
theorem dX7_lays_27 : decode cX7_lays 27 = .ok (.bipush 51, 2) := by decide +kernel
theorem dX7_lays_29 : decode cX7_lays 29 = .ok (.iadd, 1) := by decide +kernel
theorem dX7_lays_30 : decode cX7_lays 30 = .ok (.aload_n 0, 1) := by decide +kernel
theorem dX7_lays_31 : decode cX7_lays 31 = .ok (.getfield 97, 3) := by decide +kernel
theorem dX7_lays_34 : decode cX7_lays 34 = .ok (.iastore, 1) := by decide +kernel
theorem dX7_lays_35 : decode cX7_lays 35 = .ok (.iconst 0, 1) := by decide +kernel
theorem dX7_lays_36 : decode cX7_lays 36 = .ok (.istore_n 3, 1) := by decide +kernel
theorem dX7_lays_37 : decode cX7_lays 37 = .ok (.iload_n 3, 1) := by decide +kernel
theorem dX7_lays_38 : decode cX7_lays 38 = .ok (.bipush 6, 2) := by decide +kernel
theorem dX7_lays_40 : decode cX7_lays 40 = .ok (.if_icmp .ge 120, 3) := by decide +kernel
theorem dX7_lays_43 : decode cX7_lays 43 = .ok (.aload_n 1, 1) := by decide +kernel
theorem dX7_lays_44 : decode cX7_lays 44 = .ok (.iload_n 2, 1) := by decide +kernel
theorem dX7_lays_45 : decode cX7_lays 45 = .ok (.iconst 3, 1) := by decide +kernel
theorem dX7_lays_46 : decode cX7_lays 46 = .ok (.iadd, 1) := by decide +kernel
theorem dX7_lays_47 : decode cX7_lays 47 = .ok (.iload_n 3, 1) := by decide +kernel
theorem dX7_lays_48 : decode cX7_lays 48 = .ok (.iadd, 1) := by decide +kernel
theorem dX7_lays_49 : decode cX7_lays 49 = .ok (.aload_n 0, 1) := by decide +kernel
theorem dX7_lays_50 : decode cX7_lays 50 = .ok (.getfield 22, 3) := by decide +kernel
theorem dX7_lays_53 : decode cX7_lays 53 = .ok (.iload_n 3, 1) := by decide +kernel
theorem dX7_lays_54 : decode cX7_lays 54 = .ok (.iaload, 1) := by decide +kernel
theorem dX7_lays_55 : decode cX7_lays 55 = .ok (.iastore, 1) := by decide +kernel
theorem dX7_lays_56 : decode cX7_lays 56 = .ok (.aload_n 1, 1) := by decide +kernel
theorem dX7_lays_57 : decode cX7_lays 57 = .ok (.iload_n 2, 1) := by decide +kernel
theorem dX7_lays_58 : decode cX7_lays 58 = .ok (.bipush 9, 2) := by decide +kernel
theorem dX7_lays_60 : decode cX7_lays 60 = .ok (.iadd, 1) := by decide +kernel
theorem dX7_lays_61 : decode cX7_lays 61 = .ok (.iload_n 3, 1) := by decide +kernel
theorem dX7_lays_62 : decode cX7_lays 62 = .ok (.iadd, 1) := by decide +kernel
theorem dX7_lays_63 : decode cX7_lays 63 = .ok (.aload_n 0, 1) := by decide +kernel
theorem dX7_lays_64 : decode cX7_lays 64 = .ok (.getfield 25, 3) := by decide +kernel
theorem dX7_lays_67 : decode cX7_lays 67 = .ok (.iload_n 3, 1) := by decide +kernel
theorem dX7_lays_68 : decode cX7_lays 68 = .ok (.iaload, 1) := by decide +kernel
theorem dX7_lays_69 : decode cX7_lays 69 = .ok (.iastore, 1) := by decide +kernel
theorem dX7_lays_70 : decode cX7_lays 70 = .ok (.aload_n 1, 1) := by decide +kernel
theorem dX7_lays_71 : decode cX7_lays 71 = .ok (.iload_n 2, 1) := by decide +kernel
theorem dX7_lays_72 : decode cX7_lays 72 = .ok (.bipush 15, 2) := by decide +kernel
theorem dX7_lays_74 : decode cX7_lays 74 = .ok (.iadd, 1) := by decide +kernel
theorem dX7_lays_75 : decode cX7_lays 75 = .ok (.iload_n 3, 1) := by decide +kernel
theorem dX7_lays_76 : decode cX7_lays 76 = .ok (.iadd, 1) := by decide +kernel
theorem dX7_lays_77 : decode cX7_lays 77 = .ok (.aload_n 0, 1) := by decide +kernel
theorem dX7_lays_78 : decode cX7_lays 78 = .ok (.getfield 28, 3) := by decide +kernel
theorem dX7_lays_81 : decode cX7_lays 81 = .ok (.iload_n 3, 1) := by decide +kernel
theorem dX7_lays_82 : decode cX7_lays 82 = .ok (.iaload, 1) := by decide +kernel
theorem dX7_lays_83 : decode cX7_lays 83 = .ok (.iastore, 1) := by decide +kernel
theorem dX7_lays_84 : decode cX7_lays 84 = .ok (.aload_n 1, 1) := by decide +kernel
theorem dX7_lays_85 : decode cX7_lays 85 = .ok (.iload_n 2, 1) := by decide +kernel
theorem dX7_lays_86 : decode cX7_lays 86 = .ok (.bipush 21, 2) := by decide +kernel
theorem dX7_lays_88 : decode cX7_lays 88 = .ok (.iadd, 1) := by decide +kernel
theorem dX7_lays_89 : decode cX7_lays 89 = .ok (.iload_n 3, 1) := by decide +kernel
theorem dX7_lays_90 : decode cX7_lays 90 = .ok (.iadd, 1) := by decide +kernel
theorem dX7_lays_91 : decode cX7_lays 91 = .ok (.aload_n 0, 1) := by decide +kernel
theorem dX7_lays_92 : decode cX7_lays 92 = .ok (.getfield 31, 3) := by decide +kernel
theorem dX7_lays_95 : decode cX7_lays 95 = .ok (.iload_n 3, 1) := by decide +kernel
theorem dX7_lays_96 : decode cX7_lays 96 = .ok (.iaload, 1) := by decide +kernel
theorem dX7_lays_97 : decode cX7_lays 97 = .ok (.iastore, 1) := by decide +kernel
theorem dX7_lays_98 : decode cX7_lays 98 = .ok (.aload_n 1, 1) := by decide +kernel
theorem dX7_lays_99 : decode cX7_lays 99 = .ok (.iload_n 2, 1) := by decide +kernel
theorem dX7_lays_100 : decode cX7_lays 100 = .ok (.bipush 27, 2) := by decide +kernel
theorem dX7_lays_102 : decode cX7_lays 102 = .ok (.iadd, 1) := by decide +kernel
theorem dX7_lays_103 : decode cX7_lays 103 = .ok (.iload_n 3, 1) := by decide +kernel
theorem dX7_lays_104 : decode cX7_lays 104 = .ok (.iadd, 1) := by decide +kernel
theorem dX7_lays_105 : decode cX7_lays 105 = .ok (.aload_n 0, 1) := by decide +kernel
theorem dX7_lays_106 : decode cX7_lays 106 = .ok (.getfield 34, 3) := by decide +kernel
theorem dX7_lays_109 : decode cX7_lays 109 = .ok (.iload_n 3, 1) := by decide +kernel
theorem dX7_lays_110 : decode cX7_lays 110 = .ok (.iaload, 1) := by decide +kernel
theorem dX7_lays_111 : decode cX7_lays 111 = .ok (.iastore, 1) := by decide +kernel
theorem dX7_lays_112 : decode cX7_lays 112 = .ok (.aload_n 1, 1) := by decide +kernel
theorem dX7_lays_113 : decode cX7_lays 113 = .ok (.iload_n 2, 1) := by decide +kernel
theorem dX7_lays_114 : decode cX7_lays 114 = .ok (.bipush 33, 2) := by decide +kernel
theorem dX7_lays_116 : decode cX7_lays 116 = .ok (.iadd, 1) := by decide +kernel
theorem dX7_lays_117 : decode cX7_lays 117 = .ok (.iload_n 3, 1) := by decide +kernel
theorem dX7_lays_118 : decode cX7_lays 118 = .ok (.iadd, 1) := by decide +kernel
theorem dX7_lays_119 : decode cX7_lays 119 = .ok (.aload_n 0, 1) := by decide +kernel
theorem dX7_lays_120 : decode cX7_lays 120 = .ok (.getfield 37, 3) := by decide +kernel
theorem dX7_lays_123 : decode cX7_lays 123 = .ok (.iload_n 3, 1) := by decide +kernel
theorem dX7_lays_124 : decode cX7_lays 124 = .ok (.iaload, 1) := by decide +kernel
theorem dX7_lays_125 : decode cX7_lays 125 = .ok (.iastore, 1) := by decide +kernel
theorem dX7_lays_126 : decode cX7_lays 126 = .ok (.aload_n 1, 1) := by decide +kernel
theorem dX7_lays_127 : decode cX7_lays 127 = .ok (.iload_n 2, 1) := by decide +kernel
theorem dX7_lays_128 : decode cX7_lays 128 = .ok (.bipush 39, 2) := by decide +kernel
theorem dX7_lays_130 : decode cX7_lays 130 = .ok (.iadd, 1) := by decide +kernel
theorem dX7_lays_131 : decode cX7_lays 131 = .ok (.iload_n 3, 1) := by decide +kernel
theorem dX7_lays_132 : decode cX7_lays 132 = .ok (.iadd, 1) := by decide +kernel
theorem dX7_lays_133 : decode cX7_lays 133 = .ok (.aload_n 0, 1) := by decide +kernel
theorem dX7_lays_134 : decode cX7_lays 134 = .ok (.getfield 40, 3) := by decide +kernel
theorem dX7_lays_137 : decode cX7_lays 137 = .ok (.iload_n 3, 1) := by decide +kernel
theorem dX7_lays_138 : decode cX7_lays 138 = .ok (.iaload, 1) := by decide +kernel
theorem dX7_lays_139 : decode cX7_lays 139 = .ok (.iastore, 1) := by decide +kernel
theorem dX7_lays_140 : decode cX7_lays 140 = .ok (.aload_n 1, 1) := by decide +kernel
theorem dX7_lays_141 : decode cX7_lays 141 = .ok (.iload_n 2, 1) := by decide +kernel
theorem dX7_lays_142 : decode cX7_lays 142 = .ok (.bipush 45, 2) := by decide +kernel
theorem dX7_lays_144 : decode cX7_lays 144 = .ok (.iadd, 1) := by decide +kernel
theorem dX7_lays_145 : decode cX7_lays 145 = .ok (.iload_n 3, 1) := by decide +kernel
theorem dX7_lays_146 : decode cX7_lays 146 = .ok (.iadd, 1) := by decide +kernel
theorem dX7_lays_147 : decode cX7_lays 147 = .ok (.aload_n 0, 1) := by decide +kernel
theorem dX7_lays_148 : decode cX7_lays 148 = .ok (.getfield 43, 3) := by decide +kernel
theorem dX7_lays_151 : decode cX7_lays 151 = .ok (.iload_n 3, 1) := by decide +kernel
theorem dX7_lays_152 : decode cX7_lays 152 = .ok (.iaload, 1) := by decide +kernel
theorem dX7_lays_153 : decode cX7_lays 153 = .ok (.iastore, 1) := by decide +kernel
theorem dX7_lays_154 : decode cX7_lays 154 = .ok (.iinc 3 1, 3) := by decide +kernel
theorem dX7_lays_157 : decode cX7_lays 157 = .ok (.goto (-120), 3) := by decide +kernel
theorem dX7_lays_160 : decode cX7_lays 160 = .ok (.return_, 1) := by decide +kernel
theorem dX7_takes_0 : decode cX7_takes 0 = .ok (.aload_n 0, 1) := by decide +kernel
theorem dX7_takes_1 : decode cX7_takes 1 = .ok (.aload_n 1, 1) := by decide +kernel
theorem dX7_takes_2 : decode cX7_takes 2 = .ok (.iload_n 2, 1) := by decide +kernel
theorem dX7_takes_3 : decode cX7_takes 3 = .ok (.iaload, 1) := by decide +kernel
theorem dX7_takes_4 : decode cX7_takes 4 = .ok (.putfield 88, 3) := by decide +kernel
theorem dX7_takes_7 : decode cX7_takes 7 = .ok (.aload_n 0, 1) := by decide +kernel
theorem dX7_takes_8 : decode cX7_takes 8 = .ok (.aload_n 1, 1) := by decide +kernel
theorem dX7_takes_9 : decode cX7_takes 9 = .ok (.iload_n 2, 1) := by decide +kernel
theorem dX7_takes_10 : decode cX7_takes 10 = .ok (.iconst 1, 1) := by decide +kernel
theorem dX7_takes_11 : decode cX7_takes 11 = .ok (.iadd, 1) := by decide +kernel
theorem dX7_takes_12 : decode cX7_takes 12 = .ok (.iaload, 1) := by decide +kernel
theorem dX7_takes_13 : decode cX7_takes 13 = .ok (.putfield 91, 3) := by decide +kernel
theorem dX7_takes_16 : decode cX7_takes 16 = .ok (.aload_n 0, 1) := by decide +kernel
theorem dX7_takes_17 : decode cX7_takes 17 = .ok (.aload_n 1, 1) := by decide +kernel
theorem dX7_takes_18 : decode cX7_takes 18 = .ok (.iload_n 2, 1) := by decide +kernel
theorem dX7_takes_19 : decode cX7_takes 19 = .ok (.iconst 2, 1) := by decide +kernel
theorem dX7_takes_20 : decode cX7_takes 20 = .ok (.iadd, 1) := by decide +kernel
theorem dX7_takes_21 : decode cX7_takes 21 = .ok (.iaload, 1) := by decide +kernel
theorem dX7_takes_22 : decode cX7_takes 22 = .ok (.putfield 94, 3) := by decide +kernel
theorem dX7_takes_25 : decode cX7_takes 25 = .ok (.aload_n 0, 1) := by decide +kernel
theorem dX7_takes_26 : decode cX7_takes 26 = .ok (.aload_n 1, 1) := by decide +kernel
theorem dX7_takes_27 : decode cX7_takes 27 = .ok (.iload_n 2, 1) := by decide +kernel
theorem dX7_takes_28 : decode cX7_takes 28 = .ok (.bipush 51, 2) := by decide +kernel
theorem dX7_takes_30 : decode cX7_takes 30 = .ok (.iadd, 1) := by decide +kernel
theorem dX7_takes_31 : decode cX7_takes 31 = .ok (.iaload, 1) := by decide +kernel
theorem dX7_takes_32 : decode cX7_takes 32 = .ok (.putfield 97, 3) := by decide +kernel
theorem dX7_takes_35 : decode cX7_takes 35 = .ok (.iconst 0, 1) := by decide +kernel
theorem dX7_takes_36 : decode cX7_takes 36 = .ok (.istore_n 3, 1) := by decide +kernel
theorem dX7_takes_37 : decode cX7_takes 37 = .ok (.iload_n 3, 1) := by decide +kernel
theorem dX7_takes_38 : decode cX7_takes 38 = .ok (.bipush 6, 2) := by decide +kernel
theorem dX7_takes_40 : decode cX7_takes 40 = .ok (.if_icmp .ge 120, 3) := by decide +kernel
theorem dX7_takes_43 : decode cX7_takes 43 = .ok (.aload_n 0, 1) := by decide +kernel
theorem dX7_takes_44 : decode cX7_takes 44 = .ok (.getfield 22, 3) := by decide +kernel
theorem dX7_takes_47 : decode cX7_takes 47 = .ok (.iload_n 3, 1) := by decide +kernel
theorem dX7_takes_48 : decode cX7_takes 48 = .ok (.aload_n 1, 1) := by decide +kernel
theorem dX7_takes_49 : decode cX7_takes 49 = .ok (.iload_n 2, 1) := by decide +kernel
theorem dX7_takes_50 : decode cX7_takes 50 = .ok (.iconst 3, 1) := by decide +kernel
theorem dX7_takes_51 : decode cX7_takes 51 = .ok (.iadd, 1) := by decide +kernel
theorem dX7_takes_52 : decode cX7_takes 52 = .ok (.iload_n 3, 1) := by decide +kernel
theorem dX7_takes_53 : decode cX7_takes 53 = .ok (.iadd, 1) := by decide +kernel
theorem dX7_takes_54 : decode cX7_takes 54 = .ok (.iaload, 1) := by decide +kernel
theorem dX7_takes_55 : decode cX7_takes 55 = .ok (.iastore, 1) := by decide +kernel
theorem dX7_takes_56 : decode cX7_takes 56 = .ok (.aload_n 0, 1) := by decide +kernel
theorem dX7_takes_57 : decode cX7_takes 57 = .ok (.getfield 25, 3) := by decide +kernel
theorem dX7_takes_60 : decode cX7_takes 60 = .ok (.iload_n 3, 1) := by decide +kernel
theorem dX7_takes_61 : decode cX7_takes 61 = .ok (.aload_n 1, 1) := by decide +kernel
theorem dX7_takes_62 : decode cX7_takes 62 = .ok (.iload_n 2, 1) := by decide +kernel
theorem dX7_takes_63 : decode cX7_takes 63 = .ok (.bipush 9, 2) := by decide +kernel
theorem dX7_takes_65 : decode cX7_takes 65 = .ok (.iadd, 1) := by decide +kernel
theorem dX7_takes_66 : decode cX7_takes 66 = .ok (.iload_n 3, 1) := by decide +kernel
theorem dX7_takes_67 : decode cX7_takes 67 = .ok (.iadd, 1) := by decide +kernel
theorem dX7_takes_68 : decode cX7_takes 68 = .ok (.iaload, 1) := by decide +kernel
theorem dX7_takes_69 : decode cX7_takes 69 = .ok (.iastore, 1) := by decide +kernel
theorem dX7_takes_70 : decode cX7_takes 70 = .ok (.aload_n 0, 1) := by decide +kernel
theorem dX7_takes_71 : decode cX7_takes 71 = .ok (.getfield 28, 3) := by decide +kernel
theorem dX7_takes_74 : decode cX7_takes 74 = .ok (.iload_n 3, 1) := by decide +kernel
theorem dX7_takes_75 : decode cX7_takes 75 = .ok (.aload_n 1, 1) := by decide +kernel
theorem dX7_takes_76 : decode cX7_takes 76 = .ok (.iload_n 2, 1) := by decide +kernel
theorem dX7_takes_77 : decode cX7_takes 77 = .ok (.bipush 15, 2) := by decide +kernel
theorem dX7_takes_79 : decode cX7_takes 79 = .ok (.iadd, 1) := by decide +kernel
theorem dX7_takes_80 : decode cX7_takes 80 = .ok (.iload_n 3, 1) := by decide +kernel
theorem dX7_takes_81 : decode cX7_takes 81 = .ok (.iadd, 1) := by decide +kernel
theorem dX7_takes_82 : decode cX7_takes 82 = .ok (.iaload, 1) := by decide +kernel
theorem dX7_takes_83 : decode cX7_takes 83 = .ok (.iastore, 1) := by decide +kernel
theorem dX7_takes_84 : decode cX7_takes 84 = .ok (.aload_n 0, 1) := by decide +kernel
theorem dX7_takes_85 : decode cX7_takes 85 = .ok (.getfield 31, 3) := by decide +kernel
theorem dX7_takes_88 : decode cX7_takes 88 = .ok (.iload_n 3, 1) := by decide +kernel
theorem dX7_takes_89 : decode cX7_takes 89 = .ok (.aload_n 1, 1) := by decide +kernel
theorem dX7_takes_90 : decode cX7_takes 90 = .ok (.iload_n 2, 1) := by decide +kernel
theorem dX7_takes_91 : decode cX7_takes 91 = .ok (.bipush 21, 2) := by decide +kernel
theorem dX7_takes_93 : decode cX7_takes 93 = .ok (.iadd, 1) := by decide +kernel
theorem dX7_takes_94 : decode cX7_takes 94 = .ok (.iload_n 3, 1) := by decide +kernel
theorem dX7_takes_95 : decode cX7_takes 95 = .ok (.iadd, 1) := by decide +kernel
theorem dX7_takes_96 : decode cX7_takes 96 = .ok (.iaload, 1) := by decide +kernel
theorem dX7_takes_97 : decode cX7_takes 97 = .ok (.iastore, 1) := by decide +kernel
theorem dX7_takes_98 : decode cX7_takes 98 = .ok (.aload_n 0, 1) := by decide +kernel
theorem dX7_takes_99 : decode cX7_takes 99 = .ok (.getfield 34, 3) := by decide +kernel
theorem dX7_takes_102 : decode cX7_takes 102 = .ok (.iload_n 3, 1) := by decide +kernel
theorem dX7_takes_103 : decode cX7_takes 103 = .ok (.aload_n 1, 1) := by decide +kernel
theorem dX7_takes_104 : decode cX7_takes 104 = .ok (.iload_n 2, 1) := by decide +kernel
theorem dX7_takes_105 : decode cX7_takes 105 = .ok (.bipush 27, 2) := by decide +kernel
theorem dX7_takes_107 : decode cX7_takes 107 = .ok (.iadd, 1) := by decide +kernel
theorem dX7_takes_108 : decode cX7_takes 108 = .ok (.iload_n 3, 1) := by decide +kernel
theorem dX7_takes_109 : decode cX7_takes 109 = .ok (.iadd, 1) := by decide +kernel
theorem dX7_takes_110 : decode cX7_takes 110 = .ok (.iaload, 1) := by decide +kernel
theorem dX7_takes_111 : decode cX7_takes 111 = .ok (.iastore, 1) := by decide +kernel
theorem dX7_takes_112 : decode cX7_takes 112 = .ok (.aload_n 0, 1) := by decide +kernel
theorem dX7_takes_113 : decode cX7_takes 113 = .ok (.getfield 37, 3) := by decide +kernel
theorem dX7_takes_116 : decode cX7_takes 116 = .ok (.iload_n 3, 1) := by decide +kernel
theorem dX7_takes_117 : decode cX7_takes 117 = .ok (.aload_n 1, 1) := by decide +kernel
theorem dX7_takes_118 : decode cX7_takes 118 = .ok (.iload_n 2, 1) := by decide +kernel
theorem dX7_takes_119 : decode cX7_takes 119 = .ok (.bipush 33, 2) := by decide +kernel
theorem dX7_takes_121 : decode cX7_takes 121 = .ok (.iadd, 1) := by decide +kernel
theorem dX7_takes_122 : decode cX7_takes 122 = .ok (.iload_n 3, 1) := by decide +kernel
theorem dX7_takes_123 : decode cX7_takes 123 = .ok (.iadd, 1) := by decide +kernel
theorem dX7_takes_124 : decode cX7_takes 124 = .ok (.iaload, 1) := by decide +kernel
theorem dX7_takes_125 : decode cX7_takes 125 = .ok (.iastore, 1) := by decide +kernel
theorem dX7_takes_126 : decode cX7_takes 126 = .ok (.aload_n 0, 1) := by decide +kernel
theorem dX7_takes_127 : decode cX7_takes 127 = .ok (.getfield 40, 3) := by decide +kernel
theorem dX7_takes_130 : decode cX7_takes 130 = .ok (.iload_n 3, 1) := by decide +kernel
theorem dX7_takes_131 : decode cX7_takes 131 = .ok (.aload_n 1, 1) := by decide +kernel
theorem dX7_takes_132 : decode cX7_takes 132 = .ok (.iload_n 2, 1) := by decide +kernel
theorem dX7_takes_133 : decode cX7_takes 133 = .ok (.bipush 39, 2) := by decide +kernel
theorem dX7_takes_135 : decode cX7_takes 135 = .ok (.iadd, 1) := by decide +kernel
theorem dX7_takes_136 : decode cX7_takes 136 = .ok (.iload_n 3, 1) := by decide +kernel
theorem dX7_takes_137 : decode cX7_takes 137 = .ok (.iadd, 1) := by decide +kernel
theorem dX7_takes_138 : decode cX7_takes 138 = .ok (.iaload, 1) := by decide +kernel
theorem dX7_takes_139 : decode cX7_takes 139 = .ok (.iastore, 1) := by decide +kernel
theorem dX7_takes_140 : decode cX7_takes 140 = .ok (.aload_n 0, 1) := by decide +kernel
theorem dX7_takes_141 : decode cX7_takes 141 = .ok (.getfield 43, 3) := by decide +kernel
theorem dX7_takes_144 : decode cX7_takes 144 = .ok (.iload_n 3, 1) := by decide +kernel
theorem dX7_takes_145 : decode cX7_takes 145 = .ok (.aload_n 1, 1) := by decide +kernel
theorem dX7_takes_146 : decode cX7_takes 146 = .ok (.iload_n 2, 1) := by decide +kernel
theorem dX7_takes_147 : decode cX7_takes 147 = .ok (.bipush 45, 2) := by decide +kernel
theorem dX7_takes_149 : decode cX7_takes 149 = .ok (.iadd, 1) := by decide +kernel
theorem dX7_takes_150 : decode cX7_takes 150 = .ok (.iload_n 3, 1) := by decide +kernel
theorem dX7_takes_151 : decode cX7_takes 151 = .ok (.iadd, 1) := by decide +kernel
theorem dX7_takes_152 : decode cX7_takes 152 = .ok (.iaload, 1) := by decide +kernel
theorem dX7_takes_153 : decode cX7_takes 153 = .ok (.iastore, 1) := by decide +kernel
theorem dX7_takes_154 : decode cX7_takes 154 = .ok (.iinc 3 1, 3) := by decide +kernel
theorem dX7_takes_157 : decode cX7_takes 157 = .ok (.goto (-120), 3) := by decide +kernel
theorem dX7_takes_160 : decode cX7_takes 160 = .ok (.return_, 1) := by decide +kernel
theorem dX7_notes_0 : decode cX7_notes 0 = .ok (.aload_n 0, 1) := by decide +kernel
theorem dX7_notes_1 : decode cX7_notes 1 = .ok (.getfield 145, 3) := by decide +kernel
theorem dX7_notes_4 : decode cX7_notes 4 = .ok (.bipush 8, 2) := by decide +kernel
theorem dX7_notes_6 : decode cX7_notes 6 = .ok (.if_icmp .ne 43, 3) := by decide +kernel
theorem dX7_notes_9 : decode cX7_notes 9 = .ok (.iconst 0, 1) := by decide +kernel
theorem dX7_notes_10 : decode cX7_notes 10 = .ok (.istore_n 1, 1) := by decide +kernel
theorem dX7_notes_11 : decode cX7_notes 11 = .ok (.iload_n 1, 1) := by decide +kernel
theorem dX7_notes_12 : decode cX7_notes 12 = .ok (.sipush 364, 3) := by decide +kernel
theorem dX7_notes_15 : decode cX7_notes 15 = .ok (.if_icmp .ge 24, 3) := by decide +kernel
theorem dX7_notes_18 : decode cX7_notes 18 = .ok (.aload_n 0, 1) := by decide +kernel
theorem dX7_notes_19 : decode cX7_notes 19 = .ok (.getfield 61, 3) := by decide +kernel
theorem dX7_notes_22 : decode cX7_notes 22 = .ok (.iload_n 1, 1) := by decide +kernel
theorem dX7_notes_23 : decode cX7_notes 23 = .ok (.aload_n 0, 1) := by decide +kernel
