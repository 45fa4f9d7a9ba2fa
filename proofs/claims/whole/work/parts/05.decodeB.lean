theorem dX9_init_0 : decode cX9_init 0 = .ok (.aload_n 0, 1) := by decide +kernel
theorem dX9_init_1 : decode cX9_init 1 = .ok (.invokespecial 1, 3) := by decide +kernel
theorem dX9_init_4 : decode cX9_init 4 = .ok (.aload_n 0, 1) := by decide +kernel
theorem dX9_init_5 : decode cX9_init 5 = .ok (.iconst 3, 1) := by decide +kernel
theorem dX9_init_6 : decode cX9_init 6 = .ok (.newarray .int, 2) := by decide +kernel
theorem dX9_init_8 : decode cX9_init 8 = .ok (.putfield 7, 3) := by decide +kernel
theorem dX9_init_11 : decode cX9_init 11 = .ok (.aload_n 0, 1) := by decide +kernel
theorem dX9_init_12 : decode cX9_init 12 = .ok (.bipush 8, 2) := by decide +kernel
theorem dX9_init_14 : decode cX9_init 14 = .ok (.newarray .int, 2) := by decide +kernel
theorem dX9_init_16 : decode cX9_init 16 = .ok (.putfield 13, 3) := by decide +kernel
theorem dX9_init_19 : decode cX9_init 19 = .ok (.aload_n 0, 1) := by decide +kernel
theorem dX9_init_20 : decode cX9_init 20 = .ok (.bipush 8, 2) := by decide +kernel
theorem dX9_init_22 : decode cX9_init 22 = .ok (.newarray .int, 2) := by decide +kernel
theorem dX9_init_24 : decode cX9_init 24 = .ok (.putfield 16, 3) := by decide +kernel
theorem dX9_init_27 : decode cX9_init 27 = .ok (.aload_n 0, 1) := by decide +kernel
theorem dX9_init_28 : decode cX9_init 28 = .ok (.bipush 8, 2) := by decide +kernel
theorem dX9_init_30 : decode cX9_init 30 = .ok (.newarray .int, 2) := by decide +kernel
theorem dX9_init_32 : decode cX9_init 32 = .ok (.putfield 19, 3) := by decide +kernel
theorem dX9_init_35 : decode cX9_init 35 = .ok (.aload_n 0, 1) := by decide +kernel
theorem dX9_init_36 : decode cX9_init 36 = .ok (.bipush 8, 2) := by decide +kernel
theorem dX9_init_38 : decode cX9_init 38 = .ok (.newarray .int, 2) := by decide +kernel
theorem dX9_init_40 : decode cX9_init 40 = .ok (.putfield 22, 3) := by decide +kernel
theorem dX9_init_43 : decode cX9_init 43 = .ok (.aload_n 0, 1) := by decide +kernel
theorem dX9_init_44 : decode cX9_init 44 = .ok (.bipush 8, 2) := by decide +kernel
theorem dX9_init_46 : decode cX9_init 46 = .ok (.newarray .int, 2) := by decide +kernel
theorem dX9_init_48 : decode cX9_init 48 = .ok (.putfield 25, 3) := by decide +kernel
theorem dX9_init_51 : decode cX9_init 51 = .ok (.aload_n 0, 1) := by decide +kernel
theorem dX9_init_52 : decode cX9_init 52 = .ok (.bipush 8, 2) := by decide +kernel
theorem dX9_init_54 : decode cX9_init 54 = .ok (.newarray .int, 2) := by decide +kernel
theorem dX9_init_56 : decode cX9_init 56 = .ok (.putfield 28, 3) := by decide +kernel
theorem dX9_init_59 : decode cX9_init 59 = .ok (.aload_n 0, 1) := by decide +kernel
theorem dX9_init_60 : decode cX9_init 60 = .ok (.bipush 8, 2) := by decide +kernel
theorem dX9_init_62 : decode cX9_init 62 = .ok (.newarray .int, 2) := by decide +kernel
theorem dX9_init_64 : decode cX9_init 64 = .ok (.putfield 31, 3) := by decide +kernel
theorem dX9_init_67 : decode cX9_init 67 = .ok (.aload_n 0, 1) := by decide +kernel
theorem dX9_init_68 : decode cX9_init 68 = .ok (.bipush 8, 2) := by decide +kernel
theorem dX9_init_70 : decode cX9_init 70 = .ok (.newarray .int, 2) := by decide +kernel
theorem dX9_init_72 : decode cX9_init 72 = .ok (.putfield 34, 3) := by decide +kernel
theorem dX9_init_75 : decode cX9_init 75 = .ok (.aload_n 0, 1) := by decide +kernel
theorem dX9_init_76 : decode cX9_init 76 = .ok (.sipush 250, 3) := by decide +kernel
theorem dX9_init_79 : decode cX9_init 79 = .ok (.newarray .int, 2) := by decide +kernel
theorem dX9_init_81 : decode cX9_init 81 = .ok (.putfield 37, 3) := by decide +kernel
theorem dX9_init_84 : decode cX9_init 84 = .ok (.aload_n 0, 1) := by decide +kernel
theorem dX9_init_85 : decode cX9_init 85 = .ok (.bipush 8, 2) := by decide +kernel
theorem dX9_init_87 : decode cX9_init 87 = .ok (.newarray .int, 2) := by decide +kernel
theorem dX9_init_89 : decode cX9_init 89 = .ok (.putfield 40, 3) := by decide +kernel
theorem dX9_init_92 : decode cX9_init 92 = .ok (.aload_n 0, 1) := by decide +kernel
theorem dX9_init_93 : decode cX9_init 93 = .ok (.bipush 8, 2) := by decide +kernel
theorem dX9_init_95 : decode cX9_init 95 = .ok (.newarray .int, 2) := by decide +kernel
theorem dX9_init_97 : decode cX9_init 97 = .ok (.putfield 43, 3) := by decide +kernel
theorem dX9_init_100 : decode cX9_init 100 = .ok (.aload_n 0, 1) := by decide +kernel
theorem dX9_init_101 : decode cX9_init 101 = .ok (.sipush 320, 3) := by decide +kernel
theorem dX9_init_104 : decode cX9_init 104 = .ok (.newarray .long, 2) := by decide +kernel
theorem dX9_init_106 : decode cX9_init 106 = .ok (.putfield 46, 3) := by decide +kernel
theorem dX9_init_109 : decode cX9_init 109 = .ok (.aload_n 0, 1) := by decide +kernel
theorem dX9_init_110 : decode cX9_init 110 = .ok (.bipush 7, 2) := by decide +kernel
theorem dX9_init_112 : decode cX9_init 112 = .ok (.newarray .int, 2) := by decide +kernel
theorem dX9_init_114 : decode cX9_init 114 = .ok (.putfield 50, 3) := by decide +kernel
theorem dX9_init_117 : decode cX9_init 117 = .ok (.aload_n 0, 1) := by decide +kernel
theorem dX9_init_118 : decode cX9_init 118 = .ok (.bipush 75, 2) := by decide +kernel
theorem dX9_init_120 : decode cX9_init 120 = .ok (.newarray .int, 2) := by decide +kernel
theorem dX9_init_122 : decode cX9_init 122 = .ok (.putfield 53, 3) := by decide +kernel
theorem dX9_init_125 : decode cX9_init 125 = .ok (.aload_n 0, 1) := by decide +kernel
theorem dX9_init_126 : decode cX9_init 126 = .ok (.bipush 75, 2) := by decide +kernel
theorem dX9_init_128 : decode cX9_init 128 = .ok (.newarray .int, 2) := by decide +kernel
theorem dX9_init_130 : decode cX9_init 130 = .ok (.putfield 56, 3) := by decide +kernel
theorem dX9_init_133 : decode cX9_init 133 = .ok (.aload_n 0, 1) := by decide +kernel
theorem dX9_init_134 : decode cX9_init 134 = .ok (.bipush 8, 2) := by decide +kernel
theorem dX9_init_136 : decode cX9_init 136 = .ok (.newarray .int, 2) := by decide +kernel
theorem dX9_init_138 : decode cX9_init 138 = .ok (.putfield 59, 3) := by decide +kernel
theorem dX9_init_141 : decode cX9_init 141 = .ok (.aload_n 0, 1) := by decide +kernel
theorem dX9_init_142 : decode cX9_init 142 = .ok (.bipush 8, 2) := by decide +kernel
theorem dX9_init_144 : decode cX9_init 144 = .ok (.newarray .int, 2) := by decide +kernel
theorem dX9_init_146 : decode cX9_init 146 = .ok (.putfield 62, 3) := by decide +kernel
theorem dX9_init_149 : decode cX9_init 149 = .ok (.aload_n 0, 1) := by decide +kernel
theorem dX9_init_150 : decode cX9_init 150 = .ok (.bipush 8, 2) := by decide +kernel
theorem dX9_init_152 : decode cX9_init 152 = .ok (.newarray .int, 2) := by decide +kernel
theorem dX9_init_154 : decode cX9_init 154 = .ok (.putfield 65, 3) := by decide +kernel
theorem dX9_init_157 : decode cX9_init 157 = .ok (.aload_n 0, 1) := by decide +kernel
theorem dX9_init_158 : decode cX9_init 158 = .ok (.bipush 8, 2) := by decide +kernel
theorem dX9_init_160 : decode cX9_init 160 = .ok (.newarray .int, 2) := by decide +kernel
theorem dX9_init_162 : decode cX9_init 162 = .ok (.putfield 68, 3) := by decide +kernel
theorem dX9_init_165 : decode cX9_init 165 = .ok (.aload_n 0, 1) := by decide +kernel
theorem dX9_init_166 : decode cX9_init 166 = .ok (.bipush 12, 2) := by decide +kernel
theorem dX9_init_168 : decode cX9_init 168 = .ok (.putfield 71, 3) := by decide +kernel
theorem dX9_init_171 : decode cX9_init 171 = .ok (.aload_n 0, 1) := by decide +kernel
theorem dX9_init_172 : decode cX9_init 172 = .ok (.getfield 7, 3) := by decide +kernel
theorem dX9_init_175 : decode cX9_init 175 = .ok (.iconst 0, 1) := by decide +kernel
theorem dX9_init_176 : decode cX9_init 176 = .ok (.iconst 5, 1) := by decide +kernel
theorem dX9_init_177 : decode cX9_init 177 = .ok (.iastore, 1) := by decide +kernel
theorem dX9_init_178 : decode cX9_init 178 = .ok (.aload_n 0, 1) := by decide +kernel
theorem dX9_init_179 : decode cX9_init 179 = .ok (.getfield 7, 3) := by decide +kernel
theorem dX9_init_182 : decode cX9_init 182 = .ok (.iconst 2, 1) := by decide +kernel
theorem dX9_init_183 : decode cX9_init 183 = .ok (.bipush 40, 2) := by decide +kernel
theorem dX9_init_185 : decode cX9_init 185 = .ok (.iastore, 1) := by decide +kernel
theorem dX9_init_186 : decode cX9_init 186 = .ok (.aload_n 0, 1) := by decide +kernel
theorem dX9_init_187 : decode cX9_init 187 = .ok (.iconst 1, 1) := by decide +kernel
theorem dX9_init_188 : decode cX9_init 188 = .ok (.putfield 75, 3) := by decide +kernel
theorem dX9_init_191 : decode cX9_init 191 = .ok (.iconst 0, 1) := by decide +kernel
theorem dX9_init_192 : decode cX9_init 192 = .ok (.istore_n 1, 1) := by decide +kernel
theorem dX9_init_193 : decode cX9_init 193 = .ok (.iload_n 1, 1) := by decide +kernel
theorem dX9_init_194 : decode cX9_init 194 = .ok (.bipush 8, 2) := by decide +kernel
theorem dX9_init_196 : decode cX9_init 196 = .ok (.if_icmp .ge 16, 3) := by decide +kernel
theorem dX9_init_199 : decode cX9_init 199 = .ok (.aload_n 0, 1) := by decide +kernel
theorem dX9_init_200 : decode cX9_init 200 = .ok (.getfield 40, 3) := by decide +kernel
theorem dX9_init_203 : decode cX9_init 203 = .ok (.iload_n 1, 1) := by decide +kernel
theorem dX9_init_204 : decode cX9_init 204 = .ok (.iconst (-1), 1) := by decide +kernel
theorem dX9_init_205 : decode cX9_init 205 = .ok (.iastore, 1) := by decide +kernel
theorem dX9_init_206 : decode cX9_init 206 = .ok (.iinc 1 1, 3) := by decide +kernel
theorem dX9_init_209 : decode cX9_init 209 = .ok (.goto (-16), 3) := by decide +kernel
theorem dX9_init_212 : decode cX9_init 212 = .ok (.return_, 1) := by decide +kernel
theorem dX9_no_0 : decode cX9_no 0 = .ok (.aload_n 0, 1) := by decide +kernel
theorem dX9_no_1 : decode cX9_no 1 = .ok (.getfield 50, 3) := by decide +kernel
theorem dX9_no_4 : decode cX9_no 4 = .ok (.iload_n 1, 1) := by decide +kernel
theorem dX9_no_5 : decode cX9_no 5 = .ok (.ineg, 1) := by decide +kernel
theorem dX9_no_6 : decode cX9_no 6 = .ok (.dup2, 1) := by decide +kernel
theorem dX9_no_7 : decode cX9_no 7 = .ok (.iaload, 1) := by decide +kernel
theorem dX9_no_8 : decode cX9_no 8 = .ok (.iconst 1, 1) := by decide +kernel
theorem dX9_no_9 : decode cX9_no 9 = .ok (.iadd, 1) := by decide +kernel
theorem dX9_no_10 : decode cX9_no 10 = .ok (.iastore, 1) := by decide +kernel
theorem dX9_no_11 : decode cX9_no 11 = .ok (.iload_n 1, 1) := by decide +kernel
theorem dX9_no_12 : decode cX9_no 12 = .ok (.ireturn, 1) := by decide +kernel
theorem dX9_within_0 : decode cX9_within 0 = .ok (.iload_n 0, 1) := by decide +kernel
theorem dX9_within_1 : decode cX9_within 1 = .ok (.iload_n 1, 1) := by decide +kernel
theorem dX9_within_2 : decode cX9_within 2 = .ok (.if_icmp .lt 12, 3) := by decide +kernel
theorem dX9_within_5 : decode cX9_within 5 = .ok (.iload_n 0, 1) := by decide +kernel
theorem dX9_within_6 : decode cX9_within 6 = .ok (.iload_n 2, 1) := by decide +kernel
theorem dX9_within_7 : decode cX9_within 7 = .ok (.if_icmp .gt 7, 3) := by decide +kernel
theorem dX9_within_10 : decode cX9_within 10 = .ok (.iconst 1, 1) := by decide +kernel
theorem dX9_within_11 : decode cX9_within 11 = .ok (.goto 4, 3) := by decide +kernel
theorem dX9_within_14 : decode cX9_within 14 = .ok (.iconst 0, 1) := by decide +kernel
theorem dX9_within_15 : decode cX9_within 15 = .ok (.ireturn, 1) := by decide +kernel
theorem dX9_isCell_0 : decode cX9_isCell 0 = .ok (.iload_n 1, 1) := by decide +kernel
theorem dX9_isCell_1 : decode cX9_isCell 1 = .ok (.iconst 0, 1) := by decide +kernel
theorem dX9_isCell_2 : decode cX9_isCell 2 = .ok (.aload_n 0, 1) := by decide +kernel
theorem dX9_isCell_3 : decode cX9_isCell 3 = .ok (.getfield 71, 3) := by decide +kernel
theorem dX9_isCell_6 : decode cX9_isCell 6 = .ok (.iconst 1, 1) := by decide +kernel
theorem dX9_isCell_7 : decode cX9_isCell 7 = .ok (.isub, 1) := by decide +kernel
theorem dX9_isCell_8 : decode cX9_isCell 8 = .ok (.invokestatic 78, 3) := by decide +kernel
theorem dX9_isCell_11 : decode cX9_isCell 11 = .ok (.ireturn, 1) := by decide +kernel
theorem dX9_isWindow_0 : decode cX9_isWindow 0 = .ok (.iload_n 1, 1) := by decide +kernel
theorem dX9_isWindow_1 : decode cX9_isWindow 1 = .ok (.iconst 0, 1) := by decide +kernel
theorem dX9_isWindow_2 : decode cX9_isWindow 2 = .ok (.aload_n 0, 1) := by decide +kernel
theorem dX9_isWindow_3 : decode cX9_isWindow 3 = .ok (.getfield 82, 3) := by decide +kernel
theorem dX9_isWindow_6 : decode cX9_isWindow 6 = .ok (.iconst 1, 1) := by decide +kernel
theorem dX9_isWindow_7 : decode cX9_isWindow 7 = .ok (.isub, 1) := by decide +kernel
theorem dX9_isWindow_8 : decode cX9_isWindow 8 = .ok (.invokestatic 78, 3) := by decide +kernel
theorem dX9_isWindow_11 : decode cX9_isWindow 11 = .ok (.ireturn, 1) := by decide +kernel
theorem dX9_isOne_0 : decode cX9_isOne 0 = .ok (.iload_n 1, 1) := by decide +kernel
theorem dX9_isOne_1 : decode cX9_isOne 1 = .ok (.iconst 0, 1) := by decide +kernel
theorem dX9_isOne_2 : decode cX9_isOne 2 = .ok (.aload_n 0, 1) := by decide +kernel
theorem dX9_isOne_3 : decode cX9_isOne 3 = .ok (.getfield 85, 3) := by decide +kernel
theorem dX9_isOne_6 : decode cX9_isOne 6 = .ok (.iconst 1, 1) := by decide +kernel
theorem dX9_isOne_7 : decode cX9_isOne 7 = .ok (.isub, 1) := by decide +kernel
theorem dX9_isOne_8 : decode cX9_isOne 8 = .ok (.invokestatic 78, 3) := by decide +kernel
theorem dX9_isOne_11 : decode cX9_isOne 11 = .ok (.ireturn, 1) := by decide +kernel
theorem dX9_isThrow_0 : decode cX9_isThrow 0 = .ok (.aload_n 0, 1) := by decide +kernel
theorem dX9_isThrow_1 : decode cX9_isThrow 1 = .ok (.iload_n 1, 1) := by decide +kernel
theorem dX9_isThrow_2 : decode cX9_isThrow 2 = .ok (.invokevirtual 88, 3) := by decide +kernel
theorem dX9_isThrow_5 : decode cX9_isThrow 5 = .ok (.ifCond .eq 26, 3) := by decide +kernel
theorem dX9_isThrow_8 : decode cX9_isThrow 8 = .ok (.iload_n 2, 1) := by decide +kernel
theorem dX9_isThrow_9 : decode cX9_isThrow 9 = .ok (.iconst 0, 1) := by decide +kernel
theorem dX9_isThrow_10 : decode cX9_isThrow 10 = .ok (.bipush 9, 2) := by decide +kernel
theorem dX9_isThrow_12 : decode cX9_isThrow 12 = .ok (.invokestatic 78, 3) := by decide +kernel
theorem dX9_isThrow_15 : decode cX9_isThrow 15 = .ok (.ifCond .eq 16, 3) := by decide +kernel
theorem dX9_isThrow_18 : decode cX9_isThrow 18 = .ok (.iload_n 3, 1) := by decide +kernel
theorem dX9_isThrow_19 : decode cX9_isThrow 19 = .ok (.iconst 0, 1) := by decide +kernel
theorem dX9_isThrow_20 : decode cX9_isThrow 20 = .ok (.iconst 2, 1) := by decide +kernel
theorem dX9_isThrow_21 : decode cX9_isThrow 21 = .ok (.invokestatic 78, 3) := by decide +kernel
theorem dX9_isThrow_24 : decode cX9_isThrow 24 = .ok (.ifCond .eq 7, 3) := by decide +kernel
theorem dX9_isThrow_27 : decode cX9_isThrow 27 = .ok (.iconst 1, 1) := by decide +kernel
theorem dX9_isThrow_28 : decode cX9_isThrow 28 = .ok (.goto 4, 3) := by decide +kernel
theorem dX9_isThrow_31 : decode cX9_isThrow 31 = .ok (.iconst 0, 1) := by decide +kernel
theorem dX9_isThrow_32 : decode cX9_isThrow 32 = .ok (.ireturn, 1) := by decide +kernel
theorem dX9_isShelf_0 : decode cX9_isShelf 0 = .ok (.iload_n 0, 1) := by decide +kernel
theorem dX9_isShelf_1 : decode cX9_isShelf 1 = .ok (.iconst 0, 1) := by decide +kernel
theorem dX9_isShelf_2 : decode cX9_isShelf 2 = .ok (.bipush 7, 2) := by decide +kernel
theorem dX9_isShelf_4 : decode cX9_isShelf 4 = .ok (.invokestatic 78, 3) := by decide +kernel
theorem dX9_isShelf_7 : decode cX9_isShelf 7 = .ok (.ireturn, 1) := by decide +kernel
theorem dX9_isRow_0 : decode cX9_isRow 0 = .ok (.aload_n 0, 1) := by decide +kernel
theorem dX9_isRow_1 : decode cX9_isRow 1 = .ok (.getfield 40, 3) := by decide +kernel
theorem dX9_isRow_4 : decode cX9_isRow 4 = .ok (.iload_n 1, 1) := by decide +kernel
theorem dX9_isRow_5 : decode cX9_isRow 5 = .ok (.iaload, 1) := by decide +kernel
theorem dX9_isRow_6 : decode cX9_isRow 6 = .ok (.iconst 0, 1) := by decide +kernel
theorem dX9_isRow_7 : decode cX9_isRow 7 = .ok (.iconst 4, 1) := by decide +kernel
theorem dX9_isRow_8 : decode cX9_isRow 8 = .ok (.invokestatic 78, 3) := by decide +kernel
theorem dX9_isRow_11 : decode cX9_isRow 11 = .ok (.ireturn, 1) := by decide +kernel
theorem dX9_row_0 : decode cX9_row 0 = .ok (.iload_n 1, 1) := by decide +kernel
theorem dX9_row_1 : decode cX9_row 1 = .ok (.invokestatic 92, 3) := by decide +kernel
theorem dX9_row_4 : decode cX9_row 4 = .ok (.ifCond .eq 22, 3) := by decide +kernel
theorem dX9_row_7 : decode cX9_row 7 = .ok (.iload_n 2, 1) := by decide +kernel
theorem dX9_row_8 : decode cX9_row 8 = .ok (.iconst 0, 1) := by decide +kernel
theorem dX9_row_9 : decode cX9_row 9 = .ok (.iconst 4, 1) := by decide +kernel
theorem dX9_row_10 : decode cX9_row 10 = .ok (.invokestatic 78, 3) := by decide +kernel
theorem dX9_row_13 : decode cX9_row 13 = .ok (.ifCond .eq 13, 3) := by decide +kernel
theorem dX9_row_16 : decode cX9_row 16 = .ok (.iload_n 3, 1) := by decide +kernel
theorem dX9_row_17 : decode cX9_row 17 = .ok (.iconst 0, 1) := by decide +kernel
theorem dX9_row_18 : decode cX9_row 18 = .ok (.bipush 40, 2) := by decide +kernel
theorem dX9_row_20 : decode cX9_row 20 = .ok (.invokestatic 78, 3) := by decide +kernel
theorem dX9_row_23 : decode cX9_row 23 = .ok (.ifCond .ne 10, 3) := by decide +kernel
theorem dX9_row_26 : decode cX9_row 26 = .ok (.aload_n 0, 1) := by decide +kernel
theorem dX9_row_27 : decode cX9_row 27 = .ok (.bipush (-2), 2) := by decide +kernel
theorem dX9_row_29 : decode cX9_row 29 = .ok (.invokevirtual 95, 3) := by decide +kernel
theorem dX9_row_32 : decode cX9_row 32 = .ok (.ireturn, 1) := by decide +kernel
theorem dX9_row_33 : decode cX9_row 33 = .ok (.aload_n 0, 1) := by decide +kernel
theorem dX9_row_34 : decode cX9_row 34 = .ok (.getfield 40, 3) := by decide +kernel
theorem dX9_row_37 : decode cX9_row 37 = .ok (.iload_n 1, 1) := by decide +kernel
theorem dX9_row_38 : decode cX9_row 38 = .ok (.iload_n 2, 1) := by decide +kernel
theorem dX9_row_39 : decode cX9_row 39 = .ok (.iastore, 1) := by decide +kernel
theorem dX9_row_40 : decode cX9_row 40 = .ok (.aload_n 0, 1) := by decide +kernel
theorem dX9_row_41 : decode cX9_row 41 = .ok (.getfield 43, 3) := by decide +kernel
theorem dX9_row_44 : decode cX9_row 44 = .ok (.iload_n 1, 1) := by decide +kernel
theorem dX9_row_45 : decode cX9_row 45 = .ok (.iload_n 3, 1) := by decide +kernel
theorem dX9_row_46 : decode cX9_row 46 = .ok (.iastore, 1) := by decide +kernel
theorem dX9_row_47 : decode cX9_row 47 = .ok (.iconst 0, 1) := by decide +kernel
theorem dX9_row_48 : decode cX9_row 48 = .ok (.istore 4, 2) := by decide +kernel
theorem dX9_row_50 : decode cX9_row 50 = .ok (.iload 4, 2) := by decide +kernel
theorem dX9_row_52 : decode cX9_row 52 = .ok (.bipush 40, 2) := by decide +kernel
theorem dX9_row_54 : decode cX9_row 54 = .ok (.if_icmp .ge 22, 3) := by decide +kernel
theorem dX9_row_57 : decode cX9_row 57 = .ok (.aload_n 0, 1) := by decide +kernel
theorem dX9_row_58 : decode cX9_row 58 = .ok (.getfield 46, 3) := by decide +kernel
theorem dX9_row_61 : decode cX9_row 61 = .ok (.bipush 40, 2) := by decide +kernel
theorem dX9_row_63 : decode cX9_row 63 = .ok (.iload_n 1, 1) := by decide +kernel
theorem dX9_row_64 : decode cX9_row 64 = .ok (.imul, 1) := by decide +kernel
theorem dX9_row_65 : decode cX9_row 65 = .ok (.iload 4, 2) := by decide +kernel
theorem dX9_row_67 : decode cX9_row 67 = .ok (.iadd, 1) := by decide +kernel
theorem dX9_row_68 : decode cX9_row 68 = .ok (.lconst 0, 1) := by decide +kernel
theorem dX9_row_69 : decode cX9_row 69 = .ok (.lastore, 1) := by decide +kernel
theorem dX9_row_70 : decode cX9_row 70 = .ok (.iinc 4 1, 3) := by decide +kernel
theorem dX9_row_73 : decode cX9_row 73 = .ok (.goto (-23), 3) := by decide +kernel
theorem dX9_row_76 : decode cX9_row 76 = .ok (.iconst 1, 1) := by decide +kernel
theorem dX9_row_77 : decode cX9_row 77 = .ok (.ireturn, 1) := by decide +kernel
theorem dX9_noRow_0 : decode cX9_noRow 0 = .ok (.aload_n 0, 1) := by decide +kernel
theorem dX9_noRow_1 : decode cX9_noRow 1 = .ok (.getfield 40, 3) := by decide +kernel
theorem dX9_noRow_4 : decode cX9_noRow 4 = .ok (.iload_n 1, 1) := by decide +kernel
theorem dX9_noRow_5 : decode cX9_noRow 5 = .ok (.iaload, 1) := by decide +kernel
theorem dX9_noRow_6 : decode cX9_noRow 6 = .ok (.bipush 10, 2) := by decide +kernel
theorem dX9_noRow_8 : decode cX9_noRow 8 = .ok (.if_icmp .lt 8, 3) := by decide +kernel
theorem dX9_noRow_11 : decode cX9_noRow 11 = .ok (.bipush (-3), 2) := by decide +kernel
theorem dX9_noRow_13 : decode cX9_noRow 13 = .ok (.goto 18, 3) := by decide +kernel
theorem dX9_noRow_16 : decode cX9_noRow 16 = .ok (.aload_n 0, 1) := by decide +kernel
theorem dX9_noRow_17 : decode cX9_noRow 17 = .ok (.getfield 40, 3) := by decide +kernel
theorem dX9_noRow_20 : decode cX9_noRow 20 = .ok (.iload_n 1, 1) := by decide +kernel
theorem dX9_noRow_21 : decode cX9_noRow 21 = .ok (.iaload, 1) := by decide +kernel
theorem dX9_noRow_22 : decode cX9_noRow 22 = .ok (.ifCond .ge 8, 3) := by decide +kernel
theorem dX9_noRow_25 : decode cX9_noRow 25 = .ok (.bipush (-4), 2) := by decide +kernel
theorem dX9_noRow_27 : decode cX9_noRow 27 = .ok (.goto 4, 3) := by decide +kernel
theorem dX9_noRow_30 : decode cX9_noRow 30 = .ok (.iconst 0, 1) := by decide +kernel
theorem dX9_noRow_31 : decode cX9_noRow 31 = .ok (.ireturn, 1) := by decide +kernel
theorem dX9_kept_0 : decode cX9_kept 0 = .ok (.iload_n 0, 1) := by decide +kernel
theorem dX9_kept_1 : decode cX9_kept 1 = .ok (.tableswitch 47 0 3 #[31, 36, 41, 45], 31) := by decide +kernel
theorem dX9_kept_32 : decode cX9_kept 32 = .ok (.lload_n 1, 1) := by decide +kernel
theorem dX9_kept_33 : decode cX9_kept 33 = .ok (.l2i, 1) := by decide +kernel
theorem dX9_kept_34 : decode cX9_kept 34 = .ok (.i2b, 1) := by decide +kernel
theorem dX9_kept_35 : decode cX9_kept 35 = .ok (.i2l, 1) := by decide +kernel
theorem dX9_kept_36 : decode cX9_kept 36 = .ok (.lreturn, 1) := by decide +kernel
theorem dX9_kept_37 : decode cX9_kept 37 = .ok (.lload_n 1, 1) := by decide +kernel
theorem dX9_kept_38 : decode cX9_kept 38 = .ok (.l2i, 1) := by decide +kernel
theorem dX9_kept_39 : decode cX9_kept 39 = .ok (.i2s, 1) := by decide +kernel
theorem dX9_kept_40 : decode cX9_kept 40 = .ok (.i2l, 1) := by decide +kernel
theorem dX9_kept_41 : decode cX9_kept 41 = .ok (.lreturn, 1) := by decide +kernel
theorem dX9_kept_42 : decode cX9_kept 42 = .ok (.lload_n 1, 1) := by decide +kernel
theorem dX9_kept_43 : decode cX9_kept 43 = .ok (.l2i, 1) := by decide +kernel
theorem dX9_kept_44 : decode cX9_kept 44 = .ok (.i2l, 1) := by decide +kernel
theorem dX9_kept_45 : decode cX9_kept 45 = .ok (.lreturn, 1) := by decide +kernel
theorem dX9_kept_46 : decode cX9_kept 46 = .ok (.lload_n 1, 1) := by decide +kernel
theorem dX9_kept_47 : decode cX9_kept 47 = .ok (.lreturn, 1) := by decide +kernel
theorem dX9_kept_48 : decode cX9_kept 48 = .ok (.lload_n 1, 1) := by decide +kernel
theorem dX9_kept_49 : decode cX9_kept 49 = .ok (.lconst 0, 1) := by decide +kernel
theorem dX9_kept_50 : decode cX9_kept 50 = .ok (.lcmp, 1) := by decide +kernel
theorem dX9_kept_51 : decode cX9_kept 51 = .ok (.ifCond .eq 7, 3) := by decide +kernel
theorem dX9_kept_54 : decode cX9_kept 54 = .ok (.lconst 1, 1) := by decide +kernel
theorem dX9_kept_55 : decode cX9_kept 55 = .ok (.goto 4, 3) := by decide +kernel
theorem dX9_kept_58 : decode cX9_kept 58 = .ok (.lconst 0, 1) := by decide +kernel
theorem dX9_kept_59 : decode cX9_kept 59 = .ok (.lreturn, 1) := by decide +kernel
theorem dX9_set_0 : decode cX9_set 0 = .ok (.iload_n 1, 1) := by decide +kernel
theorem dX9_set_1 : decode cX9_set 1 = .ok (.invokestatic 92, 3) := by decide +kernel
theorem dX9_set_4 : decode cX9_set 4 = .ok (.ifCond .ne 10, 3) := by decide +kernel
theorem dX9_set_7 : decode cX9_set 7 = .ok (.aload_n 0, 1) := by decide +kernel
theorem dX9_set_8 : decode cX9_set 8 = .ok (.bipush (-2), 2) := by decide +kernel
theorem dX9_set_10 : decode cX9_set 10 = .ok (.invokevirtual 95, 3) := by decide +kernel
theorem dX9_set_13 : decode cX9_set 13 = .ok (.ireturn, 1) := by decide +kernel
theorem dX9_set_14 : decode cX9_set 14 = .ok (.aload_n 0, 1) := by decide +kernel
theorem dX9_set_15 : decode cX9_set 15 = .ok (.iload_n 1, 1) := by decide +kernel
theorem dX9_set_16 : decode cX9_set 16 = .ok (.invokevirtual 99, 3) := by decide +kernel
theorem dX9_set_19 : decode cX9_set 19 = .ok (.ifCond .ne 13, 3) := by decide +kernel
theorem dX9_set_22 : decode cX9_set 22 = .ok (.aload_n 0, 1) := by decide +kernel
theorem dX9_set_23 : decode cX9_set 23 = .ok (.aload_n 0, 1) := by decide +kernel
theorem dX9_set_24 : decode cX9_set 24 = .ok (.iload_n 1, 1) := by decide +kernel
theorem dX9_set_25 : decode cX9_set 25 = .ok (.invokevirtual 102, 3) := by decide +kernel
theorem dX9_set_28 : decode cX9_set 28 = .ok (.invokevirtual 95, 3) := by decide +kernel
theorem dX9_set_31 : decode cX9_set 31 = .ok (.ireturn, 1) := by decide +kernel
theorem dX9_set_32 : decode cX9_set 32 = .ok (.iload_n 2, 1) := by decide +kernel
theorem dX9_set_33 : decode cX9_set 33 = .ok (.iconst 0, 1) := by decide +kernel
theorem dX9_set_34 : decode cX9_set 34 = .ok (.aload_n 0, 1) := by decide +kernel
theorem dX9_set_35 : decode cX9_set 35 = .ok (.getfield 43, 3) := by decide +kernel
theorem dX9_set_38 : decode cX9_set 38 = .ok (.iload_n 1, 1) := by decide +kernel
theorem dX9_set_39 : decode cX9_set 39 = .ok (.iaload, 1) := by decide +kernel
theorem dX9_set_40 : decode cX9_set 40 = .ok (.iconst 1, 1) := by decide +kernel
theorem dX9_set_41 : decode cX9_set 41 = .ok (.isub, 1) := by decide +kernel
theorem dX9_set_42 : decode cX9_set 42 = .ok (.invokestatic 78, 3) := by decide +kernel
theorem dX9_set_45 : decode cX9_set 45 = .ok (.ifCond .ne 10, 3) := by decide +kernel
theorem dX9_set_48 : decode cX9_set 48 = .ok (.aload_n 0, 1) := by decide +kernel
theorem dX9_set_49 : decode cX9_set 49 = .ok (.bipush (-2), 2) := by decide +kernel
theorem dX9_set_51 : decode cX9_set 51 = .ok (.invokevirtual 95, 3) := by decide +kernel
theorem dX9_set_54 : decode cX9_set 54 = .ok (.ireturn, 1) := by decide +kernel
theorem dX9_set_55 : decode cX9_set 55 = .ok (.aload_n 0, 1) := by decide +kernel
theorem dX9_set_56 : decode cX9_set 56 = .ok (.getfield 46, 3) := by decide +kernel
theorem dX9_set_59 : decode cX9_set 59 = .ok (.bipush 40, 2) := by decide +kernel
theorem dX9_set_61 : decode cX9_set 61 = .ok (.iload_n 1, 1) := by decide +kernel
theorem dX9_set_62 : decode cX9_set 62 = .ok (.imul, 1) := by decide +kernel
theorem dX9_set_63 : decode cX9_set 63 = .ok (.iload_n 2, 1) := by decide +kernel
theorem dX9_set_64 : decode cX9_set 64 = .ok (.iadd, 1) := by decide +kernel
theorem dX9_set_65 : decode cX9_set 65 = .ok (.aload_n 0, 1) := by decide +kernel
theorem dX9_set_66 : decode cX9_set 66 = .ok (.getfield 40, 3) := by decide +kernel
theorem dX9_set_69 : decode cX9_set 69 = .ok (.iload_n 1, 1) := by decide +kernel
theorem dX9_set_70 : decode cX9_set 70 = .ok (.iaload, 1) := by decide +kernel
theorem dX9_set_71 : decode cX9_set 71 = .ok (.lload_n 3, 1) := by decide +kernel
theorem dX9_set_72 : decode cX9_set 72 = .ok (.invokestatic 105, 3) := by decide +kernel
theorem dX9_set_75 : decode cX9_set 75 = .ok (.lastore, 1) := by decide +kernel
theorem dX9_set_76 : decode cX9_set 76 = .ok (.iconst 1, 1) := by decide +kernel
theorem dX9_set_77 : decode cX9_set 77 = .ok (.ireturn, 1) := by decide +kernel
theorem dX9_copy_0 : decode cX9_copy 0 = .ok (.iload_n 1, 1) := by decide +kernel
theorem dX9_copy_1 : decode cX9_copy 1 = .ok (.invokestatic 92, 3) := by decide +kernel
theorem dX9_copy_4 : decode cX9_copy 4 = .ok (.ifCond .eq 10, 3) := by decide +kernel
theorem dX9_copy_7 : decode cX9_copy 7 = .ok (.iload_n 2, 1) := by decide +kernel
theorem dX9_copy_8 : decode cX9_copy 8 = .ok (.invokestatic 92, 3) := by decide +kernel
theorem dX9_copy_11 : decode cX9_copy 11 = .ok (.ifCond .ne 10, 3) := by decide +kernel
theorem dX9_copy_14 : decode cX9_copy 14 = .ok (.aload_n 0, 1) := by decide +kernel
theorem dX9_copy_15 : decode cX9_copy 15 = .ok (.bipush (-2), 2) := by decide +kernel
theorem dX9_copy_17 : decode cX9_copy 17 = .ok (.invokevirtual 95, 3) := by decide +kernel
theorem dX9_copy_20 : decode cX9_copy 20 = .ok (.ireturn, 1) := by decide +kernel
theorem dX9_copy_21 : decode cX9_copy 21 = .ok (.aload_n 0, 1) := by decide +kernel
theorem dX9_copy_22 : decode cX9_copy 22 = .ok (.getfield 40, 3) := by decide +kernel
theorem dX9_copy_25 : decode cX9_copy 25 = .ok (.iload_n 1, 1) := by decide +kernel
theorem dX9_copy_26 : decode cX9_copy 26 = .ok (.iaload, 1) := by decide +kernel
theorem dX9_copy_27 : decode cX9_copy 27 = .ok (.bipush 10, 2) := by decide +kernel
theorem dX9_copy_29 : decode cX9_copy 29 = .ok (.if_icmp .ge 45, 3) := by decide +kernel
theorem dX9_copy_32 : decode cX9_copy 32 = .ok (.aload_n 0, 1) := by decide +kernel
theorem dX9_copy_33 : decode cX9_copy 33 = .ok (.getfield 40, 3) := by decide +kernel
theorem dX9_copy_36 : decode cX9_copy 36 = .ok (.iload_n 2, 1) := by decide +kernel
theorem dX9_copy_37 : decode cX9_copy 37 = .ok (.iaload, 1) := by decide +kernel
theorem dX9_copy_38 : decode cX9_copy 38 = .ok (.bipush 10, 2) := by decide +kernel
theorem dX9_copy_40 : decode cX9_copy 40 = .ok (.if_icmp .ge 34, 3) := by decide +kernel
theorem dX9_copy_43 : decode cX9_copy 43 = .ok (.aload_n 0, 1) := by decide +kernel
theorem dX9_copy_44 : decode cX9_copy 44 = .ok (.iload_n 1, 1) := by decide +kernel
theorem dX9_copy_45 : decode cX9_copy 45 = .ok (.invokevirtual 99, 3) := by decide +kernel
theorem dX9_copy_48 : decode cX9_copy 48 = .ok (.ifCond .eq 33, 3) := by decide +kernel
theorem dX9_copy_51 : decode cX9_copy 51 = .ok (.aload_n 0, 1) := by decide +kernel
theorem dX9_copy_52 : decode cX9_copy 52 = .ok (.iload_n 2, 1) := by decide +kernel
theorem dX9_copy_53 : decode cX9_copy 53 = .ok (.invokevirtual 99, 3) := by decide +kernel
theorem dX9_copy_56 : decode cX9_copy 56 = .ok (.ifCond .eq 25, 3) := by decide +kernel
theorem dX9_copy_59 : decode cX9_copy 59 = .ok (.aload_n 0, 1) := by decide +kernel
theorem dX9_copy_60 : decode cX9_copy 60 = .ok (.getfield 40, 3) := by decide +kernel
theorem dX9_copy_63 : decode cX9_copy 63 = .ok (.iload_n 1, 1) := by decide +kernel
theorem dX9_copy_64 : decode cX9_copy 64 = .ok (.iaload, 1) := by decide +kernel
theorem dX9_copy_65 : decode cX9_copy 65 = .ok (.aload_n 0, 1) := by decide +kernel
theorem dX9_copy_66 : decode cX9_copy 66 = .ok (.getfield 40, 3) := by decide +kernel
theorem dX9_copy_69 : decode cX9_copy 69 = .ok (.iload_n 2, 1) := by decide +kernel
theorem dX9_copy_70 : decode cX9_copy 70 = .ok (.iaload, 1) := by decide +kernel
theorem dX9_copy_71 : decode cX9_copy 71 = .ok (.if_icmp .eq 10, 3) := by decide +kernel
theorem dX9_copy_74 : decode cX9_copy 74 = .ok (.aload_n 0, 1) := by decide +kernel
theorem dX9_copy_75 : decode cX9_copy 75 = .ok (.bipush (-3), 2) := by decide +kernel
theorem dX9_copy_77 : decode cX9_copy 77 = .ok (.invokevirtual 95, 3) := by decide +kernel
theorem dX9_copy_80 : decode cX9_copy 80 = .ok (.ireturn, 1) := by decide +kernel
theorem dX9_copy_81 : decode cX9_copy 81 = .ok (.aload_n 0, 1) := by decide +kernel
theorem dX9_copy_82 : decode cX9_copy 82 = .ok (.getfield 40, 3) := by decide +kernel
theorem dX9_copy_85 : decode cX9_copy 85 = .ok (.iload_n 1, 1) := by decide +kernel
theorem dX9_copy_86 : decode cX9_copy 86 = .ok (.iaload, 1) := by decide +kernel
theorem dX9_copy_87 : decode cX9_copy 87 = .ok (.ifCond .lt 12, 3) := by decide +kernel
theorem dX9_copy_90 : decode cX9_copy 90 = .ok (.aload_n 0, 1) := by decide +kernel
theorem dX9_copy_91 : decode cX9_copy 91 = .ok (.getfield 40, 3) := by decide +kernel
theorem dX9_copy_94 : decode cX9_copy 94 = .ok (.iload_n 2, 1) := by decide +kernel
theorem dX9_copy_95 : decode cX9_copy 95 = .ok (.iaload, 1) := by decide +kernel
theorem dX9_copy_96 : decode cX9_copy 96 = .ok (.ifCond .ge 10, 3) := by decide +kernel
theorem dX9_copy_99 : decode cX9_copy 99 = .ok (.aload_n 0, 1) := by decide +kernel
theorem dX9_copy_100 : decode cX9_copy 100 = .ok (.bipush (-4), 2) := by decide +kernel
theorem dX9_copy_102 : decode cX9_copy 102 = .ok (.invokevirtual 95, 3) := by decide +kernel
theorem dX9_copy_105 : decode cX9_copy 105 = .ok (.ireturn, 1) := by decide +kernel
theorem dX9_copy_106 : decode cX9_copy 106 = .ok (.iload 5, 2) := by decide +kernel
theorem dX9_copy_108 : decode cX9_copy 108 = .ok (.ifCond .lt 47, 3) := by decide +kernel
theorem dX9_copy_111 : decode cX9_copy 111 = .ok (.iload_n 3, 1) := by decide +kernel
theorem dX9_copy_112 : decode cX9_copy 112 = .ok (.ifCond .lt 43, 3) := by decide +kernel
theorem dX9_copy_115 : decode cX9_copy 115 = .ok (.iload 4, 2) := by decide +kernel
theorem dX9_copy_117 : decode cX9_copy 117 = .ok (.ifCond .lt 38, 3) := by decide +kernel
theorem dX9_copy_120 : decode cX9_copy 120 = .ok (.iload_n 3, 1) := by decide +kernel
theorem dX9_copy_121 : decode cX9_copy 121 = .ok (.i2l, 1) := by decide +kernel
theorem dX9_copy_122 : decode cX9_copy 122 = .ok (.iload 5, 2) := by decide +kernel
theorem dX9_copy_124 : decode cX9_copy 124 = .ok (.i2l, 1) := by decide +kernel
theorem dX9_copy_125 : decode cX9_copy 125 = .ok (.ladd, 1) := by decide +kernel
theorem dX9_copy_126 : decode cX9_copy 126 = .ok (.aload_n 0, 1) := by decide +kernel
theorem dX9_copy_127 : decode cX9_copy 127 = .ok (.getfield 43, 3) := by decide +kernel
theorem dX9_copy_130 : decode cX9_copy 130 = .ok (.iload_n 1, 1) := by decide +kernel
theorem dX9_copy_131 : decode cX9_copy 131 = .ok (.iaload, 1) := by decide +kernel
theorem dX9_copy_132 : decode cX9_copy 132 = .ok (.i2l, 1) := by decide +kernel
theorem dX9_copy_133 : decode cX9_copy 133 = .ok (.lcmp, 1) := by decide +kernel
theorem dX9_copy_134 : decode cX9_copy 134 = .ok (.ifCond .gt 21, 3) := by decide +kernel
theorem dX9_copy_137 : decode cX9_copy 137 = .ok (.iload 4, 2) := by decide +kernel
theorem dX9_copy_139 : decode cX9_copy 139 = .ok (.i2l, 1) := by decide +kernel
theorem dX9_copy_140 : decode cX9_copy 140 = .ok (.iload 5, 2) := by decide +kernel
theorem dX9_copy_142 : decode cX9_copy 142 = .ok (.i2l, 1) := by decide +kernel
theorem dX9_copy_143 : decode cX9_copy 143 = .ok (.ladd, 1) := by decide +kernel
theorem dX9_copy_144 : decode cX9_copy 144 = .ok (.aload_n 0, 1) := by decide +kernel
theorem dX9_copy_145 : decode cX9_copy 145 = .ok (.getfield 43, 3) := by decide +kernel
theorem dX9_copy_148 : decode cX9_copy 148 = .ok (.iload_n 2, 1) := by decide +kernel
theorem dX9_copy_149 : decode cX9_copy 149 = .ok (.iaload, 1) := by decide +kernel
theorem dX9_copy_150 : decode cX9_copy 150 = .ok (.i2l, 1) := by decide +kernel
theorem dX9_copy_151 : decode cX9_copy 151 = .ok (.lcmp, 1) := by decide +kernel
theorem dX9_copy_152 : decode cX9_copy 152 = .ok (.ifCond .le 10, 3) := by decide +kernel
theorem dX9_copy_155 : decode cX9_copy 155 = .ok (.aload_n 0, 1) := by decide +kernel
theorem dX9_copy_156 : decode cX9_copy 156 = .ok (.bipush (-2), 2) := by decide +kernel
theorem dX9_copy_158 : decode cX9_copy 158 = .ok (.invokevirtual 95, 3) := by decide +kernel
theorem dX9_copy_161 : decode cX9_copy 161 = .ok (.ireturn, 1) := by decide +kernel
theorem dX9_copy_162 : decode cX9_copy 162 = .ok (.iload_n 1, 1) := by decide +kernel
theorem dX9_copy_163 : decode cX9_copy 163 = .ok (.iload_n 2, 1) := by decide +kernel
theorem dX9_copy_164 : decode cX9_copy 164 = .ok (.if_icmp .ne 58, 3) := by decide +kernel
theorem dX9_copy_167 : decode cX9_copy 167 = .ok (.iload_n 3, 1) := by decide +kernel
theorem dX9_copy_168 : decode cX9_copy 168 = .ok (.iload 4, 2) := by decide +kernel
theorem dX9_copy_170 : decode cX9_copy 170 = .ok (.if_icmp .ge 52, 3) := by decide +kernel
theorem dX9_copy_173 : decode cX9_copy 173 = .ok (.iload 5, 2) := by decide +kernel
theorem dX9_copy_175 : decode cX9_copy 175 = .ok (.iconst 1, 1) := by decide +kernel
theorem dX9_copy_176 : decode cX9_copy 176 = .ok (.isub, 1) := by decide +kernel
theorem dX9_copy_177 : decode cX9_copy 177 = .ok (.istore 6, 2) := by decide +kernel
theorem dX9_copy_179 : decode cX9_copy 179 = .ok (.iload 6, 2) := by decide +kernel
theorem dX9_copy_181 : decode cX9_copy 181 = .ok (.ifCond .lt 38, 3) := by decide +kernel
theorem dX9_copy_184 : decode cX9_copy 184 = .ok (.aload_n 0, 1) := by decide +kernel
theorem dX9_copy_185 : decode cX9_copy 185 = .ok (.getfield 46, 3) := by decide +kernel
theorem dX9_copy_188 : decode cX9_copy 188 = .ok (.bipush 40, 2) := by decide +kernel
theorem dX9_copy_190 : decode cX9_copy 190 = .ok (.iload_n 2, 1) := by decide +kernel
theorem dX9_copy_191 : decode cX9_copy 191 = .ok (.imul, 1) := by decide +kernel
theorem dX9_copy_192 : decode cX9_copy 192 = .ok (.iload 4, 2) := by decide +kernel
theorem dX9_copy_194 : decode cX9_copy 194 = .ok (.iadd, 1) := by decide +kernel
theorem dX9_copy_195 : decode cX9_copy 195 = .ok (.iload 6, 2) := by decide +kernel
theorem dX9_copy_197 : decode cX9_copy 197 = .ok (.iadd, 1) := by decide +kernel
theorem dX9_copy_198 : decode cX9_copy 198 = .ok (.aload_n 0, 1) := by decide +kernel
theorem dX9_copy_199 : decode cX9_copy 199 = .ok (.getfield 46, 3) := by decide +kernel
theorem dX9_copy_202 : decode cX9_copy 202 = .ok (.bipush 40, 2) := by decide +kernel
theorem dX9_copy_204 : decode cX9_copy 204 = .ok (.iload_n 1, 1) := by decide +kernel
theorem dX9_copy_205 : decode cX9_copy 205 = .ok (.imul, 1) := by decide +kernel
theorem dX9_copy_206 : decode cX9_copy 206 = .ok (.iload_n 3, 1) := by decide +kernel
theorem dX9_copy_207 : decode cX9_copy 207 = .ok (.iadd, 1) := by decide +kernel
theorem dX9_copy_208 : decode cX9_copy 208 = .ok (.iload 6, 2) := by decide +kernel
theorem dX9_copy_210 : decode cX9_copy 210 = .ok (.iadd, 1) := by decide +kernel
theorem dX9_copy_211 : decode cX9_copy 211 = .ok (.laload, 1) := by decide +kernel
theorem dX9_copy_212 : decode cX9_copy 212 = .ok (.lastore, 1) := by decide +kernel
theorem dX9_copy_213 : decode cX9_copy 213 = .ok (.iinc 6 (-1), 3) := by decide +kernel
theorem dX9_copy_216 : decode cX9_copy 216 = .ok (.goto (-37), 3) := by decide +kernel
theorem dX9_copy_219 : decode cX9_copy 219 = .ok (.goto 48, 3) := by decide +kernel
theorem dX9_copy_222 : decode cX9_copy 222 = .ok (.iconst 0, 1) := by decide +kernel
theorem dX9_copy_223 : decode cX9_copy 223 = .ok (.istore 6, 2) := by decide +kernel
theorem dX9_copy_225 : decode cX9_copy 225 = .ok (.iload 6, 2) := by decide +kernel
theorem dX9_copy_227 : decode cX9_copy 227 = .ok (.iload 5, 2) := by decide +kernel
theorem dX9_copy_229 : decode cX9_copy 229 = .ok (.if_icmp .ge 38, 3) := by decide +kernel
theorem dX9_copy_232 : decode cX9_copy 232 = .ok (.aload_n 0, 1) := by decide +kernel
theorem dX9_copy_233 : decode cX9_copy 233 = .ok (.getfield 46, 3) := by decide +kernel
theorem dX9_copy_236 : decode cX9_copy 236 = .ok (.bipush 40, 2) := by decide +kernel
theorem dX9_copy_238 : decode cX9_copy 238 = .ok (.iload_n 2, 1) := by decide +kernel
theorem dX9_copy_239 : decode cX9_copy 239 = .ok (.imul, 1) := by decide +kernel
theorem dX9_copy_240 : decode cX9_copy 240 = .ok (.iload 4, 2) := by decide +kernel
theorem dX9_copy_242 : decode cX9_copy 242 = .ok (.iadd, 1) := by decide +kernel
theorem dX9_copy_243 : decode cX9_copy 243 = .ok (.iload 6, 2) := by decide +kernel
theorem dX9_copy_245 : decode cX9_copy 245 = .ok (.iadd, 1) := by decide +kernel
theorem dX9_copy_246 : decode cX9_copy 246 = .ok (.aload_n 0, 1) := by decide +kernel
theorem dX9_copy_247 : decode cX9_copy 247 = .ok (.getfield 46, 3) := by decide +kernel
theorem dX9_copy_250 : decode cX9_copy 250 = .ok (.bipush 40, 2) := by decide +kernel
theorem dX9_copy_252 : decode cX9_copy 252 = .ok (.iload_n 1, 1) := by decide +kernel
theorem dX9_copy_253 : decode cX9_copy 253 = .ok (.imul, 1) := by decide +kernel
theorem dX9_copy_254 : decode cX9_copy 254 = .ok (.iload_n 3, 1) := by decide +kernel
theorem dX9_copy_255 : decode cX9_copy 255 = .ok (.iadd, 1) := by decide +kernel
theorem dX9_copy_256 : decode cX9_copy 256 = .ok (.iload 6, 2) := by decide +kernel
theorem dX9_copy_258 : decode cX9_copy 258 = .ok (.iadd, 1) := by decide +kernel
theorem dX9_copy_259 : decode cX9_copy 259 = .ok (.laload, 1) := by decide +kernel
theorem dX9_copy_260 : decode cX9_copy 260 = .ok (.lastore, 1) := by decide +kernel
theorem dX9_copy_261 : decode cX9_copy 261 = .ok (.iinc 6 1, 3) := by decide +kernel
theorem dX9_copy_264 : decode cX9_copy 264 = .ok (.goto (-39), 3) := by decide +kernel
theorem dX9_copy_267 : decode cX9_copy 267 = .ok (.iload 5, 2) := by decide +kernel
theorem dX9_copy_269 : decode cX9_copy 269 = .ok (.ireturn, 1) := by decide +kernel
theorem dX9_element_0 : decode cX9_element 0 = .ok (.iload_n 1, 1) := by decide +kernel
theorem dX9_element_1 : decode cX9_element 1 = .ok (.invokestatic 92, 3) := by decide +kernel
theorem dX9_element_4 : decode cX9_element 4 = .ok (.ifCond .eq 41, 3) := by decide +kernel
theorem dX9_element_7 : decode cX9_element 7 = .ok (.aload_n 0, 1) := by decide +kernel
theorem dX9_element_8 : decode cX9_element 8 = .ok (.iload_n 1, 1) := by decide +kernel
theorem dX9_element_9 : decode cX9_element 9 = .ok (.invokevirtual 99, 3) := by decide +kernel
theorem dX9_element_12 : decode cX9_element 12 = .ok (.ifCond .eq 33, 3) := by decide +kernel
theorem dX9_element_15 : decode cX9_element 15 = .ok (.iload_n 2, 1) := by decide +kernel
theorem dX9_element_16 : decode cX9_element 16 = .ok (.iconst 0, 1) := by decide +kernel
theorem dX9_element_17 : decode cX9_element 17 = .ok (.aload_n 0, 1) := by decide +kernel
theorem dX9_element_18 : decode cX9_element 18 = .ok (.getfield 43, 3) := by decide +kernel
theorem dX9_element_21 : decode cX9_element 21 = .ok (.iload_n 1, 1) := by decide +kernel
theorem dX9_element_22 : decode cX9_element 22 = .ok (.iaload, 1) := by decide +kernel
theorem dX9_element_23 : decode cX9_element 23 = .ok (.iconst 1, 1) := by decide +kernel
theorem dX9_element_24 : decode cX9_element 24 = .ok (.isub, 1) := by decide +kernel
theorem dX9_element_25 : decode cX9_element 25 = .ok (.invokestatic 78, 3) := by decide +kernel
theorem dX9_element_28 : decode cX9_element 28 = .ok (.ifCond .eq 17, 3) := by decide +kernel
theorem dX9_element_31 : decode cX9_element 31 = .ok (.aload_n 0, 1) := by decide +kernel
theorem dX9_element_32 : decode cX9_element 32 = .ok (.getfield 46, 3) := by decide +kernel
theorem dX9_element_35 : decode cX9_element 35 = .ok (.bipush 40, 2) := by decide +kernel
theorem dX9_element_37 : decode cX9_element 37 = .ok (.iload_n 1, 1) := by decide +kernel
theorem dX9_element_38 : decode cX9_element 38 = .ok (.imul, 1) := by decide +kernel
theorem dX9_element_39 : decode cX9_element 39 = .ok (.iload_n 2, 1) := by decide +kernel
theorem dX9_element_40 : decode cX9_element 40 = .ok (.iadd, 1) := by decide +kernel
theorem dX9_element_41 : decode cX9_element 41 = .ok (.laload, 1) := by decide +kernel
theorem dX9_element_42 : decode cX9_element 42 = .ok (.goto 4, 3) := by decide +kernel
theorem dX9_element_45 : decode cX9_element 45 = .ok (.lconst 0, 1) := by decide +kernel
theorem dX9_element_46 : decode cX9_element 46 = .ok (.lreturn, 1) := by decide +kernel
theorem dX9_holds_0 : decode cX9_holds 0 = .ok (.iload_n 1, 1) := by decide +kernel
theorem dX9_holds_1 : decode cX9_holds 1 = .ok (.invokestatic 92, 3) := by decide +kernel
theorem dX9_holds_4 : decode cX9_holds 4 = .ok (.ifCond .eq 12, 3) := by decide +kernel
theorem dX9_holds_7 : decode cX9_holds 7 = .ok (.aload_n 0, 1) := by decide +kernel
theorem dX9_holds_8 : decode cX9_holds 8 = .ok (.getfield 40, 3) := by decide +kernel
theorem dX9_holds_11 : decode cX9_holds 11 = .ok (.iload_n 1, 1) := by decide +kernel
theorem dX9_holds_12 : decode cX9_holds 12 = .ok (.iaload, 1) := by decide +kernel
theorem dX9_holds_13 : decode cX9_holds 13 = .ok (.goto 4, 3) := by decide +kernel
theorem dX9_holds_16 : decode cX9_holds 16 = .ok (.iconst (-1), 1) := by decide +kernel
theorem dX9_holds_17 : decode cX9_holds 17 = .ok (.ireturn, 1) := by decide +kernel
theorem dX9_show_0 : decode cX9_show 0 = .ok (.iload_n 1, 1) := by decide +kernel
theorem dX9_show_1 : decode cX9_show 1 = .ok (.invokestatic 92, 3) := by decide +kernel
theorem dX9_show_4 : decode cX9_show 4 = .ok (.ifCond .eq 16, 3) := by decide +kernel
theorem dX9_show_7 : decode cX9_show 7 = .ok (.iload_n 2, 1) := by decide +kernel
theorem dX9_show_8 : decode cX9_show 8 = .ok (.iconst (-1), 1) := by decide +kernel
theorem dX9_show_9 : decode cX9_show 9 = .ok (.if_icmp .eq 18, 3) := by decide +kernel
theorem dX9_show_12 : decode cX9_show 12 = .ok (.aload_n 0, 1) := by decide +kernel
theorem dX9_show_13 : decode cX9_show 13 = .ok (.iload_n 2, 1) := by decide +kernel
theorem dX9_show_14 : decode cX9_show 14 = .ok (.invokevirtual 109, 3) := by decide +kernel
theorem dX9_show_17 : decode cX9_show 17 = .ok (.ifCond .ne 10, 3) := by decide +kernel
theorem dX9_show_20 : decode cX9_show 20 = .ok (.aload_n 0, 1) := by decide +kernel
theorem dX9_show_21 : decode cX9_show 21 = .ok (.bipush (-2), 2) := by decide +kernel
theorem dX9_show_23 : decode cX9_show 23 = .ok (.invokevirtual 95, 3) := by decide +kernel
theorem dX9_show_26 : decode cX9_show 26 = .ok (.ireturn, 1) := by decide +kernel
theorem dX9_show_27 : decode cX9_show 27 = .ok (.aload_n 0, 1) := by decide +kernel
theorem dX9_show_28 : decode cX9_show 28 = .ok (.getfield 40, 3) := by decide +kernel
theorem dX9_show_31 : decode cX9_show 31 = .ok (.iload_n 1, 1) := by decide +kernel
theorem dX9_show_32 : decode cX9_show 32 = .ok (.iload_n 2, 1) := by decide +kernel
theorem dX9_show_33 : decode cX9_show 33 = .ok (.iconst (-1), 1) := by decide +kernel
theorem dX9_show_34 : decode cX9_show 34 = .ok (.if_icmp .ne 7, 3) := by decide +kernel
theorem dX9_show_37 : decode cX9_show 37 = .ok (.iconst (-1), 1) := by decide +kernel
theorem dX9_show_38 : decode cX9_show 38 = .ok (.goto 7, 3) := by decide +kernel
theorem dX9_show_41 : decode cX9_show 41 = .ok (.bipush 10, 2) := by decide +kernel
theorem dX9_show_43 : decode cX9_show 43 = .ok (.iload_n 2, 1) := by decide +kernel
theorem dX9_show_44 : decode cX9_show 44 = .ok (.iadd, 1) := by decide +kernel
theorem dX9_show_45 : decode cX9_show 45 = .ok (.iastore, 1) := by decide +kernel
theorem dX9_show_46 : decode cX9_show 46 = .ok (.iconst 1, 1) := by decide +kernel
theorem dX9_show_47 : decode cX9_show 47 = .ok (.ireturn, 1) := by decide +kernel
theorem dX9_isUnder_0 : decode cX9_isUnder 0 = .ok (.iload_n 1, 1) := by decide +kernel
theorem dX9_isUnder_1 : decode cX9_isUnder 1 = .ok (.ifCond .eq 28, 3) := by decide +kernel
theorem dX9_isUnder_4 : decode cX9_isUnder 4 = .ok (.iload_n 0, 1) := by decide +kernel
theorem dX9_isUnder_5 : decode cX9_isUnder 5 = .ok (.iload_n 1, 1) := by decide +kernel
theorem dX9_isUnder_6 : decode cX9_isUnder 6 = .ok (.if_icmp .eq 23, 3) := by decide +kernel
theorem dX9_isUnder_9 : decode cX9_isUnder 9 = .ok (.iload_n 0, 1) := by decide +kernel
theorem dX9_isUnder_10 : decode cX9_isUnder 10 = .ok (.iconst 3, 1) := by decide +kernel
theorem dX9_isUnder_11 : decode cX9_isUnder 11 = .ok (.if_icmp .ne 8, 3) := by decide +kernel
theorem dX9_isUnder_14 : decode cX9_isUnder 14 = .ok (.iload_n 1, 1) := by decide +kernel
theorem dX9_isUnder_15 : decode cX9_isUnder 15 = .ok (.iconst 1, 1) := by decide +kernel
theorem dX9_isUnder_16 : decode cX9_isUnder 16 = .ok (.if_icmp .eq 13, 3) := by decide +kernel
theorem dX9_isUnder_19 : decode cX9_isUnder 19 = .ok (.iload_n 0, 1) := by decide +kernel
theorem dX9_isUnder_20 : decode cX9_isUnder 20 = .ok (.iconst 4, 1) := by decide +kernel
theorem dX9_isUnder_21 : decode cX9_isUnder 21 = .ok (.if_icmp .ne 12, 3) := by decide +kernel
theorem dX9_isUnder_24 : decode cX9_isUnder 24 = .ok (.iload_n 1, 1) := by decide +kernel
theorem dX9_isUnder_25 : decode cX9_isUnder 25 = .ok (.iconst 2, 1) := by decide +kernel
theorem dX9_isUnder_26 : decode cX9_isUnder 26 = .ok (.if_icmp .ne 7, 3) := by decide +kernel
theorem dX9_isUnder_29 : decode cX9_isUnder 29 = .ok (.iconst 1, 1) := by decide +kernel
theorem dX9_isUnder_30 : decode cX9_isUnder 30 = .ok (.goto 4, 3) := by decide +kernel
theorem dX9_isUnder_33 : decode cX9_isUnder 33 = .ok (.iconst 0, 1) := by decide +kernel
theorem dX9_isUnder_34 : decode cX9_isUnder 34 = .ok (.ireturn, 1) := by decide +kernel
theorem dX9_says_0 : decode cX9_says 0 = .ok (.iload_n 1, 1) := by decide +kernel
theorem dX9_says_1 : decode cX9_says 1 = .ok (.invokestatic 92, 3) := by decide +kernel
theorem dX9_says_4 : decode cX9_says 4 = .ok (.ifCond .eq 12, 3) := by decide +kernel
theorem dX9_says_7 : decode cX9_says 7 = .ok (.iload_n 2, 1) := by decide +kernel
theorem dX9_says_8 : decode cX9_says 8 = .ok (.iconst 0, 1) := by decide +kernel
theorem dX9_says_9 : decode cX9_says 9 = .ok (.iconst 5, 1) := by decide +kernel
theorem dX9_says_10 : decode cX9_says 10 = .ok (.invokestatic 78, 3) := by decide +kernel
theorem dX9_says_13 : decode cX9_says 13 = .ok (.ifCond .ne 10, 3) := by decide +kernel
theorem dX9_says_16 : decode cX9_says 16 = .ok (.aload_n 0, 1) := by decide +kernel
theorem dX9_says_17 : decode cX9_says 17 = .ok (.bipush (-2), 2) := by decide +kernel
theorem dX9_says_19 : decode cX9_says 19 = .ok (.invokevirtual 95, 3) := by decide +kernel
theorem dX9_says_22 : decode cX9_says 22 = .ok (.ireturn, 1) := by decide +kernel
theorem dX9_says_23 : decode cX9_says 23 = .ok (.aload_n 0, 1) := by decide +kernel
theorem dX9_says_24 : decode cX9_says 24 = .ok (.iload_n 1, 1) := by decide +kernel
theorem dX9_says_25 : decode cX9_says 25 = .ok (.invokevirtual 99, 3) := by decide +kernel
theorem dX9_says_28 : decode cX9_says 28 = .ok (.ifCond .eq 10, 3) := by decide +kernel
theorem dX9_says_31 : decode cX9_says 31 = .ok (.aload_n 0, 1) := by decide +kernel
theorem dX9_says_32 : decode cX9_says 32 = .ok (.bipush (-3), 2) := by decide +kernel
theorem dX9_says_34 : decode cX9_says 34 = .ok (.invokevirtual 95, 3) := by decide +kernel
theorem dX9_says_37 : decode cX9_says 37 = .ok (.ireturn, 1) := by decide +kernel
theorem dX9_says_38 : decode cX9_says 38 = .ok (.aload_n 0, 1) := by decide +kernel
theorem dX9_says_39 : decode cX9_says 39 = .ok (.getfield 40, 3) := by decide +kernel
theorem dX9_says_42 : decode cX9_says 42 = .ok (.iload_n 1, 1) := by decide +kernel
theorem dX9_says_43 : decode cX9_says 43 = .ok (.iaload, 1) := by decide +kernel
theorem dX9_says_44 : decode cX9_says 44 = .ok (.ifCond .ge 10, 3) := by decide +kernel
theorem dX9_says_47 : decode cX9_says 47 = .ok (.aload_n 0, 1) := by decide +kernel
theorem dX9_says_48 : decode cX9_says 48 = .ok (.bipush (-4), 2) := by decide +kernel
theorem dX9_says_50 : decode cX9_says 50 = .ok (.invokevirtual 95, 3) := by decide +kernel
theorem dX9_says_53 : decode cX9_says 53 = .ok (.ireturn, 1) := by decide +kernel
theorem dX9_says_54 : decode cX9_says 54 = .ok (.aload_n 0, 1) := by decide +kernel
theorem dX9_says_55 : decode cX9_says 55 = .ok (.getfield 40, 3) := by decide +kernel
theorem dX9_says_58 : decode cX9_says 58 = .ok (.iload_n 1, 1) := by decide +kernel
theorem dX9_says_59 : decode cX9_says 59 = .ok (.iaload, 1) := by decide +kernel
theorem dX9_says_60 : decode cX9_says 60 = .ok (.bipush 10, 2) := by decide +kernel
theorem dX9_says_62 : decode cX9_says 62 = .ok (.isub, 1) := by decide +kernel
theorem dX9_says_63 : decode cX9_says 63 = .ok (.istore_n 3, 1) := by decide +kernel
theorem dX9_says_64 : decode cX9_says 64 = .ok (.aload_n 0, 1) := by decide +kernel
theorem dX9_says_65 : decode cX9_says 65 = .ok (.getfield 22, 3) := by decide +kernel
theorem dX9_says_68 : decode cX9_says 68 = .ok (.iload_n 3, 1) := by decide +kernel
theorem dX9_says_69 : decode cX9_says 69 = .ok (.iaload, 1) := by decide +kernel
theorem dX9_says_70 : decode cX9_says 70 = .ok (.iload_n 2, 1) := by decide +kernel
theorem dX9_says_71 : decode cX9_says 71 = .ok (.invokestatic 112, 3) := by decide +kernel
theorem dX9_says_74 : decode cX9_says 74 = .ok (.ifCond .ne 10, 3) := by decide +kernel
theorem dX9_says_77 : decode cX9_says 77 = .ok (.aload_n 0, 1) := by decide +kernel
theorem dX9_says_78 : decode cX9_says 78 = .ok (.bipush (-3), 2) := by decide +kernel
theorem dX9_says_80 : decode cX9_says 80 = .ok (.invokevirtual 95, 3) := by decide +kernel
theorem dX9_says_83 : decode cX9_says 83 = .ok (.ireturn, 1) := by decide +kernel
theorem dX9_says_84 : decode cX9_says 84 = .ok (.iload_n 2, 1) := by decide +kernel
theorem dX9_says_85 : decode cX9_says 85 = .ok (.ifCond .ne 12, 3) := by decide +kernel
theorem dX9_says_88 : decode cX9_says 88 = .ok (.aload_n 0, 1) := by decide +kernel
theorem dX9_says_89 : decode cX9_says 89 = .ok (.getfield 25, 3) := by decide +kernel
theorem dX9_says_92 : decode cX9_says 92 = .ok (.iload_n 3, 1) := by decide +kernel
theorem dX9_says_93 : decode cX9_says 93 = .ok (.iaload, 1) := by decide +kernel
theorem dX9_says_94 : decode cX9_says 94 = .ok (.goto 9, 3) := by decide +kernel
theorem dX9_says_97 : decode cX9_says 97 = .ok (.aload_n 0, 1) := by decide +kernel
theorem dX9_says_98 : decode cX9_says 98 = .ok (.iload_n 3, 1) := by decide +kernel
theorem dX9_says_99 : decode cX9_says 99 = .ok (.iconst 5, 1) := by decide +kernel
theorem dX9_says_100 : decode cX9_says 100 = .ok (.invokevirtual 116, 3) := by decide +kernel
theorem dX9_says_103 : decode cX9_says 103 = .ok (.ireturn, 1) := by decide +kernel
theorem dX9_paves_0 : decode cX9_paves 0 = .ok (.iload_n 1, 1) := by decide +kernel
theorem dX9_paves_1 : decode cX9_paves 1 = .ok (.aload_n 0, 1) := by decide +kernel
theorem dX9_paves_2 : decode cX9_paves 2 = .ok (.getfield 71, 3) := by decide +kernel
theorem dX9_paves_5 : decode cX9_paves 5 = .ok (.bipush 30, 2) := by decide +kernel
theorem dX9_paves_7 : decode cX9_paves 7 = .ok (.invokestatic 78, 3) := by decide +kernel
theorem dX9_paves_10 : decode cX9_paves 10 = .ok (.ifCond .ne 10, 3) := by decide +kernel
theorem dX9_paves_13 : decode cX9_paves 13 = .ok (.aload_n 0, 1) := by decide +kernel
theorem dX9_paves_14 : decode cX9_paves 14 = .ok (.bipush (-2), 2) := by decide +kernel
theorem dX9_paves_16 : decode cX9_paves 16 = .ok (.invokevirtual 95, 3) := by decide +kernel
theorem dX9_paves_19 : decode cX9_paves 19 = .ok (.ireturn, 1) := by decide +kernel
theorem dX9_paves_20 : decode cX9_paves 20 = .ok (.aload_n 0, 1) := by decide +kernel
theorem dX9_paves_21 : decode cX9_paves 21 = .ok (.getfield 71, 3) := by decide +kernel
theorem dX9_paves_24 : decode cX9_paves 24 = .ok (.istore_n 2, 1) := by decide +kernel
theorem dX9_paves_25 : decode cX9_paves 25 = .ok (.aload_n 0, 1) := by decide +kernel
theorem dX9_paves_26 : decode cX9_paves 26 = .ok (.iload_n 1, 1) := by decide +kernel
theorem dX9_paves_27 : decode cX9_paves 27 = .ok (.putfield 71, 3) := by decide +kernel
theorem dX9_paves_30 : decode cX9_paves 30 = .ok (.iload_n 2, 1) := by decide +kernel
theorem dX9_paves_31 : decode cX9_paves 31 = .ok (.ireturn, 1) := by decide +kernel
theorem dX9_newWindow_0 : decode cX9_newWindow 0 = .ok (.aload_n 0, 1) := by decide +kernel
theorem dX9_newWindow_1 : decode cX9_newWindow 1 = .ok (.getfield 13, 3) := by decide +kernel
theorem dX9_newWindow_4 : decode cX9_newWindow 4 = .ok (.aload_n 0, 1) := by decide +kernel
theorem dX9_newWindow_5 : decode cX9_newWindow 5 = .ok (.getfield 82, 3) := by decide +kernel
theorem dX9_newWindow_8 : decode cX9_newWindow 8 = .ok (.iload_n 1, 1) := by decide +kernel
theorem dX9_newWindow_9 : decode cX9_newWindow 9 = .ok (.iastore, 1) := by decide +kernel
theorem dX9_newWindow_10 : decode cX9_newWindow 10 = .ok (.aload_n 0, 1) := by decide +kernel
theorem dX9_newWindow_11 : decode cX9_newWindow 11 = .ok (.getfield 16, 3) := by decide +kernel
theorem dX9_newWindow_14 : decode cX9_newWindow 14 = .ok (.aload_n 0, 1) := by decide +kernel
theorem dX9_newWindow_15 : decode cX9_newWindow 15 = .ok (.getfield 82, 3) := by decide +kernel
theorem dX9_newWindow_18 : decode cX9_newWindow 18 = .ok (.iload_n 2, 1) := by decide +kernel
theorem dX9_newWindow_19 : decode cX9_newWindow 19 = .ok (.iastore, 1) := by decide +kernel
theorem dX9_newWindow_20 : decode cX9_newWindow 20 = .ok (.aload_n 0, 1) := by decide +kernel
theorem dX9_newWindow_21 : decode cX9_newWindow 21 = .ok (.getfield 19, 3) := by decide +kernel
theorem dX9_newWindow_24 : decode cX9_newWindow 24 = .ok (.aload_n 0, 1) := by decide +kernel
theorem dX9_newWindow_25 : decode cX9_newWindow 25 = .ok (.getfield 82, 3) := by decide +kernel
theorem dX9_newWindow_28 : decode cX9_newWindow 28 = .ok (.iload_n 3, 1) := by decide +kernel
theorem dX9_newWindow_29 : decode cX9_newWindow 29 = .ok (.iastore, 1) := by decide +kernel
theorem dX9_newWindow_30 : decode cX9_newWindow 30 = .ok (.aload_n 0, 1) := by decide +kernel
theorem dX9_newWindow_31 : decode cX9_newWindow 31 = .ok (.dup, 1) := by decide +kernel
theorem dX9_newWindow_32 : decode cX9_newWindow 32 = .ok (.getfield 82, 3) := by decide +kernel
theorem dX9_newWindow_35 : decode cX9_newWindow 35 = .ok (.dup_x1, 1) := by decide +kernel
theorem dX9_newWindow_36 : decode cX9_newWindow 36 = .ok (.iconst 1, 1) := by decide +kernel
theorem dX9_newWindow_37 : decode cX9_newWindow 37 = .ok (.iadd, 1) := by decide +kernel
theorem dX9_newWindow_38 : decode cX9_newWindow 38 = .ok (.putfield 82, 3) := by decide +kernel
theorem dX9_newWindow_41 : decode cX9_newWindow 41 = .ok (.ireturn, 1) := by decide +kernel
theorem dX9_window_0 : decode cX9_window 0 = .ok (.aload_n 0, 1) := by decide +kernel
theorem dX9_window_1 : decode cX9_window 1 = .ok (.iload_n 1, 1) := by decide +kernel
theorem dX9_window_2 : decode cX9_window 2 = .ok (.invokevirtual 120, 3) := by decide +kernel
theorem dX9_window_5 : decode cX9_window 5 = .ok (.ifCond .eq 22, 3) := by decide +kernel
theorem dX9_window_8 : decode cX9_window 8 = .ok (.iload_n 2, 1) := by decide +kernel
theorem dX9_window_9 : decode cX9_window 9 = .ok (.iconst 1, 1) := by decide +kernel
theorem dX9_window_10 : decode cX9_window 10 = .ok (.iconst 5, 1) := by decide +kernel
theorem dX9_window_11 : decode cX9_window 11 = .ok (.invokestatic 78, 3) := by decide +kernel
theorem dX9_window_14 : decode cX9_window 14 = .ok (.ifCond .eq 13, 3) := by decide +kernel
theorem dX9_window_17 : decode cX9_window 17 = .ok (.iload_n 3, 1) := by decide +kernel
theorem dX9_window_18 : decode cX9_window 18 = .ok (.iconst 0, 1) := by decide +kernel
theorem dX9_window_19 : decode cX9_window 19 = .ok (.bipush 9, 2) := by decide +kernel
theorem dX9_window_21 : decode cX9_window 21 = .ok (.invokestatic 78, 3) := by decide +kernel
theorem dX9_window_24 : decode cX9_window 24 = .ok (.ifCond .ne 10, 3) := by decide +kernel
theorem dX9_window_27 : decode cX9_window 27 = .ok (.aload_n 0, 1) := by decide +kernel
theorem dX9_window_28 : decode cX9_window 28 = .ok (.bipush (-2), 2) := by decide +kernel
theorem dX9_window_30 : decode cX9_window 30 = .ok (.invokevirtual 95, 3) := by decide +kernel
theorem dX9_window_33 : decode cX9_window 33 = .ok (.ireturn, 1) := by decide +kernel
theorem dX9_window_34 : decode cX9_window 34 = .ok (.aload_n 0, 1) := by decide +kernel
theorem dX9_window_35 : decode cX9_window 35 = .ok (.getfield 82, 3) := by decide +kernel
theorem dX9_window_38 : decode cX9_window 38 = .ok (.bipush 8, 2) := by decide +kernel
theorem dX9_window_40 : decode cX9_window 40 = .ok (.if_icmp .ne 12, 3) := by decide +kernel
theorem dX9_window_43 : decode cX9_window 43 = .ok (.aload_n 0, 1) := by decide +kernel
theorem dX9_window_44 : decode cX9_window 44 = .ok (.bipush (-6), 2) := by decide +kernel
theorem dX9_window_46 : decode cX9_window 46 = .ok (.invokevirtual 95, 3) := by decide +kernel
theorem dX9_window_49 : decode cX9_window 49 = .ok (.goto 10, 3) := by decide +kernel
theorem dX9_window_52 : decode cX9_window 52 = .ok (.aload_n 0, 1) := by decide +kernel
theorem dX9_window_53 : decode cX9_window 53 = .ok (.iload_n 1, 1) := by decide +kernel
theorem dX9_window_54 : decode cX9_window 54 = .ok (.iload_n 2, 1) := by decide +kernel
theorem dX9_window_55 : decode cX9_window 55 = .ok (.iload_n 3, 1) := by decide +kernel
theorem dX9_window_56 : decode cX9_window 56 = .ok (.invokevirtual 123, 3) := by decide +kernel
theorem dX9_window_59 : decode cX9_window 59 = .ok (.ireturn, 1) := by decide +kernel
theorem dX9_newOne_0 : decode cX9_newOne 0 = .ok (.aload_n 0, 1) := by decide +kernel
theorem dX9_newOne_1 : decode cX9_newOne 1 = .ok (.getfield 22, 3) := by decide +kernel
theorem dX9_newOne_4 : decode cX9_newOne 4 = .ok (.aload_n 0, 1) := by decide +kernel
theorem dX9_newOne_5 : decode cX9_newOne 5 = .ok (.getfield 85, 3) := by decide +kernel
theorem dX9_newOne_8 : decode cX9_newOne 8 = .ok (.iload_n 1, 1) := by decide +kernel
theorem dX9_newOne_9 : decode cX9_newOne 9 = .ok (.iastore, 1) := by decide +kernel
theorem dX9_newOne_10 : decode cX9_newOne 10 = .ok (.aload_n 0, 1) := by decide +kernel
theorem dX9_newOne_11 : decode cX9_newOne 11 = .ok (.getfield 25, 3) := by decide +kernel
theorem dX9_newOne_14 : decode cX9_newOne 14 = .ok (.aload_n 0, 1) := by decide +kernel
theorem dX9_newOne_15 : decode cX9_newOne 15 = .ok (.getfield 85, 3) := by decide +kernel
theorem dX9_newOne_18 : decode cX9_newOne 18 = .ok (.iload_n 2, 1) := by decide +kernel
theorem dX9_newOne_19 : decode cX9_newOne 19 = .ok (.iastore, 1) := by decide +kernel
theorem dX9_newOne_20 : decode cX9_newOne 20 = .ok (.aload_n 0, 1) := by decide +kernel
theorem dX9_newOne_21 : decode cX9_newOne 21 = .ok (.getfield 28, 3) := by decide +kernel
theorem dX9_newOne_24 : decode cX9_newOne 24 = .ok (.aload_n 0, 1) := by decide +kernel
theorem dX9_newOne_25 : decode cX9_newOne 25 = .ok (.getfield 85, 3) := by decide +kernel
theorem dX9_newOne_28 : decode cX9_newOne 28 = .ok (.iload_n 3, 1) := by decide +kernel
theorem dX9_newOne_29 : decode cX9_newOne 29 = .ok (.iastore, 1) := by decide +kernel
theorem dX9_newOne_30 : decode cX9_newOne 30 = .ok (.aload_n 0, 1) := by decide +kernel
theorem dX9_newOne_31 : decode cX9_newOne 31 = .ok (.getfield 31, 3) := by decide +kernel
theorem dX9_newOne_34 : decode cX9_newOne 34 = .ok (.aload_n 0, 1) := by decide +kernel
theorem dX9_newOne_35 : decode cX9_newOne 35 = .ok (.getfield 85, 3) := by decide +kernel
theorem dX9_newOne_38 : decode cX9_newOne 38 = .ok (.iconst (-1), 1) := by decide +kernel
theorem dX9_newOne_39 : decode cX9_newOne 39 = .ok (.iastore, 1) := by decide +kernel
theorem dX9_newOne_40 : decode cX9_newOne 40 = .ok (.aload_n 0, 1) := by decide +kernel
theorem dX9_newOne_41 : decode cX9_newOne 41 = .ok (.getfield 34, 3) := by decide +kernel
theorem dX9_newOne_44 : decode cX9_newOne 44 = .ok (.aload_n 0, 1) := by decide +kernel
theorem dX9_newOne_45 : decode cX9_newOne 45 = .ok (.getfield 85, 3) := by decide +kernel
theorem dX9_newOne_48 : decode cX9_newOne 48 = .ok (.iconst (-1), 1) := by decide +kernel
theorem dX9_newOne_49 : decode cX9_newOne 49 = .ok (.iastore, 1) := by decide +kernel
theorem dX9_newOne_50 : decode cX9_newOne 50 = .ok (.aload_n 0, 1) := by decide +kernel
theorem dX9_newOne_51 : decode cX9_newOne 51 = .ok (.dup, 1) := by decide +kernel
theorem dX9_newOne_52 : decode cX9_newOne 52 = .ok (.getfield 85, 3) := by decide +kernel
theorem dX9_newOne_55 : decode cX9_newOne 55 = .ok (.dup_x1, 1) := by decide +kernel
theorem dX9_newOne_56 : decode cX9_newOne 56 = .ok (.iconst 1, 1) := by decide +kernel
theorem dX9_newOne_57 : decode cX9_newOne 57 = .ok (.iadd, 1) := by decide +kernel
theorem dX9_newOne_58 : decode cX9_newOne 58 = .ok (.putfield 85, 3) := by decide +kernel
theorem dX9_newOne_61 : decode cX9_newOne 61 = .ok (.ireturn, 1) := by decide +kernel
theorem dX9_person_0 : decode cX9_person 0 = .ok (.iload_n 1, 1) := by decide +kernel
theorem dX9_person_1 : decode cX9_person 1 = .ok (.iconst 0, 1) := by decide +kernel
theorem dX9_person_2 : decode cX9_person 2 = .ok (.iconst 5, 1) := by decide +kernel
theorem dX9_person_3 : decode cX9_person 3 = .ok (.invokestatic 78, 3) := by decide +kernel
theorem dX9_person_6 : decode cX9_person 6 = .ok (.ifCond .eq 21, 3) := by decide +kernel
theorem dX9_person_9 : decode cX9_person 9 = .ok (.iload_n 2, 1) := by decide +kernel
theorem dX9_person_10 : decode cX9_person 10 = .ok (.iconst 0, 1) := by decide +kernel
theorem dX9_person_11 : decode cX9_person 11 = .ok (.bipush 9, 2) := by decide +kernel
theorem dX9_person_13 : decode cX9_person 13 = .ok (.invokestatic 78, 3) := by decide +kernel
theorem dX9_person_16 : decode cX9_person 16 = .ok (.ifCond .eq 11, 3) := by decide +kernel
theorem dX9_person_19 : decode cX9_person 19 = .ok (.aload_n 0, 1) := by decide +kernel
theorem dX9_person_20 : decode cX9_person 20 = .ok (.iload_n 3, 1) := by decide +kernel
theorem dX9_person_21 : decode cX9_person 21 = .ok (.invokevirtual 120, 3) := by decide +kernel
theorem dX9_person_24 : decode cX9_person 24 = .ok (.ifCond .ne 10, 3) := by decide +kernel
theorem dX9_person_27 : decode cX9_person 27 = .ok (.aload_n 0, 1) := by decide +kernel
theorem dX9_person_28 : decode cX9_person 28 = .ok (.bipush (-2), 2) := by decide +kernel
theorem dX9_person_30 : decode cX9_person 30 = .ok (.invokevirtual 95, 3) := by decide +kernel
theorem dX9_person_33 : decode cX9_person 33 = .ok (.ireturn, 1) := by decide +kernel
theorem dX9_person_34 : decode cX9_person 34 = .ok (.aload_n 0, 1) := by decide +kernel
theorem dX9_person_35 : decode cX9_person 35 = .ok (.getfield 85, 3) := by decide +kernel
theorem dX9_person_38 : decode cX9_person 38 = .ok (.bipush 8, 2) := by decide +kernel
theorem dX9_person_40 : decode cX9_person 40 = .ok (.if_icmp .ne 12, 3) := by decide +kernel
theorem dX9_person_43 : decode cX9_person 43 = .ok (.aload_n 0, 1) := by decide +kernel
theorem dX9_person_44 : decode cX9_person 44 = .ok (.bipush (-6), 2) := by decide +kernel
theorem dX9_person_46 : decode cX9_person 46 = .ok (.invokevirtual 95, 3) := by decide +kernel
theorem dX9_person_49 : decode cX9_person 49 = .ok (.goto 10, 3) := by decide +kernel
theorem dX9_person_52 : decode cX9_person 52 = .ok (.aload_n 0, 1) := by decide +kernel
theorem dX9_person_53 : decode cX9_person 53 = .ok (.iload_n 1, 1) := by decide +kernel
theorem dX9_person_54 : decode cX9_person 54 = .ok (.iload_n 2, 1) := by decide +kernel
theorem dX9_person_55 : decode cX9_person 55 = .ok (.iload_n 3, 1) := by decide +kernel
theorem dX9_person_56 : decode cX9_person 56 = .ok (.invokevirtual 127, 3) := by decide +kernel
theorem dX9_person_59 : decode cX9_person 59 = .ok (.ireturn, 1) := by decide +kernel
theorem dX9_put_0 : decode cX9_put 0 = .ok (.aload_n 0, 1) := by decide +kernel
theorem dX9_put_1 : decode cX9_put 1 = .ok (.iload_n 1, 1) := by decide +kernel
theorem dX9_put_2 : decode cX9_put 2 = .ok (.invokevirtual 109, 3) := by decide +kernel
theorem dX9_put_5 : decode cX9_put 5 = .ok (.ifCond .eq 11, 3) := by decide +kernel
theorem dX9_put_8 : decode cX9_put 8 = .ok (.aload_n 0, 1) := by decide +kernel
theorem dX9_put_9 : decode cX9_put 9 = .ok (.iload_n 2, 1) := by decide +kernel
theorem dX9_put_10 : decode cX9_put 10 = .ok (.invokevirtual 120, 3) := by decide +kernel
theorem dX9_put_13 : decode cX9_put 13 = .ok (.ifCond .ne 10, 3) := by decide +kernel
theorem dX9_put_16 : decode cX9_put 16 = .ok (.aload_n 0, 1) := by decide +kernel
theorem dX9_put_17 : decode cX9_put 17 = .ok (.bipush (-2), 2) := by decide +kernel
theorem dX9_put_19 : decode cX9_put 19 = .ok (.invokevirtual 95, 3) := by decide +kernel
theorem dX9_put_22 : decode cX9_put 22 = .ok (.ireturn, 1) := by decide +kernel
theorem dX9_put_23 : decode cX9_put 23 = .ok (.aload_n 0, 1) := by decide +kernel
theorem dX9_put_24 : decode cX9_put 24 = .ok (.getfield 28, 3) := by decide +kernel
theorem dX9_put_27 : decode cX9_put 27 = .ok (.iload_n 1, 1) := by decide +kernel
theorem dX9_put_28 : decode cX9_put 28 = .ok (.iaload, 1) := by decide +kernel
theorem dX9_put_29 : decode cX9_put 29 = .ok (.istore_n 3, 1) := by decide +kernel
theorem dX9_put_30 : decode cX9_put 30 = .ok (.aload_n 0, 1) := by decide +kernel
theorem dX9_put_31 : decode cX9_put 31 = .ok (.getfield 28, 3) := by decide +kernel
theorem dX9_put_34 : decode cX9_put 34 = .ok (.iload_n 1, 1) := by decide +kernel
theorem dX9_put_35 : decode cX9_put 35 = .ok (.iload_n 2, 1) := by decide +kernel
theorem dX9_put_36 : decode cX9_put 36 = .ok (.iastore, 1) := by decide +kernel
theorem dX9_put_37 : decode cX9_put 37 = .ok (.iload_n 3, 1) := by decide +kernel
theorem dX9_put_38 : decode cX9_put 38 = .ok (.ireturn, 1) := by decide +kernel
theorem dX9_tell_0 : decode cX9_tell 0 = .ok (.iload_n 1, 1) := by decide +kernel
theorem dX9_tell_1 : decode cX9_tell 1 = .ok (.iconst 0, 1) := by decide +kernel
theorem dX9_tell_2 : decode cX9_tell 2 = .ok (.iconst 2, 1) := by decide +kernel
theorem dX9_tell_3 : decode cX9_tell 3 = .ok (.invokestatic 78, 3) := by decide +kernel
theorem dX9_tell_6 : decode cX9_tell 6 = .ok (.ifCond .eq 23, 3) := by decide +kernel
theorem dX9_tell_9 : decode cX9_tell 9 = .ok (.iload_n 2, 1) := by decide +kernel
theorem dX9_tell_10 : decode cX9_tell 10 = .ok (.iconst 0, 1) := by decide +kernel
theorem dX9_tell_11 : decode cX9_tell 11 = .ok (.iload_n 1, 1) := by decide +kernel
theorem dX9_tell_12 : decode cX9_tell 12 = .ok (.ifCond .ne 8, 3) := by decide +kernel
theorem dX9_tell_15 : decode cX9_tell 15 = .ok (.bipush 10, 2) := by decide +kernel
theorem dX9_tell_17 : decode cX9_tell 17 = .ok (.goto 6, 3) := by decide +kernel
theorem dX9_tell_20 : decode cX9_tell 20 = .ok (.sipush 999, 3) := by decide +kernel
theorem dX9_tell_23 : decode cX9_tell 23 = .ok (.invokestatic 78, 3) := by decide +kernel
theorem dX9_tell_26 : decode cX9_tell 26 = .ok (.ifCond .ne 10, 3) := by decide +kernel
theorem dX9_tell_29 : decode cX9_tell 29 = .ok (.aload_n 0, 1) := by decide +kernel
theorem dX9_tell_30 : decode cX9_tell 30 = .ok (.bipush (-2), 2) := by decide +kernel
theorem dX9_tell_32 : decode cX9_tell 32 = .ok (.invokevirtual 95, 3) := by decide +kernel
theorem dX9_tell_35 : decode cX9_tell 35 = .ok (.ireturn, 1) := by decide +kernel
theorem dX9_tell_36 : decode cX9_tell 36 = .ok (.aload_n 0, 1) := by decide +kernel
theorem dX9_tell_37 : decode cX9_tell 37 = .ok (.getfield 7, 3) := by decide +kernel
theorem dX9_tell_40 : decode cX9_tell 40 = .ok (.iload_n 1, 1) := by decide +kernel
theorem dX9_tell_41 : decode cX9_tell 41 = .ok (.iaload, 1) := by decide +kernel
theorem dX9_tell_42 : decode cX9_tell 42 = .ok (.istore_n 3, 1) := by decide +kernel
theorem dX9_tell_43 : decode cX9_tell 43 = .ok (.aload_n 0, 1) := by decide +kernel
theorem dX9_tell_44 : decode cX9_tell 44 = .ok (.getfield 7, 3) := by decide +kernel
theorem dX9_tell_47 : decode cX9_tell 47 = .ok (.iload_n 1, 1) := by decide +kernel
theorem dX9_tell_48 : decode cX9_tell 48 = .ok (.iload_n 2, 1) := by decide +kernel
theorem dX9_tell_49 : decode cX9_tell 49 = .ok (.iastore, 1) := by decide +kernel
theorem dX9_tell_50 : decode cX9_tell 50 = .ok (.iload_n 3, 1) := by decide +kernel
theorem dX9_tell_51 : decode cX9_tell 51 = .ok (.ireturn, 1) := by decide +kernel
theorem dX9_feed_0 : decode cX9_feed 0 = .ok (.iload_n 1, 1) := by decide +kernel
theorem dX9_feed_1 : decode cX9_feed 1 = .ok (.iconst 0, 1) := by decide +kernel
theorem dX9_feed_2 : decode cX9_feed 2 = .ok (.sipush 255, 3) := by decide +kernel
theorem dX9_feed_5 : decode cX9_feed 5 = .ok (.invokestatic 78, 3) := by decide +kernel
theorem dX9_feed_8 : decode cX9_feed 8 = .ok (.ifCond .ne 10, 3) := by decide +kernel
theorem dX9_feed_11 : decode cX9_feed 11 = .ok (.aload_n 0, 1) := by decide +kernel
theorem dX9_feed_12 : decode cX9_feed 12 = .ok (.bipush (-2), 2) := by decide +kernel
theorem dX9_feed_14 : decode cX9_feed 14 = .ok (.invokevirtual 95, 3) := by decide +kernel
theorem dX9_feed_17 : decode cX9_feed 17 = .ok (.ireturn, 1) := by decide +kernel
theorem dX9_feed_18 : decode cX9_feed 18 = .ok (.aload_n 0, 1) := by decide +kernel
theorem dX9_feed_19 : decode cX9_feed 19 = .ok (.getfield 130, 3) := by decide +kernel
theorem dX9_feed_22 : decode cX9_feed 22 = .ok (.sipush 250, 3) := by decide +kernel
theorem dX9_feed_25 : decode cX9_feed 25 = .ok (.if_icmp .ne 10, 3) := by decide +kernel
theorem dX9_feed_28 : decode cX9_feed 28 = .ok (.aload_n 0, 1) := by decide +kernel
theorem dX9_feed_29 : decode cX9_feed 29 = .ok (.bipush (-6), 2) := by decide +kernel
theorem dX9_feed_31 : decode cX9_feed 31 = .ok (.invokevirtual 95, 3) := by decide +kernel
theorem dX9_feed_34 : decode cX9_feed 34 = .ok (.ireturn, 1) := by decide +kernel
theorem dX9_feed_35 : decode cX9_feed 35 = .ok (.aload_n 0, 1) := by decide +kernel
theorem dX9_feed_36 : decode cX9_feed 36 = .ok (.getfield 37, 3) := by decide +kernel
theorem dX9_feed_39 : decode cX9_feed 39 = .ok (.aload_n 0, 1) := by decide +kernel
theorem dX9_feed_40 : decode cX9_feed 40 = .ok (.dup, 1) := by decide +kernel
theorem dX9_feed_41 : decode cX9_feed 41 = .ok (.getfield 130, 3) := by decide +kernel
theorem dX9_feed_44 : decode cX9_feed 44 = .ok (.dup_x1, 1) := by decide +kernel
theorem dX9_feed_45 : decode cX9_feed 45 = .ok (.iconst 1, 1) := by decide +kernel
theorem dX9_feed_46 : decode cX9_feed 46 = .ok (.iadd, 1) := by decide +kernel
theorem dX9_feed_47 : decode cX9_feed 47 = .ok (.putfield 130, 3) := by decide +kernel
theorem dX9_feed_50 : decode cX9_feed 50 = .ok (.iload_n 1, 1) := by decide +kernel
theorem dX9_feed_51 : decode cX9_feed 51 = .ok (.iastore, 1) := by decide +kernel
theorem dX9_feed_52 : decode cX9_feed 52 = .ok (.aload_n 0, 1) := by decide +kernel
theorem dX9_feed_53 : decode cX9_feed 53 = .ok (.getfield 130, 3) := by decide +kernel
theorem dX9_feed_56 : decode cX9_feed 56 = .ok (.ireturn, 1) := by decide +kernel
theorem dX9_wipe_0 : decode cX9_wipe 0 = .ok (.aload_n 0, 1) := by decide +kernel
theorem dX9_wipe_1 : decode cX9_wipe 1 = .ok (.getfield 130, 3) := by decide +kernel
theorem dX9_wipe_4 : decode cX9_wipe 4 = .ok (.istore_n 1, 1) := by decide +kernel
theorem dX9_wipe_5 : decode cX9_wipe 5 = .ok (.aload_n 0, 1) := by decide +kernel
theorem dX9_wipe_6 : decode cX9_wipe 6 = .ok (.iconst 0, 1) := by decide +kernel
theorem dX9_wipe_7 : decode cX9_wipe 7 = .ok (.putfield 130, 3) := by decide +kernel
theorem dX9_wipe_10 : decode cX9_wipe 10 = .ok (.iload_n 1, 1) := by decide +kernel
theorem dX9_wipe_11 : decode cX9_wipe 11 = .ok (.ireturn, 1) := by decide +kernel
theorem dX9_isLetter_0 : decode cX9_isLetter 0 = .ok (.iload_n 0, 1) := by decide +kernel
theorem dX9_isLetter_1 : decode cX9_isLetter 1 = .ok (.bipush 97, 2) := by decide +kernel
theorem dX9_isLetter_3 : decode cX9_isLetter 3 = .ok (.if_icmp .lt 13, 3) := by decide +kernel
theorem dX9_isLetter_6 : decode cX9_isLetter 6 = .ok (.iload_n 0, 1) := by decide +kernel
theorem dX9_isLetter_7 : decode cX9_isLetter 7 = .ok (.bipush 122, 2) := by decide +kernel
theorem dX9_isLetter_9 : decode cX9_isLetter 9 = .ok (.if_icmp .gt 7, 3) := by decide +kernel
theorem dX9_isLetter_12 : decode cX9_isLetter 12 = .ok (.iconst 1, 1) := by decide +kernel
theorem dX9_isLetter_13 : decode cX9_isLetter 13 = .ok (.goto 4, 3) := by decide +kernel
theorem dX9_isLetter_16 : decode cX9_isLetter 16 = .ok (.iconst 0, 1) := by decide +kernel
theorem dX9_isLetter_17 : decode cX9_isLetter 17 = .ok (.ireturn, 1) := by decide +kernel
theorem dX9_isDigit_0 : decode cX9_isDigit 0 = .ok (.iload_n 0, 1) := by decide +kernel
theorem dX9_isDigit_1 : decode cX9_isDigit 1 = .ok (.bipush 48, 2) := by decide +kernel
theorem dX9_isDigit_3 : decode cX9_isDigit 3 = .ok (.if_icmp .lt 13, 3) := by decide +kernel
theorem dX9_isDigit_6 : decode cX9_isDigit 6 = .ok (.iload_n 0, 1) := by decide +kernel
theorem dX9_isDigit_7 : decode cX9_isDigit 7 = .ok (.bipush 57, 2) := by decide +kernel
theorem dX9_isDigit_9 : decode cX9_isDigit 9 = .ok (.if_icmp .gt 7, 3) := by decide +kernel
theorem dX9_isDigit_12 : decode cX9_isDigit 12 = .ok (.iconst 1, 1) := by decide +kernel
theorem dX9_isDigit_13 : decode cX9_isDigit 13 = .ok (.goto 4, 3) := by decide +kernel
theorem dX9_isDigit_16 : decode cX9_isDigit 16 = .ok (.iconst 0, 1) := by decide +kernel
theorem dX9_isDigit_17 : decode cX9_isDigit 17 = .ok (.ireturn, 1) := by decide +kernel
theorem dX9_next_0 : decode cX9_next 0 = .ok (.aload_n 0, 1) := by decide +kernel
theorem dX9_next_1 : decode cX9_next 1 = .ok (.aload_n 0, 1) := by decide +kernel
theorem dX9_next_2 : decode cX9_next 2 = .ok (.getfield 133, 3) := by decide +kernel
theorem dX9_next_5 : decode cX9_next 5 = .ok (.putfield 136, 3) := by decide +kernel
theorem dX9_next_8 : decode cX9_next 8 = .ok (.aload_n 0, 1) := by decide +kernel
theorem dX9_next_9 : decode cX9_next 9 = .ok (.getfield 136, 3) := by decide +kernel
theorem dX9_next_12 : decode cX9_next 12 = .ok (.aload_n 0, 1) := by decide +kernel
theorem dX9_next_13 : decode cX9_next 13 = .ok (.getfield 130, 3) := by decide +kernel
theorem dX9_next_16 : decode cX9_next 16 = .ok (.if_icmp .ge 30, 3) := by decide +kernel
theorem dX9_next_19 : decode cX9_next 19 = .ok (.aload_n 0, 1) := by decide +kernel
theorem dX9_next_20 : decode cX9_next 20 = .ok (.getfield 37, 3) := by decide +kernel
theorem dX9_next_23 : decode cX9_next 23 = .ok (.aload_n 0, 1) := by decide +kernel
theorem dX9_next_24 : decode cX9_next 24 = .ok (.getfield 136, 3) := by decide +kernel
theorem dX9_next_27 : decode cX9_next 27 = .ok (.iaload, 1) := by decide +kernel
theorem dX9_next_28 : decode cX9_next 28 = .ok (.bipush 32, 2) := by decide +kernel
theorem dX9_next_30 : decode cX9_next 30 = .ok (.if_icmp .ne 16, 3) := by decide +kernel
theorem dX9_next_33 : decode cX9_next 33 = .ok (.aload_n 0, 1) := by decide +kernel
theorem dX9_next_34 : decode cX9_next 34 = .ok (.dup, 1) := by decide +kernel
theorem dX9_next_35 : decode cX9_next 35 = .ok (.getfield 136, 3) := by decide +kernel
theorem dX9_next_38 : decode cX9_next 38 = .ok (.iconst 1, 1) := by decide +kernel
theorem dX9_next_39 : decode cX9_next 39 = .ok (.iadd, 1) := by decide +kernel
theorem dX9_next_40 : decode cX9_next 40 = .ok (.putfield 136, 3) := by decide +kernel
theorem dX9_next_43 : decode cX9_next 43 = .ok (.goto (-35), 3) := by decide +kernel
theorem dX9_next_46 : decode cX9_next 46 = .ok (.aload_n 0, 1) := by decide +kernel
theorem dX9_next_47 : decode cX9_next 47 = .ok (.aload_n 0, 1) := by decide +kernel
theorem dX9_next_48 : decode cX9_next 48 = .ok (.getfield 136, 3) := by decide +kernel
theorem dX9_next_51 : decode cX9_next 51 = .ok (.putfield 133, 3) := by decide +kernel
theorem dX9_next_54 : decode cX9_next 54 = .ok (.aload_n 0, 1) := by decide +kernel
theorem dX9_next_55 : decode cX9_next 55 = .ok (.getfield 136, 3) := by decide +kernel
theorem dX9_next_58 : decode cX9_next 58 = .ok (.aload_n 0, 1) := by decide +kernel
theorem dX9_next_59 : decode cX9_next 59 = .ok (.getfield 130, 3) := by decide +kernel
theorem dX9_next_62 : decode cX9_next 62 = .ok (.if_icmp .ne 10, 3) := by decide +kernel
theorem dX9_next_65 : decode cX9_next 65 = .ok (.aload_n 0, 1) := by decide +kernel
theorem dX9_next_66 : decode cX9_next 66 = .ok (.bipush 101, 2) := by decide +kernel
theorem dX9_next_68 : decode cX9_next 68 = .ok (.putfield 139, 3) := by decide +kernel
theorem dX9_next_71 : decode cX9_next 71 = .ok (.return_, 1) := by decide +kernel
theorem dX9_next_72 : decode cX9_next 72 = .ok (.aload_n 0, 1) := by decide +kernel
theorem dX9_next_73 : decode cX9_next 73 = .ok (.getfield 37, 3) := by decide +kernel
theorem dX9_next_76 : decode cX9_next 76 = .ok (.aload_n 0, 1) := by decide +kernel
theorem dX9_next_77 : decode cX9_next 77 = .ok (.dup, 1) := by decide +kernel
theorem dX9_next_78 : decode cX9_next 78 = .ok (.getfield 133, 3) := by decide +kernel
theorem dX9_next_81 : decode cX9_next 81 = .ok (.dup_x1, 1) := by decide +kernel
theorem dX9_next_82 : decode cX9_next 82 = .ok (.iconst 1, 1) := by decide +kernel
theorem dX9_next_83 : decode cX9_next 83 = .ok (.iadd, 1) := by decide +kernel
theorem dX9_next_84 : decode cX9_next 84 = .ok (.putfield 133, 3) := by decide +kernel
theorem dX9_next_87 : decode cX9_next 87 = .ok (.iaload, 1) := by decide +kernel
theorem dX9_next_88 : decode cX9_next 88 = .ok (.istore_n 1, 1) := by decide +kernel
theorem dX9_next_89 : decode cX9_next 89 = .ok (.iload_n 1, 1) := by decide +kernel
theorem dX9_next_90 : decode cX9_next 90 = .ok (.invokestatic 142, 3) := by decide +kernel
theorem dX9_next_93 : decode cX9_next 93 = .ok (.ifCond .eq 51, 3) := by decide +kernel
theorem dX9_next_96 : decode cX9_next 96 = .ok (.aload_n 0, 1) := by decide +kernel
theorem dX9_next_97 : decode cX9_next 97 = .ok (.getfield 133, 3) := by decide +kernel
theorem dX9_next_100 : decode cX9_next 100 = .ok (.aload_n 0, 1) := by decide +kernel
theorem dX9_next_101 : decode cX9_next 101 = .ok (.getfield 130, 3) := by decide +kernel
theorem dX9_next_104 : decode cX9_next 104 = .ok (.if_icmp .ge 31, 3) := by decide +kernel
theorem dX9_next_107 : decode cX9_next 107 = .ok (.aload_n 0, 1) := by decide +kernel
theorem dX9_next_108 : decode cX9_next 108 = .ok (.getfield 37, 3) := by decide +kernel
theorem dX9_next_111 : decode cX9_next 111 = .ok (.aload_n 0, 1) := by decide +kernel
theorem dX9_next_112 : decode cX9_next 112 = .ok (.getfield 133, 3) := by decide +kernel
theorem dX9_next_115 : decode cX9_next 115 = .ok (.iaload, 1) := by decide +kernel
theorem dX9_next_116 : decode cX9_next 116 = .ok (.invokestatic 142, 3) := by decide +kernel
theorem dX9_next_119 : decode cX9_next 119 = .ok (.ifCond .eq 16, 3) := by decide +kernel
theorem dX9_next_122 : decode cX9_next 122 = .ok (.aload_n 0, 1) := by decide +kernel
theorem dX9_next_123 : decode cX9_next 123 = .ok (.dup, 1) := by decide +kernel
theorem dX9_next_124 : decode cX9_next 124 = .ok (.getfield 133, 3) := by decide +kernel
theorem dX9_next_127 : decode cX9_next 127 = .ok (.iconst 1, 1) := by decide +kernel
theorem dX9_next_128 : decode cX9_next 128 = .ok (.iadd, 1) := by decide +kernel
theorem dX9_next_129 : decode cX9_next 129 = .ok (.putfield 133, 3) := by decide +kernel
theorem dX9_next_132 : decode cX9_next 132 = .ok (.goto (-36), 3) := by decide +kernel
theorem dX9_next_135 : decode cX9_next 135 = .ok (.aload_n 0, 1) := by decide +kernel
theorem dX9_next_136 : decode cX9_next 136 = .ok (.bipush 119, 2) := by decide +kernel
theorem dX9_next_138 : decode cX9_next 138 = .ok (.putfield 139, 3) := by decide +kernel
theorem dX9_next_141 : decode cX9_next 141 = .ok (.goto 138, 3) := by decide +kernel
theorem dX9_next_144 : decode cX9_next 144 = .ok (.iload_n 1, 1) := by decide +kernel
theorem dX9_next_145 : decode cX9_next 145 = .ok (.invokestatic 145, 3) := by decide +kernel
theorem dX9_next_148 : decode cX9_next 148 = .ok (.ifCond .eq 114, 3) := by decide +kernel
theorem dX9_next_151 : decode cX9_next 151 = .ok (.aload_n 0, 1) := by decide +kernel
theorem dX9_next_152 : decode cX9_next 152 = .ok (.iload_n 1, 1) := by decide +kernel
theorem dX9_next_153 : decode cX9_next 153 = .ok (.bipush 48, 2) := by decide +kernel
theorem dX9_next_155 : decode cX9_next 155 = .ok (.isub, 1) := by decide +kernel
theorem dX9_next_156 : decode cX9_next 156 = .ok (.putfield 148, 3) := by decide +kernel
theorem dX9_next_159 : decode cX9_next 159 = .ok (.aload_n 0, 1) := by decide +kernel
theorem dX9_next_160 : decode cX9_next 160 = .ok (.getfield 133, 3) := by decide +kernel
theorem dX9_next_163 : decode cX9_next 163 = .ok (.aload_n 0, 1) := by decide +kernel
theorem dX9_next_164 : decode cX9_next 164 = .ok (.getfield 130, 3) := by decide +kernel
theorem dX9_next_167 : decode cX9_next 167 = .ok (.if_icmp .ge 68, 3) := by decide +kernel
theorem dX9_next_170 : decode cX9_next 170 = .ok (.aload_n 0, 1) := by decide +kernel
theorem dX9_next_171 : decode cX9_next 171 = .ok (.getfield 37, 3) := by decide +kernel
theorem dX9_next_174 : decode cX9_next 174 = .ok (.aload_n 0, 1) := by decide +kernel
theorem dX9_next_175 : decode cX9_next 175 = .ok (.getfield 133, 3) := by decide +kernel
theorem dX9_next_178 : decode cX9_next 178 = .ok (.iaload, 1) := by decide +kernel
theorem dX9_next_179 : decode cX9_next 179 = .ok (.invokestatic 145, 3) := by decide +kernel
theorem dX9_next_182 : decode cX9_next 182 = .ok (.ifCond .eq 53, 3) := by decide +kernel
theorem dX9_next_185 : decode cX9_next 185 = .ok (.aload_n 0, 1) := by decide +kernel
theorem dX9_next_186 : decode cX9_next 186 = .ok (.getfield 133, 3) := by decide +kernel
theorem dX9_next_189 : decode cX9_next 189 = .ok (.aload_n 0, 1) := by decide +kernel
theorem dX9_next_190 : decode cX9_next 190 = .ok (.getfield 136, 3) := by decide +kernel
theorem dX9_next_193 : decode cX9_next 193 = .ok (.isub, 1) := by decide +kernel
theorem dX9_next_194 : decode cX9_next 194 = .ok (.iconst 3, 1) := by decide +kernel
theorem dX9_next_195 : decode cX9_next 195 = .ok (.if_icmp .ge 27, 3) := by decide +kernel
theorem dX9_next_198 : decode cX9_next 198 = .ok (.aload_n 0, 1) := by decide +kernel
theorem dX9_next_199 : decode cX9_next 199 = .ok (.bipush 10, 2) := by decide +kernel
theorem dX9_next_201 : decode cX9_next 201 = .ok (.aload_n 0, 1) := by decide +kernel
theorem dX9_next_202 : decode cX9_next 202 = .ok (.getfield 148, 3) := by decide +kernel
theorem dX9_next_205 : decode cX9_next 205 = .ok (.imul, 1) := by decide +kernel
theorem dX9_next_206 : decode cX9_next 206 = .ok (.aload_n 0, 1) := by decide +kernel
theorem dX9_next_207 : decode cX9_next 207 = .ok (.getfield 37, 3) := by decide +kernel
theorem dX9_next_210 : decode cX9_next 210 = .ok (.aload_n 0, 1) := by decide +kernel
theorem dX9_next_211 : decode cX9_next 211 = .ok (.getfield 133, 3) := by decide +kernel
theorem dX9_next_214 : decode cX9_next 214 = .ok (.iaload, 1) := by decide +kernel
theorem dX9_next_215 : decode cX9_next 215 = .ok (.iadd, 1) := by decide +kernel
theorem dX9_next_216 : decode cX9_next 216 = .ok (.bipush 48, 2) := by decide +kernel
theorem dX9_next_218 : decode cX9_next 218 = .ok (.isub, 1) := by decide +kernel
theorem dX9_next_219 : decode cX9_next 219 = .ok (.putfield 148, 3) := by decide +kernel
theorem dX9_next_222 : decode cX9_next 222 = .ok (.aload_n 0, 1) := by decide +kernel
theorem dX9_next_223 : decode cX9_next 223 = .ok (.dup, 1) := by decide +kernel
theorem dX9_next_224 : decode cX9_next 224 = .ok (.getfield 133, 3) := by decide +kernel
theorem dX9_next_227 : decode cX9_next 227 = .ok (.iconst 1, 1) := by decide +kernel
theorem dX9_next_228 : decode cX9_next 228 = .ok (.iadd, 1) := by decide +kernel
theorem dX9_next_229 : decode cX9_next 229 = .ok (.putfield 133, 3) := by decide +kernel
theorem dX9_next_232 : decode cX9_next 232 = .ok (.goto (-73), 3) := by decide +kernel
theorem dX9_next_235 : decode cX9_next 235 = .ok (.aload_n 0, 1) := by decide +kernel
theorem dX9_next_236 : decode cX9_next 236 = .ok (.aload_n 0, 1) := by decide +kernel
theorem dX9_next_237 : decode cX9_next 237 = .ok (.getfield 133, 3) := by decide +kernel
theorem dX9_next_240 : decode cX9_next 240 = .ok (.aload_n 0, 1) := by decide +kernel
theorem dX9_next_241 : decode cX9_next 241 = .ok (.getfield 136, 3) := by decide +kernel
theorem dX9_next_244 : decode cX9_next 244 = .ok (.isub, 1) := by decide +kernel
theorem dX9_next_245 : decode cX9_next 245 = .ok (.iconst 3, 1) := by decide +kernel
theorem dX9_next_246 : decode cX9_next 246 = .ok (.if_icmp .le 8, 3) := by decide +kernel
theorem dX9_next_249 : decode cX9_next 249 = .ok (.bipush 120, 2) := by decide +kernel
theorem dX9_next_251 : decode cX9_next 251 = .ok (.goto 5, 3) := by decide +kernel
theorem dX9_next_254 : decode cX9_next 254 = .ok (.bipush 48, 2) := by decide +kernel
theorem dX9_next_256 : decode cX9_next 256 = .ok (.putfield 139, 3) := by decide +kernel
theorem dX9_next_259 : decode cX9_next 259 = .ok (.goto 20, 3) := by decide +kernel
theorem dX9_next_262 : decode cX9_next 262 = .ok (.aload_n 0, 1) := by decide +kernel
theorem dX9_next_263 : decode cX9_next 263 = .ok (.iload_n 1, 1) := by decide +kernel
theorem dX9_next_264 : decode cX9_next 264 = .ok (.bipush 59, 2) := by decide +kernel
theorem dX9_next_266 : decode cX9_next 266 = .ok (.if_icmp .ne 8, 3) := by decide +kernel
theorem dX9_next_269 : decode cX9_next 269 = .ok (.bipush 59, 2) := by decide +kernel
theorem dX9_next_271 : decode cX9_next 271 = .ok (.goto 5, 3) := by decide +kernel
theorem dX9_next_274 : decode cX9_next 274 = .ok (.bipush 120, 2) := by decide +kernel
theorem dX9_next_276 : decode cX9_next 276 = .ok (.putfield 139, 3) := by decide +kernel
theorem dX9_next_279 : decode cX9_next 279 = .ok (.return_, 1) := by decide +kernel
theorem dX9_isWord_0 : decode cX9_isWord 0 = .ok (.aload_n 0, 1) := by decide +kernel
theorem dX9_isWord_1 : decode cX9_isWord 1 = .ok (.getfield 139, 3) := by decide +kernel
theorem dX9_isWord_4 : decode cX9_isWord 4 = .ok (.bipush 119, 2) := by decide +kernel
theorem dX9_isWord_6 : decode cX9_isWord 6 = .ok (.if_icmp .ne 19, 3) := by decide +kernel
theorem dX9_isWord_9 : decode cX9_isWord 9 = .ok (.aload_n 0, 1) := by decide +kernel
theorem dX9_isWord_10 : decode cX9_isWord 10 = .ok (.getfield 133, 3) := by decide +kernel
theorem dX9_isWord_13 : decode cX9_isWord 13 = .ok (.aload_n 0, 1) := by decide +kernel
theorem dX9_isWord_14 : decode cX9_isWord 14 = .ok (.getfield 136, 3) := by decide +kernel
theorem dX9_isWord_17 : decode cX9_isWord 17 = .ok (.isub, 1) := by decide +kernel
theorem dX9_isWord_18 : decode cX9_isWord 18 = .ok (.aload_n 1, 1) := by decide +kernel
theorem dX9_isWord_19 : decode cX9_isWord 19 = .ok (.invokevirtual 151, 3) := by decide +kernel
theorem dX9_isWord_22 : decode cX9_isWord 22 = .ok (.if_icmp .eq 5, 3) := by decide +kernel
theorem dX9_isWord_25 : decode cX9_isWord 25 = .ok (.iconst 0, 1) := by decide +kernel
theorem dX9_isWord_26 : decode cX9_isWord 26 = .ok (.ireturn, 1) := by decide +kernel
theorem dX9_isWord_27 : decode cX9_isWord 27 = .ok (.iconst 0, 1) := by decide +kernel
theorem dX9_isWord_28 : decode cX9_isWord 28 = .ok (.istore_n 2, 1) := by decide +kernel
theorem dX9_isWord_29 : decode cX9_isWord 29 = .ok (.iload_n 2, 1) := by decide +kernel
theorem dX9_isWord_30 : decode cX9_isWord 30 = .ok (.aload_n 1, 1) := by decide +kernel
theorem dX9_isWord_31 : decode cX9_isWord 31 = .ok (.invokevirtual 151, 3) := by decide +kernel
theorem dX9_isWord_34 : decode cX9_isWord 34 = .ok (.if_icmp .ge 30, 3) := by decide +kernel
theorem dX9_isWord_37 : decode cX9_isWord 37 = .ok (.aload_n 0, 1) := by decide +kernel
theorem dX9_isWord_38 : decode cX9_isWord 38 = .ok (.getfield 37, 3) := by decide +kernel
theorem dX9_isWord_41 : decode cX9_isWord 41 = .ok (.aload_n 0, 1) := by decide +kernel
theorem dX9_isWord_42 : decode cX9_isWord 42 = .ok (.getfield 136, 3) := by decide +kernel
theorem dX9_isWord_45 : decode cX9_isWord 45 = .ok (.iload_n 2, 1) := by decide +kernel
theorem dX9_isWord_46 : decode cX9_isWord 46 = .ok (.iadd, 1) := by decide +kernel
theorem dX9_isWord_47 : decode cX9_isWord 47 = .ok (.iaload, 1) := by decide +kernel
theorem dX9_isWord_48 : decode cX9_isWord 48 = .ok (.aload_n 1, 1) := by decide +kernel
theorem dX9_isWord_49 : decode cX9_isWord 49 = .ok (.iload_n 2, 1) := by decide +kernel
theorem dX9_isWord_50 : decode cX9_isWord 50 = .ok (.invokevirtual 157, 3) := by decide +kernel
theorem dX9_isWord_53 : decode cX9_isWord 53 = .ok (.if_icmp .eq 5, 3) := by decide +kernel
theorem dX9_isWord_56 : decode cX9_isWord 56 = .ok (.iconst 0, 1) := by decide +kernel
theorem dX9_isWord_57 : decode cX9_isWord 57 = .ok (.ireturn, 1) := by decide +kernel
theorem dX9_isWord_58 : decode cX9_isWord 58 = .ok (.iinc 2 1, 3) := by decide +kernel
theorem dX9_isWord_61 : decode cX9_isWord 61 = .ok (.goto (-32), 3) := by decide +kernel
theorem dX9_isWord_64 : decode cX9_isWord 64 = .ok (.iconst 1, 1) := by decide +kernel
theorem dX9_isWord_65 : decode cX9_isWord 65 = .ok (.ireturn, 1) := by decide +kernel
theorem dX9_number_0 : decode cX9_number 0 = .ok (.aload_n 0, 1) := by decide +kernel
theorem dX9_number_1 : decode cX9_number 1 = .ok (.invokevirtual 161, 3) := by decide +kernel
theorem dX9_number_4 : decode cX9_number 4 = .ok (.aload_n 0, 1) := by decide +kernel
theorem dX9_number_5 : decode cX9_number 5 = .ok (.getfield 139, 3) := by decide +kernel
theorem dX9_number_8 : decode cX9_number 8 = .ok (.bipush 48, 2) := by decide +kernel
theorem dX9_number_10 : decode cX9_number 10 = .ok (.if_icmp .ne 22, 3) := by decide +kernel
theorem dX9_number_13 : decode cX9_number 13 = .ok (.aload_n 0, 1) := by decide +kernel
theorem dX9_number_14 : decode cX9_number 14 = .ok (.getfield 148, 3) := by decide +kernel
theorem dX9_number_17 : decode cX9_number 17 = .ok (.iload_n 1, 1) := by decide +kernel
theorem dX9_number_18 : decode cX9_number 18 = .ok (.iload_n 2, 1) := by decide +kernel
theorem dX9_number_19 : decode cX9_number 19 = .ok (.invokestatic 78, 3) := by decide +kernel
theorem dX9_number_22 : decode cX9_number 22 = .ok (.ifCond .eq 10, 3) := by decide +kernel
theorem dX9_number_25 : decode cX9_number 25 = .ok (.aload_n 0, 1) := by decide +kernel
theorem dX9_number_26 : decode cX9_number 26 = .ok (.getfield 148, 3) := by decide +kernel
theorem dX9_number_29 : decode cX9_number 29 = .ok (.goto 4, 3) := by decide +kernel
theorem dX9_number_32 : decode cX9_number 32 = .ok (.iconst (-1), 1) := by decide +kernel
theorem dX9_number_33 : decode cX9_number 33 = .ok (.ireturn, 1) := by decide +kernel
theorem dX9_cellTold_0 : decode cX9_cellTold 0 = .ok (.aload_n 0, 1) := by decide +kernel
theorem dX9_cellTold_1 : decode cX9_cellTold 1 = .ok (.iconst 0, 1) := by decide +kernel
theorem dX9_cellTold_2 : decode cX9_cellTold 2 = .ok (.aload_n 0, 1) := by decide +kernel
theorem dX9_cellTold_3 : decode cX9_cellTold 3 = .ok (.getfield 71, 3) := by decide +kernel
theorem dX9_cellTold_6 : decode cX9_cellTold 6 = .ok (.iconst 1, 1) := by decide +kernel
theorem dX9_cellTold_7 : decode cX9_cellTold 7 = .ok (.isub, 1) := by decide +kernel
theorem dX9_cellTold_8 : decode cX9_cellTold 8 = .ok (.invokevirtual 164, 3) := by decide +kernel
theorem dX9_cellTold_11 : decode cX9_cellTold 11 = .ok (.ireturn, 1) := by decide +kernel
theorem dX9_opens_0 : decode cX9_opens 0 = .ok (.aload_n 0, 1) := by decide +kernel
theorem dX9_opens_1 : decode cX9_opens 1 = .ok (.getfield 82, 3) := by decide +kernel
theorem dX9_opens_4 : decode cX9_opens 4 = .ok (.bipush 8, 2) := by decide +kernel
theorem dX9_opens_6 : decode cX9_opens 6 = .ok (.if_icmp .ne 5, 3) := by decide +kernel
theorem dX9_opens_9 : decode cX9_opens 9 = .ok (.iconst 0, 1) := by decide +kernel
theorem dX9_opens_10 : decode cX9_opens 10 = .ok (.ireturn, 1) := by decide +kernel
theorem dX9_opens_11 : decode cX9_opens 11 = .ok (.aload_n 0, 1) := by decide +kernel
theorem dX9_opens_12 : decode cX9_opens 12 = .ok (.invokevirtual 167, 3) := by decide +kernel
theorem dX9_opens_15 : decode cX9_opens 15 = .ok (.istore_n 1, 1) := by decide +kernel
theorem dX9_opens_16 : decode cX9_opens 16 = .ok (.iload_n 1, 1) := by decide +kernel
theorem dX9_opens_17 : decode cX9_opens 17 = .ok (.iconst (-1), 1) := by decide +kernel
theorem dX9_opens_18 : decode cX9_opens 18 = .ok (.if_icmp .ne 7, 3) := by decide +kernel
theorem dX9_opens_21 : decode cX9_opens 21 = .ok (.iconst (-1), 1) := by decide +kernel
theorem dX9_opens_22 : decode cX9_opens 22 = .ok (.goto 9, 3) := by decide +kernel
theorem dX9_opens_25 : decode cX9_opens 25 = .ok (.aload_n 0, 1) := by decide +kernel
theorem dX9_opens_26 : decode cX9_opens 26 = .ok (.iconst 1, 1) := by decide +kernel
theorem dX9_opens_27 : decode cX9_opens 27 = .ok (.iconst 5, 1) := by decide +kernel
theorem dX9_opens_28 : decode cX9_opens 28 = .ok (.invokevirtual 164, 3) := by decide +kernel
theorem dX9_opens_31 : decode cX9_opens 31 = .ok (.istore_n 2, 1) := by decide +kernel
theorem dX9_opens_32 : decode cX9_opens 32 = .ok (.iload_n 2, 1) := by decide +kernel
theorem dX9_opens_33 : decode cX9_opens 33 = .ok (.iconst (-1), 1) := by decide +kernel
theorem dX9_opens_34 : decode cX9_opens 34 = .ok (.if_icmp .ne 7, 3) := by decide +kernel
theorem dX9_opens_37 : decode cX9_opens 37 = .ok (.iconst (-1), 1) := by decide +kernel
theorem dX9_opens_38 : decode cX9_opens 38 = .ok (.goto 10, 3) := by decide +kernel
theorem dX9_opens_41 : decode cX9_opens 41 = .ok (.aload_n 0, 1) := by decide +kernel
theorem dX9_opens_42 : decode cX9_opens 42 = .ok (.iconst 0, 1) := by decide +kernel
theorem dX9_opens_43 : decode cX9_opens 43 = .ok (.bipush 9, 2) := by decide +kernel
theorem dX9_opens_45 : decode cX9_opens 45 = .ok (.invokevirtual 164, 3) := by decide +kernel
theorem dX9_opens_48 : decode cX9_opens 48 = .ok (.istore_n 3, 1) := by decide +kernel
theorem dX9_opens_49 : decode cX9_opens 49 = .ok (.iload_n 3, 1) := by decide +kernel
theorem dX9_opens_50 : decode cX9_opens 50 = .ok (.iconst (-1), 1) := by decide +kernel
theorem dX9_opens_51 : decode cX9_opens 51 = .ok (.if_icmp .ne 5, 3) := by decide +kernel
theorem dX9_opens_54 : decode cX9_opens 54 = .ok (.iconst 0, 1) := by decide +kernel
theorem dX9_opens_55 : decode cX9_opens 55 = .ok (.ireturn, 1) := by decide +kernel
theorem dX9_opens_56 : decode cX9_opens 56 = .ok (.aload_n 0, 1) := by decide +kernel
theorem dX9_opens_57 : decode cX9_opens 57 = .ok (.iload_n 1, 1) := by decide +kernel
theorem dX9_opens_58 : decode cX9_opens 58 = .ok (.iload_n 2, 1) := by decide +kernel
theorem dX9_opens_59 : decode cX9_opens 59 = .ok (.iload_n 3, 1) := by decide +kernel
theorem dX9_opens_60 : decode cX9_opens 60 = .ok (.invokevirtual 123, 3) := by decide +kernel
theorem dX9_opens_63 : decode cX9_opens 63 = .ok (.pop, 1) := by decide +kernel
theorem dX9_opens_64 : decode cX9_opens 64 = .ok (.iconst 1, 1) := by decide +kernel
theorem dX9_opens_65 : decode cX9_opens 65 = .ok (.ireturn, 1) := by decide +kernel
theorem dX9_arrives_0 : decode cX9_arrives 0 = .ok (.aload_n 0, 1) := by decide +kernel
theorem dX9_arrives_1 : decode cX9_arrives 1 = .ok (.getfield 85, 3) := by decide +kernel
theorem dX9_arrives_4 : decode cX9_arrives 4 = .ok (.bipush 8, 2) := by decide +kernel
theorem dX9_arrives_6 : decode cX9_arrives 6 = .ok (.if_icmp .ne 5, 3) := by decide +kernel
theorem dX9_arrives_9 : decode cX9_arrives 9 = .ok (.iconst 0, 1) := by decide +kernel
theorem dX9_arrives_10 : decode cX9_arrives 10 = .ok (.ireturn, 1) := by decide +kernel
theorem dX9_arrives_11 : decode cX9_arrives 11 = .ok (.aload_n 0, 1) := by decide +kernel
theorem dX9_arrives_12 : decode cX9_arrives 12 = .ok (.iconst 0, 1) := by decide +kernel
theorem dX9_arrives_13 : decode cX9_arrives 13 = .ok (.iconst 5, 1) := by decide +kernel
theorem dX9_arrives_14 : decode cX9_arrives 14 = .ok (.invokevirtual 164, 3) := by decide +kernel
theorem dX9_arrives_17 : decode cX9_arrives 17 = .ok (.istore_n 1, 1) := by decide +kernel
theorem dX9_arrives_18 : decode cX9_arrives 18 = .ok (.iload_n 1, 1) := by decide +kernel
theorem dX9_arrives_19 : decode cX9_arrives 19 = .ok (.iconst (-1), 1) := by decide +kernel
theorem dX9_arrives_20 : decode cX9_arrives 20 = .ok (.if_icmp .ne 7, 3) := by decide +kernel
theorem dX9_arrives_23 : decode cX9_arrives 23 = .ok (.iconst (-1), 1) := by decide +kernel
theorem dX9_arrives_24 : decode cX9_arrives 24 = .ok (.goto 10, 3) := by decide +kernel
theorem dX9_arrives_27 : decode cX9_arrives 27 = .ok (.aload_n 0, 1) := by decide +kernel
theorem dX9_arrives_28 : decode cX9_arrives 28 = .ok (.iconst 0, 1) := by decide +kernel
theorem dX9_arrives_29 : decode cX9_arrives 29 = .ok (.bipush 9, 2) := by decide +kernel
theorem dX9_arrives_31 : decode cX9_arrives 31 = .ok (.invokevirtual 164, 3) := by decide +kernel
theorem dX9_arrives_34 : decode cX9_arrives 34 = .ok (.istore_n 2, 1) := by decide +kernel
theorem dX9_arrives_35 : decode cX9_arrives 35 = .ok (.iload_n 2, 1) := by decide +kernel
theorem dX9_arrives_36 : decode cX9_arrives 36 = .ok (.iconst (-1), 1) := by decide +kernel
theorem dX9_arrives_37 : decode cX9_arrives 37 = .ok (.if_icmp .ne 7, 3) := by decide +kernel
theorem dX9_arrives_40 : decode cX9_arrives 40 = .ok (.iconst (-1), 1) := by decide +kernel
theorem dX9_arrives_41 : decode cX9_arrives 41 = .ok (.goto 7, 3) := by decide +kernel
theorem dX9_arrives_44 : decode cX9_arrives 44 = .ok (.aload_n 0, 1) := by decide +kernel
theorem dX9_arrives_45 : decode cX9_arrives 45 = .ok (.invokevirtual 167, 3) := by decide +kernel
theorem dX9_arrives_48 : decode cX9_arrives 48 = .ok (.istore_n 3, 1) := by decide +kernel
theorem dX9_arrives_49 : decode cX9_arrives 49 = .ok (.iload_n 3, 1) := by decide +kernel
theorem dX9_arrives_50 : decode cX9_arrives 50 = .ok (.iconst (-1), 1) := by decide +kernel
theorem dX9_arrives_51 : decode cX9_arrives 51 = .ok (.if_icmp .ne 5, 3) := by decide +kernel
theorem dX9_arrives_54 : decode cX9_arrives 54 = .ok (.iconst 0, 1) := by decide +kernel
theorem dX9_arrives_55 : decode cX9_arrives 55 = .ok (.ireturn, 1) := by decide +kernel
theorem dX9_arrives_56 : decode cX9_arrives 56 = .ok (.aload_n 0, 1) := by decide +kernel
theorem dX9_arrives_57 : decode cX9_arrives 57 = .ok (.iload_n 1, 1) := by decide +kernel
theorem dX9_arrives_58 : decode cX9_arrives 58 = .ok (.iload_n 2, 1) := by decide +kernel
theorem dX9_arrives_59 : decode cX9_arrives 59 = .ok (.iload_n 3, 1) := by decide +kernel
theorem dX9_arrives_60 : decode cX9_arrives 60 = .ok (.invokevirtual 127, 3) := by decide +kernel
theorem dX9_arrives_63 : decode cX9_arrives 63 = .ok (.pop, 1) := by decide +kernel
theorem dX9_arrives_64 : decode cX9_arrives 64 = .ok (.iconst 1, 1) := by decide +kernel
theorem dX9_arrives_65 : decode cX9_arrives 65 = .ok (.ireturn, 1) := by decide +kernel
theorem dX9_statement_0 : decode cX9_statement 0 = .ok (.aload_n 0, 1) := by decide +kernel
theorem dX9_statement_1 : decode cX9_statement 1 = .ok (.ldc 170, 2) := by decide +kernel
theorem dX9_statement_3 : decode cX9_statement 3 = .ok (.invokevirtual 172, 3) := by decide +kernel
theorem dX9_statement_6 : decode cX9_statement 6 = .ok (.ifCond .eq 8, 3) := by decide +kernel
theorem dX9_statement_9 : decode cX9_statement 9 = .ok (.aload_n 0, 1) := by decide +kernel
theorem dX9_statement_10 : decode cX9_statement 10 = .ok (.invokevirtual 176, 3) := by decide +kernel
theorem dX9_statement_13 : decode cX9_statement 13 = .ok (.ireturn, 1) := by decide +kernel
theorem dX9_statement_14 : decode cX9_statement 14 = .ok (.aload_n 0, 1) := by decide +kernel
theorem dX9_statement_15 : decode cX9_statement 15 = .ok (.ldc 180, 2) := by decide +kernel
theorem dX9_statement_17 : decode cX9_statement 17 = .ok (.invokevirtual 172, 3) := by decide +kernel
theorem dX9_statement_20 : decode cX9_statement 20 = .ok (.ifCond .eq 8, 3) := by decide +kernel
theorem dX9_statement_23 : decode cX9_statement 23 = .ok (.aload_n 0, 1) := by decide +kernel
theorem dX9_statement_24 : decode cX9_statement 24 = .ok (.invokevirtual 182, 3) := by decide +kernel
theorem dX9_statement_27 : decode cX9_statement 27 = .ok (.ireturn, 1) := by decide +kernel
theorem dX9_statement_28 : decode cX9_statement 28 = .ok (.aload_n 0, 1) := by decide +kernel
theorem dX9_statement_29 : decode cX9_statement 29 = .ok (.ldc 185, 2) := by decide +kernel
theorem dX9_statement_31 : decode cX9_statement 31 = .ok (.invokevirtual 172, 3) := by decide +kernel
theorem dX9_statement_34 : decode cX9_statement 34 = .ok (.ifCond .eq 28, 3) := by decide +kernel
theorem dX9_statement_37 : decode cX9_statement 37 = .ok (.aload_n 0, 1) := by decide +kernel
theorem dX9_statement_38 : decode cX9_statement 38 = .ok (.aload_n 0, 1) := by decide +kernel
theorem dX9_statement_39 : decode cX9_statement 39 = .ok (.getfield 71, 3) := by decide +kernel
theorem dX9_statement_42 : decode cX9_statement 42 = .ok (.bipush 30, 2) := by decide +kernel
theorem dX9_statement_44 : decode cX9_statement 44 = .ok (.invokevirtual 164, 3) := by decide +kernel
theorem dX9_statement_47 : decode cX9_statement 47 = .ok (.istore_n 1, 1) := by decide +kernel
theorem dX9_statement_48 : decode cX9_statement 48 = .ok (.iload_n 1, 1) := by decide +kernel
theorem dX9_statement_49 : decode cX9_statement 49 = .ok (.iconst (-1), 1) := by decide +kernel
theorem dX9_statement_50 : decode cX9_statement 50 = .ok (.if_icmp .ne 5, 3) := by decide +kernel
theorem dX9_statement_53 : decode cX9_statement 53 = .ok (.iconst 0, 1) := by decide +kernel
theorem dX9_statement_54 : decode cX9_statement 54 = .ok (.ireturn, 1) := by decide +kernel
theorem dX9_statement_55 : decode cX9_statement 55 = .ok (.aload_n 0, 1) := by decide +kernel
theorem dX9_statement_56 : decode cX9_statement 56 = .ok (.iload_n 1, 1) := by decide +kernel
theorem dX9_statement_57 : decode cX9_statement 57 = .ok (.putfield 71, 3) := by decide +kernel
theorem dX9_statement_60 : decode cX9_statement 60 = .ok (.iconst 1, 1) := by decide +kernel
theorem dX9_statement_61 : decode cX9_statement 61 = .ok (.ireturn, 1) := by decide +kernel
theorem dX9_statement_62 : decode cX9_statement 62 = .ok (.aload_n 0, 1) := by decide +kernel
theorem dX9_statement_63 : decode cX9_statement 63 = .ok (.ldc 187, 2) := by decide +kernel
theorem dX9_statement_65 : decode cX9_statement 65 = .ok (.invokevirtual 172, 3) := by decide +kernel
theorem dX9_statement_68 : decode cX9_statement 68 = .ok (.ifCond .eq 45, 3) := by decide +kernel
theorem dX9_statement_71 : decode cX9_statement 71 = .ok (.aload_n 0, 1) := by decide +kernel
theorem dX9_statement_72 : decode cX9_statement 72 = .ok (.iconst 0, 1) := by decide +kernel
theorem dX9_statement_73 : decode cX9_statement 73 = .ok (.aload_n 0, 1) := by decide +kernel
theorem dX9_statement_74 : decode cX9_statement 74 = .ok (.getfield 85, 3) := by decide +kernel
theorem dX9_statement_77 : decode cX9_statement 77 = .ok (.iconst 1, 1) := by decide +kernel
theorem dX9_statement_78 : decode cX9_statement 78 = .ok (.isub, 1) := by decide +kernel
theorem dX9_statement_79 : decode cX9_statement 79 = .ok (.invokevirtual 164, 3) := by decide +kernel
theorem dX9_statement_82 : decode cX9_statement 82 = .ok (.istore_n 1, 1) := by decide +kernel
theorem dX9_statement_83 : decode cX9_statement 83 = .ok (.iload_n 1, 1) := by decide +kernel
theorem dX9_statement_84 : decode cX9_statement 84 = .ok (.iconst (-1), 1) := by decide +kernel
theorem dX9_statement_85 : decode cX9_statement 85 = .ok (.if_icmp .ne 7, 3) := by decide +kernel
theorem dX9_statement_88 : decode cX9_statement 88 = .ok (.iconst (-1), 1) := by decide +kernel
theorem dX9_statement_89 : decode cX9_statement 89 = .ok (.goto 7, 3) := by decide +kernel
theorem dX9_statement_92 : decode cX9_statement 92 = .ok (.aload_n 0, 1) := by decide +kernel
theorem dX9_statement_93 : decode cX9_statement 93 = .ok (.invokevirtual 167, 3) := by decide +kernel
theorem dX9_statement_96 : decode cX9_statement 96 = .ok (.istore_n 2, 1) := by decide +kernel
theorem dX9_statement_97 : decode cX9_statement 97 = .ok (.iload_n 2, 1) := by decide +kernel
theorem dX9_statement_98 : decode cX9_statement 98 = .ok (.iconst (-1), 1) := by decide +kernel
theorem dX9_statement_99 : decode cX9_statement 99 = .ok (.if_icmp .ne 5, 3) := by decide +kernel
theorem dX9_statement_102 : decode cX9_statement 102 = .ok (.iconst 0, 1) := by decide +kernel
theorem dX9_statement_103 : decode cX9_statement 103 = .ok (.ireturn, 1) := by decide +kernel
theorem dX9_statement_104 : decode cX9_statement 104 = .ok (.aload_n 0, 1) := by decide +kernel
theorem dX9_statement_105 : decode cX9_statement 105 = .ok (.getfield 28, 3) := by decide +kernel
theorem dX9_statement_108 : decode cX9_statement 108 = .ok (.iload_n 1, 1) := by decide +kernel
theorem dX9_statement_109 : decode cX9_statement 109 = .ok (.iload_n 2, 1) := by decide +kernel
theorem dX9_statement_110 : decode cX9_statement 110 = .ok (.iastore, 1) := by decide +kernel
theorem dX9_statement_111 : decode cX9_statement 111 = .ok (.iconst 1, 1) := by decide +kernel
theorem dX9_statement_112 : decode cX9_statement 112 = .ok (.ireturn, 1) := by decide +kernel
theorem dX9_statement_113 : decode cX9_statement 113 = .ok (.aload_n 0, 1) := by decide +kernel
theorem dX9_statement_114 : decode cX9_statement 114 = .ok (.ldc 188, 2) := by decide +kernel
theorem dX9_statement_116 : decode cX9_statement 116 = .ok (.invokevirtual 172, 3) := by decide +kernel
theorem dX9_statement_119 : decode cX9_statement 119 = .ok (.ifCond .eq 7, 3) := by decide +kernel
theorem dX9_statement_122 : decode cX9_statement 122 = .ok (.iconst 0, 1) := by decide +kernel
theorem dX9_statement_123 : decode cX9_statement 123 = .ok (.goto 30, 3) := by decide +kernel
theorem dX9_statement_126 : decode cX9_statement 126 = .ok (.aload_n 0, 1) := by decide +kernel
theorem dX9_statement_127 : decode cX9_statement 127 = .ok (.ldc 190, 2) := by decide +kernel
theorem dX9_statement_129 : decode cX9_statement 129 = .ok (.invokevirtual 172, 3) := by decide +kernel
theorem dX9_statement_132 : decode cX9_statement 132 = .ok (.ifCond .eq 7, 3) := by decide +kernel
theorem dX9_statement_135 : decode cX9_statement 135 = .ok (.iconst 1, 1) := by decide +kernel
theorem dX9_statement_136 : decode cX9_statement 136 = .ok (.goto 17, 3) := by decide +kernel
theorem dX9_statement_139 : decode cX9_statement 139 = .ok (.aload_n 0, 1) := by decide +kernel
theorem dX9_statement_140 : decode cX9_statement 140 = .ok (.ldc 192, 2) := by decide +kernel
theorem dX9_statement_142 : decode cX9_statement 142 = .ok (.invokevirtual 172, 3) := by decide +kernel
theorem dX9_statement_145 : decode cX9_statement 145 = .ok (.ifCond .eq 7, 3) := by decide +kernel
theorem dX9_statement_148 : decode cX9_statement 148 = .ok (.iconst 2, 1) := by decide +kernel
theorem dX9_statement_149 : decode cX9_statement 149 = .ok (.goto 4, 3) := by decide +kernel
theorem dX9_statement_152 : decode cX9_statement 152 = .ok (.iconst (-1), 1) := by decide +kernel
theorem dX9_statement_153 : decode cX9_statement 153 = .ok (.istore_n 2, 1) := by decide +kernel
theorem dX9_statement_154 : decode cX9_statement 154 = .ok (.iload_n 2, 1) := by decide +kernel
theorem dX9_statement_155 : decode cX9_statement 155 = .ok (.iconst (-1), 1) := by decide +kernel
theorem dX9_statement_156 : decode cX9_statement 156 = .ok (.if_icmp .ne 5, 3) := by decide +kernel
theorem dX9_statement_159 : decode cX9_statement 159 = .ok (.iconst 0, 1) := by decide +kernel
theorem dX9_statement_160 : decode cX9_statement 160 = .ok (.ireturn, 1) := by decide +kernel
theorem dX9_statement_161 : decode cX9_statement 161 = .ok (.aload_n 0, 1) := by decide +kernel
theorem dX9_statement_162 : decode cX9_statement 162 = .ok (.iconst 0, 1) := by decide +kernel
theorem dX9_statement_163 : decode cX9_statement 163 = .ok (.iload_n 2, 1) := by decide +kernel
theorem dX9_statement_164 : decode cX9_statement 164 = .ok (.ifCond .ne 8, 3) := by decide +kernel
theorem dX9_statement_167 : decode cX9_statement 167 = .ok (.bipush 10, 2) := by decide +kernel
theorem dX9_statement_169 : decode cX9_statement 169 = .ok (.goto 6, 3) := by decide +kernel
theorem dX9_statement_172 : decode cX9_statement 172 = .ok (.sipush 999, 3) := by decide +kernel
theorem dX9_statement_175 : decode cX9_statement 175 = .ok (.invokevirtual 164, 3) := by decide +kernel
theorem dX9_statement_178 : decode cX9_statement 178 = .ok (.istore_n 1, 1) := by decide +kernel
theorem dX9_statement_179 : decode cX9_statement 179 = .ok (.iload_n 1, 1) := by decide +kernel
theorem dX9_statement_180 : decode cX9_statement 180 = .ok (.iconst (-1), 1) := by decide +kernel
theorem dX9_statement_181 : decode cX9_statement 181 = .ok (.if_icmp .ne 5, 3) := by decide +kernel
theorem dX9_statement_184 : decode cX9_statement 184 = .ok (.iconst 0, 1) := by decide +kernel
theorem dX9_statement_185 : decode cX9_statement 185 = .ok (.ireturn, 1) := by decide +kernel
theorem dX9_statement_186 : decode cX9_statement 186 = .ok (.aload_n 0, 1) := by decide +kernel
theorem dX9_statement_187 : decode cX9_statement 187 = .ok (.getfield 7, 3) := by decide +kernel
theorem dX9_statement_190 : decode cX9_statement 190 = .ok (.iload_n 2, 1) := by decide +kernel
theorem dX9_statement_191 : decode cX9_statement 191 = .ok (.iload_n 1, 1) := by decide +kernel
theorem dX9_statement_192 : decode cX9_statement 192 = .ok (.iastore, 1) := by decide +kernel
theorem dX9_statement_193 : decode cX9_statement 193 = .ok (.iconst 1, 1) := by decide +kernel
theorem dX9_statement_194 : decode cX9_statement 194 = .ok (.ireturn, 1) := by decide +kernel
theorem dX9_street_0 : decode cX9_street 0 = .ok (.aload_n 0, 1) := by decide +kernel
theorem dX9_street_1 : decode cX9_street 1 = .ok (.aload_n 0, 1) := by decide +kernel
theorem dX9_street_2 : decode cX9_street 2 = .ok (.getfield 56, 3) := by decide +kernel
theorem dX9_street_5 : decode cX9_street 5 = .ok (.invokevirtual 194, 3) := by decide +kernel
theorem dX9_street_8 : decode cX9_street 8 = .ok (.aload_n 0, 1) := by decide +kernel
theorem dX9_street_9 : decode cX9_street 9 = .ok (.iconst 0, 1) := by decide +kernel
theorem dX9_street_10 : decode cX9_street 10 = .ok (.putfield 133, 3) := by decide +kernel
theorem dX9_street_13 : decode cX9_street 13 = .ok (.iconst 0, 1) := by decide +kernel
theorem dX9_street_14 : decode cX9_street 14 = .ok (.istore_n 1, 1) := by decide +kernel
theorem dX9_street_15 : decode cX9_street 15 = .ok (.iconst 1, 1) := by decide +kernel
theorem dX9_street_16 : decode cX9_street 16 = .ok (.istore_n 2, 1) := by decide +kernel
theorem dX9_street_17 : decode cX9_street 17 = .ok (.iload_n 2, 1) := by decide +kernel
theorem dX9_street_18 : decode cX9_street 18 = .ok (.ifCond .eq 60, 3) := by decide +kernel
theorem dX9_street_21 : decode cX9_street 21 = .ok (.aload_n 0, 1) := by decide +kernel
theorem dX9_street_22 : decode cX9_street 22 = .ok (.invokevirtual 161, 3) := by decide +kernel
theorem dX9_street_25 : decode cX9_street 25 = .ok (.aload_n 0, 1) := by decide +kernel
theorem dX9_street_26 : decode cX9_street 26 = .ok (.invokevirtual 198, 3) := by decide +kernel
theorem dX9_street_29 : decode cX9_street 29 = .ok (.istore_n 2, 1) := by decide +kernel
theorem dX9_street_30 : decode cX9_street 30 = .ok (.iload_n 2, 1) := by decide +kernel
theorem dX9_street_31 : decode cX9_street 31 = .ok (.ifCond .ne 6, 3) := by decide +kernel
theorem dX9_street_34 : decode cX9_street 34 = .ok (.goto (-17), 3) := by decide +kernel
theorem dX9_street_37 : decode cX9_street 37 = .ok (.iinc 1 1, 3) := by decide +kernel
theorem dX9_street_40 : decode cX9_street 40 = .ok (.aload_n 0, 1) := by decide +kernel
theorem dX9_street_41 : decode cX9_street 41 = .ok (.invokevirtual 161, 3) := by decide +kernel
theorem dX9_street_44 : decode cX9_street 44 = .ok (.aload_n 0, 1) := by decide +kernel
theorem dX9_street_45 : decode cX9_street 45 = .ok (.getfield 139, 3) := by decide +kernel
theorem dX9_street_48 : decode cX9_street 48 = .ok (.bipush 101, 2) := by decide +kernel
theorem dX9_street_50 : decode cX9_street 50 = .ok (.if_icmp .ne 10, 3) := by decide +kernel
theorem dX9_street_53 : decode cX9_street 53 = .ok (.aload_n 0, 1) := by decide +kernel
theorem dX9_street_54 : decode cX9_street 54 = .ok (.iconst 0, 1) := by decide +kernel
theorem dX9_street_55 : decode cX9_street 55 = .ok (.putfield 130, 3) := by decide +kernel
theorem dX9_street_58 : decode cX9_street 58 = .ok (.iload_n 1, 1) := by decide +kernel
theorem dX9_street_59 : decode cX9_street 59 = .ok (.ireturn, 1) := by decide +kernel
theorem dX9_street_60 : decode cX9_street 60 = .ok (.aload_n 0, 1) := by decide +kernel
theorem dX9_street_61 : decode cX9_street 61 = .ok (.getfield 139, 3) := by decide +kernel
theorem dX9_street_64 : decode cX9_street 64 = .ok (.bipush 59, 2) := by decide +kernel
theorem dX9_street_66 : decode cX9_street 66 = .ok (.if_icmp .ne 7, 3) := by decide +kernel
theorem dX9_street_69 : decode cX9_street 69 = .ok (.iconst 1, 1) := by decide +kernel
theorem dX9_street_70 : decode cX9_street 70 = .ok (.goto 4, 3) := by decide +kernel
theorem dX9_street_73 : decode cX9_street 73 = .ok (.iconst 0, 1) := by decide +kernel
theorem dX9_street_74 : decode cX9_street 74 = .ok (.istore_n 2, 1) := by decide +kernel
theorem dX9_street_75 : decode cX9_street 75 = .ok (.goto (-58), 3) := by decide +kernel
theorem dX9_street_78 : decode cX9_street 78 = .ok (.aload_n 0, 1) := by decide +kernel
theorem dX9_street_79 : decode cX9_street 79 = .ok (.aload_n 0, 1) := by decide +kernel
theorem dX9_street_80 : decode cX9_street 80 = .ok (.getfield 56, 3) := by decide +kernel
theorem dX9_street_83 : decode cX9_street 83 = .ok (.invokevirtual 201, 3) := by decide +kernel
theorem dX9_street_86 : decode cX9_street 86 = .ok (.aload_n 0, 1) := by decide +kernel
theorem dX9_street_87 : decode cX9_street 87 = .ok (.iconst 0, 1) := by decide +kernel
theorem dX9_street_88 : decode cX9_street 88 = .ok (.putfield 130, 3) := by decide +kernel
theorem dX9_street_91 : decode cX9_street 91 = .ok (.aload_n 0, 1) := by decide +kernel
theorem dX9_street_92 : decode cX9_street 92 = .ok (.bipush (-2), 2) := by decide +kernel
theorem dX9_street_94 : decode cX9_street 94 = .ok (.invokevirtual 95, 3) := by decide +kernel
theorem dX9_street_97 : decode cX9_street 97 = .ok (.pop, 1) := by decide +kernel
theorem dX9_street_98 : decode cX9_street 98 = .ok (.bipush (-20), 2) := by decide +kernel
theorem dX9_street_100 : decode cX9_street 100 = .ok (.aload_n 0, 1) := by decide +kernel
theorem dX9_street_101 : decode cX9_street 101 = .ok (.getfield 136, 3) := by decide +kernel
theorem dX9_street_104 : decode cX9_street 104 = .ok (.isub, 1) := by decide +kernel
theorem dX9_street_105 : decode cX9_street 105 = .ok (.ireturn, 1) := by decide +kernel
theorem dX9_personOf_0 : decode cX9_personOf 0 = .ok (.aload_n 0, 1) := by decide +kernel
theorem dX9_personOf_1 : decode cX9_personOf 1 = .ok (.iload_n 1, 1) := by decide +kernel
theorem dX9_personOf_2 : decode cX9_personOf 2 = .ok (.invokevirtual 109, 3) := by decide +kernel
theorem dX9_personOf_5 : decode cX9_personOf 5 = .ok (.ifCond .ne 10, 3) := by decide +kernel
theorem dX9_personOf_8 : decode cX9_personOf 8 = .ok (.aload_n 0, 1) := by decide +kernel
theorem dX9_personOf_9 : decode cX9_personOf 9 = .ok (.bipush (-2), 2) := by decide +kernel
theorem dX9_personOf_11 : decode cX9_personOf 11 = .ok (.invokevirtual 95, 3) := by decide +kernel
theorem dX9_personOf_14 : decode cX9_personOf 14 = .ok (.ireturn, 1) := by decide +kernel
theorem dX9_personOf_15 : decode cX9_personOf 15 = .ok (.iload_n 2, 1) := by decide +kernel
theorem dX9_personOf_16 : decode cX9_personOf 16 = .ok (.tableswitch 81 0 5 #[40, 47, 54, 61, 68, 75], 40) := by decide +kernel
theorem dX9_personOf_56 : decode cX9_personOf 56 = .ok (.aload_n 0, 1) := by decide +kernel
theorem dX9_personOf_57 : decode cX9_personOf 57 = .ok (.getfield 22, 3) := by decide +kernel
theorem dX9_personOf_60 : decode cX9_personOf 60 = .ok (.iload_n 1, 1) := by decide +kernel
theorem dX9_personOf_61 : decode cX9_personOf 61 = .ok (.iaload, 1) := by decide +kernel
theorem dX9_personOf_62 : decode cX9_personOf 62 = .ok (.ireturn, 1) := by decide +kernel
theorem dX9_personOf_63 : decode cX9_personOf 63 = .ok (.aload_n 0, 1) := by decide +kernel
theorem dX9_personOf_64 : decode cX9_personOf 64 = .ok (.getfield 25, 3) := by decide +kernel
theorem dX9_personOf_67 : decode cX9_personOf 67 = .ok (.iload_n 1, 1) := by decide +kernel
theorem dX9_personOf_68 : decode cX9_personOf 68 = .ok (.iaload, 1) := by decide +kernel
theorem dX9_personOf_69 : decode cX9_personOf 69 = .ok (.ireturn, 1) := by decide +kernel
theorem dX9_personOf_70 : decode cX9_personOf 70 = .ok (.aload_n 0, 1) := by decide +kernel
theorem dX9_personOf_71 : decode cX9_personOf 71 = .ok (.getfield 28, 3) := by decide +kernel
theorem dX9_personOf_74 : decode cX9_personOf 74 = .ok (.iload_n 1, 1) := by decide +kernel
theorem dX9_personOf_75 : decode cX9_personOf 75 = .ok (.iaload, 1) := by decide +kernel
theorem dX9_personOf_76 : decode cX9_personOf 76 = .ok (.ireturn, 1) := by decide +kernel
theorem dX9_personOf_77 : decode cX9_personOf 77 = .ok (.aload_n 0, 1) := by decide +kernel
theorem dX9_personOf_78 : decode cX9_personOf 78 = .ok (.getfield 31, 3) := by decide +kernel
theorem dX9_personOf_81 : decode cX9_personOf 81 = .ok (.iload_n 1, 1) := by decide +kernel
theorem dX9_personOf_82 : decode cX9_personOf 82 = .ok (.iaload, 1) := by decide +kernel
theorem dX9_personOf_83 : decode cX9_personOf 83 = .ok (.ireturn, 1) := by decide +kernel
theorem dX9_personOf_84 : decode cX9_personOf 84 = .ok (.aload_n 0, 1) := by decide +kernel
theorem dX9_personOf_85 : decode cX9_personOf 85 = .ok (.getfield 34, 3) := by decide +kernel
theorem dX9_personOf_88 : decode cX9_personOf 88 = .ok (.iload_n 1, 1) := by decide +kernel
theorem dX9_personOf_89 : decode cX9_personOf 89 = .ok (.iaload, 1) := by decide +kernel
theorem dX9_personOf_90 : decode cX9_personOf 90 = .ok (.ireturn, 1) := by decide +kernel
theorem dX9_personOf_91 : decode cX9_personOf 91 = .ok (.aload_n 0, 1) := by decide +kernel
theorem dX9_personOf_92 : decode cX9_personOf 92 = .ok (.iload_n 1, 1) := by decide +kernel
theorem dX9_personOf_93 : decode cX9_personOf 93 = .ok (.invokevirtual 204, 3) := by decide +kernel
theorem dX9_personOf_96 : decode cX9_personOf 96 = .ok (.ireturn, 1) := by decide +kernel
theorem dX9_personOf_97 : decode cX9_personOf 97 = .ok (.aload_n 0, 1) := by decide +kernel
theorem dX9_personOf_98 : decode cX9_personOf 98 = .ok (.bipush (-2), 2) := by decide +kernel
theorem dX9_personOf_100 : decode cX9_personOf 100 = .ok (.invokevirtual 95, 3) := by decide +kernel
theorem dX9_personOf_103 : decode cX9_personOf 103 = .ok (.ireturn, 1) := by decide +kernel
theorem dX9_windowOf_0 : decode cX9_windowOf 0 = .ok (.aload_n 0, 1) := by decide +kernel
theorem dX9_windowOf_1 : decode cX9_windowOf 1 = .ok (.iload_n 1, 1) := by decide +kernel
theorem dX9_windowOf_2 : decode cX9_windowOf 2 = .ok (.invokevirtual 88, 3) := by decide +kernel
theorem dX9_windowOf_5 : decode cX9_windowOf 5 = .ok (.ifCond .eq 12, 3) := by decide +kernel
theorem dX9_windowOf_8 : decode cX9_windowOf 8 = .ok (.iload_n 2, 1) := by decide +kernel
theorem dX9_windowOf_9 : decode cX9_windowOf 9 = .ok (.iconst 0, 1) := by decide +kernel
theorem dX9_windowOf_10 : decode cX9_windowOf 10 = .ok (.iconst 2, 1) := by decide +kernel
theorem dX9_windowOf_11 : decode cX9_windowOf 11 = .ok (.invokestatic 78, 3) := by decide +kernel
theorem dX9_windowOf_14 : decode cX9_windowOf 14 = .ok (.ifCond .ne 10, 3) := by decide +kernel
theorem dX9_windowOf_17 : decode cX9_windowOf 17 = .ok (.aload_n 0, 1) := by decide +kernel
theorem dX9_windowOf_18 : decode cX9_windowOf 18 = .ok (.bipush (-2), 2) := by decide +kernel
theorem dX9_windowOf_20 : decode cX9_windowOf 20 = .ok (.invokevirtual 95, 3) := by decide +kernel
theorem dX9_windowOf_23 : decode cX9_windowOf 23 = .ok (.ireturn, 1) := by decide +kernel
theorem dX9_windowOf_24 : decode cX9_windowOf 24 = .ok (.iload_n 2, 1) := by decide +kernel
theorem dX9_windowOf_25 : decode cX9_windowOf 25 = .ok (.ifCond .ne 12, 3) := by decide +kernel
theorem dX9_windowOf_28 : decode cX9_windowOf 28 = .ok (.aload_n 0, 1) := by decide +kernel
theorem dX9_windowOf_29 : decode cX9_windowOf 29 = .ok (.getfield 13, 3) := by decide +kernel
theorem dX9_windowOf_32 : decode cX9_windowOf 32 = .ok (.iload_n 1, 1) := by decide +kernel
theorem dX9_windowOf_33 : decode cX9_windowOf 33 = .ok (.iaload, 1) := by decide +kernel
theorem dX9_windowOf_34 : decode cX9_windowOf 34 = .ok (.goto 23, 3) := by decide +kernel
theorem dX9_windowOf_37 : decode cX9_windowOf 37 = .ok (.iload_n 2, 1) := by decide +kernel
theorem dX9_windowOf_38 : decode cX9_windowOf 38 = .ok (.iconst 1, 1) := by decide +kernel
theorem dX9_windowOf_39 : decode cX9_windowOf 39 = .ok (.if_icmp .ne 12, 3) := by decide +kernel
theorem dX9_windowOf_42 : decode cX9_windowOf 42 = .ok (.aload_n 0, 1) := by decide +kernel
theorem dX9_windowOf_43 : decode cX9_windowOf 43 = .ok (.getfield 16, 3) := by decide +kernel
theorem dX9_windowOf_46 : decode cX9_windowOf 46 = .ok (.iload_n 1, 1) := by decide +kernel
theorem dX9_windowOf_47 : decode cX9_windowOf 47 = .ok (.iaload, 1) := by decide +kernel
theorem dX9_windowOf_48 : decode cX9_windowOf 48 = .ok (.goto 9, 3) := by decide +kernel
theorem dX9_windowOf_51 : decode cX9_windowOf 51 = .ok (.aload_n 0, 1) := by decide +kernel
theorem dX9_windowOf_52 : decode cX9_windowOf 52 = .ok (.getfield 19, 3) := by decide +kernel
theorem dX9_windowOf_55 : decode cX9_windowOf 55 = .ok (.iload_n 1, 1) := by decide +kernel
theorem dX9_windowOf_56 : decode cX9_windowOf 56 = .ok (.iaload, 1) := by decide +kernel
theorem dX9_windowOf_57 : decode cX9_windowOf 57 = .ok (.ireturn, 1) := by decide +kernel
theorem dX9_landing_0 : decode cX9_landing 0 = .ok (.iload_n 3, 1) := by decide +kernel
theorem dX9_landing_1 : decode cX9_landing 1 = .ok (.ifCond .ne 7, 3) := by decide +kernel
theorem dX9_landing_4 : decode cX9_landing 4 = .ok (.iconst 0, 1) := by decide +kernel
theorem dX9_landing_5 : decode cX9_landing 5 = .ok (.goto 13, 3) := by decide +kernel
theorem dX9_landing_8 : decode cX9_landing 8 = .ok (.iload_n 2, 1) := by decide +kernel
theorem dX9_landing_9 : decode cX9_landing 9 = .ok (.aload_n 0, 1) := by decide +kernel
theorem dX9_landing_10 : decode cX9_landing 10 = .ok (.getfield 16, 3) := by decide +kernel
theorem dX9_landing_13 : decode cX9_landing 13 = .ok (.iload_n 1, 1) := by decide +kernel
theorem dX9_landing_14 : decode cX9_landing 14 = .ok (.iaload, 1) := by decide +kernel
theorem dX9_landing_15 : decode cX9_landing 15 = .ok (.imul, 1) := by decide +kernel
theorem dX9_landing_16 : decode cX9_landing 16 = .ok (.iconst 3, 1) := by decide +kernel
theorem dX9_landing_17 : decode cX9_landing 17 = .ok (.idiv, 1) := by decide +kernel
theorem dX9_landing_18 : decode cX9_landing 18 = .ok (.istore 4, 2) := by decide +kernel
theorem dX9_landing_20 : decode cX9_landing 20 = .ok (.aload_n 0, 1) := by decide +kernel
theorem dX9_landing_21 : decode cX9_landing 21 = .ok (.getfield 13, 3) := by decide +kernel
theorem dX9_landing_24 : decode cX9_landing 24 = .ok (.iload_n 1, 1) := by decide +kernel
theorem dX9_landing_25 : decode cX9_landing 25 = .ok (.iaload, 1) := by decide +kernel
theorem dX9_landing_26 : decode cX9_landing 26 = .ok (.iload_n 3, 1) := by decide +kernel
theorem dX9_landing_27 : decode cX9_landing 27 = .ok (.iconst 2, 1) := by decide +kernel
theorem dX9_landing_28 : decode cX9_landing 28 = .ok (.if_icmp .ne 9, 3) := by decide +kernel
theorem dX9_landing_31 : decode cX9_landing 31 = .ok (.iload 4, 2) := by decide +kernel
theorem dX9_landing_33 : decode cX9_landing 33 = .ok (.ineg, 1) := by decide +kernel
theorem dX9_landing_34 : decode cX9_landing 34 = .ok (.goto 5, 3) := by decide +kernel
theorem dX9_landing_37 : decode cX9_landing 37 = .ok (.iload 4, 2) := by decide +kernel
theorem dX9_landing_39 : decode cX9_landing 39 = .ok (.iadd, 1) := by decide +kernel
theorem dX9_landing_40 : decode cX9_landing 40 = .ok (.aload_n 0, 1) := by decide +kernel
theorem dX9_landing_41 : decode cX9_landing 41 = .ok (.getfield 7, 3) := by decide +kernel
theorem dX9_landing_44 : decode cX9_landing 44 = .ok (.iconst 0, 1) := by decide +kernel
theorem dX9_landing_45 : decode cX9_landing 45 = .ok (.iaload, 1) := by decide +kernel
theorem dX9_landing_46 : decode cX9_landing 46 = .ok (.iadd, 1) := by decide +kernel
theorem dX9_landing_47 : decode cX9_landing 47 = .ok (.iconst 5, 1) := by decide +kernel
theorem dX9_landing_48 : decode cX9_landing 48 = .ok (.isub, 1) := by decide +kernel
theorem dX9_landing_49 : decode cX9_landing 49 = .ok (.istore 5, 2) := by decide +kernel
theorem dX9_landing_51 : decode cX9_landing 51 = .ok (.aload_n 0, 1) := by decide +kernel
theorem dX9_landing_52 : decode cX9_landing 52 = .ok (.iload 5, 2) := by decide +kernel
theorem dX9_landing_54 : decode cX9_landing 54 = .ok (.invokevirtual 120, 3) := by decide +kernel
theorem dX9_landing_57 : decode cX9_landing 57 = .ok (.ifCond .eq 8, 3) := by decide +kernel
theorem dX9_landing_60 : decode cX9_landing 60 = .ok (.iload 5, 2) := by decide +kernel
theorem dX9_landing_62 : decode cX9_landing 62 = .ok (.goto 4, 3) := by decide +kernel
theorem dX9_landing_65 : decode cX9_landing 65 = .ok (.iconst (-1), 1) := by decide +kernel
theorem dX9_landing_66 : decode cX9_landing 66 = .ok (.ireturn, 1) := by decide +kernel
theorem dX9_lands_0 : decode cX9_lands 0 = .ok (.aload_n 0, 1) := by decide +kernel
theorem dX9_lands_1 : decode cX9_lands 1 = .ok (.iload_n 1, 1) := by decide +kernel
theorem dX9_lands_2 : decode cX9_lands 2 = .ok (.iload_n 2, 1) := by decide +kernel
theorem dX9_lands_3 : decode cX9_lands 3 = .ok (.iload_n 3, 1) := by decide +kernel
theorem dX9_lands_4 : decode cX9_lands 4 = .ok (.invokevirtual 207, 3) := by decide +kernel
theorem dX9_lands_7 : decode cX9_lands 7 = .ok (.ifCond .eq 13, 3) := by decide +kernel
theorem dX9_lands_10 : decode cX9_lands 10 = .ok (.aload_n 0, 1) := by decide +kernel
theorem dX9_lands_11 : decode cX9_lands 11 = .ok (.iload_n 1, 1) := by decide +kernel
theorem dX9_lands_12 : decode cX9_lands 12 = .ok (.iload_n 2, 1) := by decide +kernel
theorem dX9_lands_13 : decode cX9_lands 13 = .ok (.iload_n 3, 1) := by decide +kernel
theorem dX9_lands_14 : decode cX9_lands 14 = .ok (.invokevirtual 210, 3) := by decide +kernel
theorem dX9_lands_17 : decode cX9_lands 17 = .ok (.goto 9, 3) := by decide +kernel
theorem dX9_lands_20 : decode cX9_lands 20 = .ok (.aload_n 0, 1) := by decide +kernel
theorem dX9_lands_21 : decode cX9_lands 21 = .ok (.bipush (-2), 2) := by decide +kernel
theorem dX9_lands_23 : decode cX9_lands 23 = .ok (.invokevirtual 95, 3) := by decide +kernel
theorem dX9_lands_26 : decode cX9_lands 26 = .ok (.ireturn, 1) := by decide +kernel
theorem dX9_reach_0 : decode cX9_reach 0 = .ok (.aload_n 0, 1) := by decide +kernel
theorem dX9_reach_1 : decode cX9_reach 1 = .ok (.getfield 22, 3) := by decide +kernel
theorem dX9_reach_4 : decode cX9_reach 4 = .ok (.iload_n 1, 1) := by decide +kernel
theorem dX9_reach_5 : decode cX9_reach 5 = .ok (.iaload, 1) := by decide +kernel
theorem dX9_reach_6 : decode cX9_reach 6 = .ok (.tableswitch 36 1 4 #[30, 32, 30, 34], 30) := by decide +kernel
theorem dX9_reach_36 : decode cX9_reach 36 = .ok (.iconst 0, 1) := by decide +kernel
theorem dX9_reach_37 : decode cX9_reach 37 = .ok (.ireturn, 1) := by decide +kernel
theorem dX9_reach_38 : decode cX9_reach 38 = .ok (.iconst 2, 1) := by decide +kernel
theorem dX9_reach_39 : decode cX9_reach 39 = .ok (.ireturn, 1) := by decide +kernel
theorem dX9_reach_40 : decode cX9_reach 40 = .ok (.iconst 3, 1) := by decide +kernel
theorem dX9_reach_41 : decode cX9_reach 41 = .ok (.ireturn, 1) := by decide +kernel
theorem dX9_reach_42 : decode cX9_reach 42 = .ok (.iconst 1, 1) := by decide +kernel
theorem dX9_reach_43 : decode cX9_reach 43 = .ok (.ireturn, 1) := by decide +kernel
theorem dX9_away_0 : decode cX9_away 0 = .ok (.aload_n 0, 1) := by decide +kernel
theorem dX9_away_1 : decode cX9_away 1 = .ok (.getfield 28, 3) := by decide +kernel
theorem dX9_away_4 : decode cX9_away 4 = .ok (.iload_n 1, 1) := by decide +kernel
theorem dX9_away_5 : decode cX9_away 5 = .ok (.iaload, 1) := by decide +kernel
theorem dX9_away_6 : decode cX9_away 6 = .ok (.iload_n 2, 1) := by decide +kernel
theorem dX9_away_7 : decode cX9_away 7 = .ok (.isub, 1) := by decide +kernel
theorem dX9_away_8 : decode cX9_away 8 = .ok (.invokestatic 213, 3) := by decide +kernel
theorem dX9_away_11 : decode cX9_away 11 = .ok (.ireturn, 1) := by decide +kernel
theorem dX9_nearest_0 : decode cX9_nearest 0 = .ok (.iconst (-1), 1) := by decide +kernel
theorem dX9_nearest_1 : decode cX9_nearest 1 = .ok (.istore 4, 2) := by decide +kernel
theorem dX9_nearest_3 : decode cX9_nearest 3 = .ok (.iconst 0, 1) := by decide +kernel
theorem dX9_nearest_4 : decode cX9_nearest 4 = .ok (.istore 5, 2) := by decide +kernel
theorem dX9_nearest_6 : decode cX9_nearest 6 = .ok (.iload 5, 2) := by decide +kernel
theorem dX9_nearest_8 : decode cX9_nearest 8 = .ok (.aload_n 0, 1) := by decide +kernel
theorem dX9_nearest_9 : decode cX9_nearest 9 = .ok (.getfield 85, 3) := by decide +kernel
theorem dX9_nearest_12 : decode cX9_nearest 12 = .ok (.if_icmp .ge 89, 3) := by decide +kernel
theorem dX9_nearest_15 : decode cX9_nearest 15 = .ok (.iload 5, 2) := by decide +kernel
theorem dX9_nearest_17 : decode cX9_nearest 17 = .ok (.iload_n 2, 1) := by decide +kernel
theorem dX9_nearest_18 : decode cX9_nearest 18 = .ok (.if_icmp .eq 77, 3) := by decide +kernel
theorem dX9_nearest_21 : decode cX9_nearest 21 = .ok (.aload_n 0, 1) := by decide +kernel
theorem dX9_nearest_22 : decode cX9_nearest 22 = .ok (.getfield 22, 3) := by decide +kernel
theorem dX9_nearest_25 : decode cX9_nearest 25 = .ok (.iload 5, 2) := by decide +kernel
theorem dX9_nearest_27 : decode cX9_nearest 27 = .ok (.iaload, 1) := by decide +kernel
theorem dX9_nearest_28 : decode cX9_nearest 28 = .ok (.iconst 5, 1) := by decide +kernel
theorem dX9_nearest_29 : decode cX9_nearest 29 = .ok (.if_icmp .ne 7, 3) := by decide +kernel
theorem dX9_nearest_32 : decode cX9_nearest 32 = .ok (.iconst 1, 1) := by decide +kernel
theorem dX9_nearest_33 : decode cX9_nearest 33 = .ok (.goto 4, 3) := by decide +kernel
theorem dX9_nearest_36 : decode cX9_nearest 36 = .ok (.iconst 0, 1) := by decide +kernel
theorem dX9_nearest_37 : decode cX9_nearest 37 = .ok (.iload_n 3, 1) := by decide +kernel
theorem dX9_nearest_38 : decode cX9_nearest 38 = .ok (.if_icmp .ne 57, 3) := by decide +kernel
theorem dX9_nearest_41 : decode cX9_nearest 41 = .ok (.aload_n 0, 1) := by decide +kernel
theorem dX9_nearest_42 : decode cX9_nearest 42 = .ok (.getfield 31, 3) := by decide +kernel
theorem dX9_nearest_45 : decode cX9_nearest 45 = .ok (.iload 5, 2) := by decide +kernel
theorem dX9_nearest_47 : decode cX9_nearest 47 = .ok (.iaload, 1) := by decide +kernel
theorem dX9_nearest_48 : decode cX9_nearest 48 = .ok (.iconst (-1), 1) := by decide +kernel
theorem dX9_nearest_49 : decode cX9_nearest 49 = .ok (.if_icmp .ne 46, 3) := by decide +kernel
theorem dX9_nearest_52 : decode cX9_nearest 52 = .ok (.aload_n 0, 1) := by decide +kernel
theorem dX9_nearest_53 : decode cX9_nearest 53 = .ok (.iload 5, 2) := by decide +kernel
theorem dX9_nearest_55 : decode cX9_nearest 55 = .ok (.iload_n 1, 1) := by decide +kernel
theorem dX9_nearest_56 : decode cX9_nearest 56 = .ok (.invokevirtual 218, 3) := by decide +kernel
theorem dX9_nearest_59 : decode cX9_nearest 59 = .ok (.aload_n 0, 1) := by decide +kernel
theorem dX9_nearest_60 : decode cX9_nearest 60 = .ok (.iload 5, 2) := by decide +kernel
theorem dX9_nearest_62 : decode cX9_nearest 62 = .ok (.invokevirtual 204, 3) := by decide +kernel
theorem dX9_nearest_65 : decode cX9_nearest 65 = .ok (.if_icmp .gt 30, 3) := by decide +kernel
theorem dX9_nearest_68 : decode cX9_nearest 68 = .ok (.iload 4, 2) := by decide +kernel
theorem dX9_nearest_70 : decode cX9_nearest 70 = .ok (.iconst (-1), 1) := by decide +kernel
theorem dX9_nearest_71 : decode cX9_nearest 71 = .ok (.if_icmp .eq 20, 3) := by decide +kernel
theorem dX9_nearest_74 : decode cX9_nearest 74 = .ok (.aload_n 0, 1) := by decide +kernel
theorem dX9_nearest_75 : decode cX9_nearest 75 = .ok (.iload 5, 2) := by decide +kernel
theorem dX9_nearest_77 : decode cX9_nearest 77 = .ok (.iload_n 1, 1) := by decide +kernel
theorem dX9_nearest_78 : decode cX9_nearest 78 = .ok (.invokevirtual 218, 3) := by decide +kernel
theorem dX9_nearest_81 : decode cX9_nearest 81 = .ok (.aload_n 0, 1) := by decide +kernel
theorem dX9_nearest_82 : decode cX9_nearest 82 = .ok (.iload 4, 2) := by decide +kernel
theorem dX9_nearest_84 : decode cX9_nearest 84 = .ok (.iload_n 1, 1) := by decide +kernel
theorem dX9_nearest_85 : decode cX9_nearest 85 = .ok (.invokevirtual 218, 3) := by decide +kernel
theorem dX9_nearest_88 : decode cX9_nearest 88 = .ok (.if_icmp .ge 7, 3) := by decide +kernel
theorem dX9_nearest_91 : decode cX9_nearest 91 = .ok (.iload 5, 2) := by decide +kernel
theorem dX9_nearest_93 : decode cX9_nearest 93 = .ok (.istore 4, 2) := by decide +kernel
theorem dX9_nearest_95 : decode cX9_nearest 95 = .ok (.iinc 5 1, 3) := by decide +kernel
theorem dX9_nearest_98 : decode cX9_nearest 98 = .ok (.goto (-92), 3) := by decide +kernel
theorem dX9_nearest_101 : decode cX9_nearest 101 = .ok (.iload 4, 2) := by decide +kernel
theorem dX9_nearest_103 : decode cX9_nearest 103 = .ok (.ireturn, 1) := by decide +kernel
theorem dX9_catcher_0 : decode cX9_catcher 0 = .ok (.iload_n 1, 1) := by decide +kernel
theorem dX9_catcher_1 : decode cX9_catcher 1 = .ok (.iconst (-1), 1) := by decide +kernel
theorem dX9_catcher_2 : decode cX9_catcher 2 = .ok (.if_icmp .ne 5, 3) := by decide +kernel
theorem dX9_catcher_5 : decode cX9_catcher 5 = .ok (.iconst (-1), 1) := by decide +kernel
theorem dX9_catcher_6 : decode cX9_catcher 6 = .ok (.ireturn, 1) := by decide +kernel
theorem dX9_catcher_7 : decode cX9_catcher 7 = .ok (.aload_n 0, 1) := by decide +kernel
theorem dX9_catcher_8 : decode cX9_catcher 8 = .ok (.iload_n 1, 1) := by decide +kernel
theorem dX9_catcher_9 : decode cX9_catcher 9 = .ok (.iload_n 2, 1) := by decide +kernel
theorem dX9_catcher_10 : decode cX9_catcher 10 = .ok (.iconst 0, 1) := by decide +kernel
theorem dX9_catcher_11 : decode cX9_catcher 11 = .ok (.invokevirtual 221, 3) := by decide +kernel
theorem dX9_catcher_14 : decode cX9_catcher 14 = .ok (.istore_n 3, 1) := by decide +kernel
theorem dX9_catcher_15 : decode cX9_catcher 15 = .ok (.iload_n 3, 1) := by decide +kernel
theorem dX9_catcher_16 : decode cX9_catcher 16 = .ok (.iconst (-1), 1) := by decide +kernel
theorem dX9_catcher_17 : decode cX9_catcher 17 = .ok (.if_icmp .ne 13, 3) := by decide +kernel
theorem dX9_catcher_20 : decode cX9_catcher 20 = .ok (.aload_n 0, 1) := by decide +kernel
theorem dX9_catcher_21 : decode cX9_catcher 21 = .ok (.iload_n 1, 1) := by decide +kernel
theorem dX9_catcher_22 : decode cX9_catcher 22 = .ok (.iload_n 2, 1) := by decide +kernel
theorem dX9_catcher_23 : decode cX9_catcher 23 = .ok (.iconst 1, 1) := by decide +kernel
theorem dX9_catcher_24 : decode cX9_catcher 24 = .ok (.invokevirtual 221, 3) := by decide +kernel
theorem dX9_catcher_27 : decode cX9_catcher 27 = .ok (.goto 4, 3) := by decide +kernel
theorem dX9_catcher_30 : decode cX9_catcher 30 = .ok (.iload_n 3, 1) := by decide +kernel
theorem dX9_catcher_31 : decode cX9_catcher 31 = .ok (.ireturn, 1) := by decide +kernel
theorem dX9_caughtBy_0 : decode cX9_caughtBy 0 = .ok (.aload_n 0, 1) := by decide +kernel
theorem dX9_caughtBy_1 : decode cX9_caughtBy 1 = .ok (.aload_n 0, 1) := by decide +kernel
theorem dX9_caughtBy_2 : decode cX9_caughtBy 2 = .ok (.iload_n 1, 1) := by decide +kernel
theorem dX9_caughtBy_3 : decode cX9_caughtBy 3 = .ok (.iload_n 2, 1) := by decide +kernel
theorem dX9_caughtBy_4 : decode cX9_caughtBy 4 = .ok (.iload_n 3, 1) := by decide +kernel
theorem dX9_caughtBy_5 : decode cX9_caughtBy 5 = .ok (.invokevirtual 210, 3) := by decide +kernel
theorem dX9_caughtBy_8 : decode cX9_caughtBy 8 = .ok (.iconst (-1), 1) := by decide +kernel
theorem dX9_caughtBy_9 : decode cX9_caughtBy 9 = .ok (.invokevirtual 225, 3) := by decide +kernel
theorem dX9_caughtBy_12 : decode cX9_caughtBy 12 = .ok (.ireturn, 1) := by decide +kernel
theorem dX9_caught_0 : decode cX9_caught 0 = .ok (.aload_n 0, 1) := by decide +kernel
theorem dX9_caught_1 : decode cX9_caught 1 = .ok (.iload_n 1, 1) := by decide +kernel
theorem dX9_caught_2 : decode cX9_caught 2 = .ok (.iload_n 2, 1) := by decide +kernel
theorem dX9_caught_3 : decode cX9_caught 3 = .ok (.iload_n 3, 1) := by decide +kernel
theorem dX9_caught_4 : decode cX9_caught 4 = .ok (.invokevirtual 207, 3) := by decide +kernel
theorem dX9_caught_7 : decode cX9_caught 7 = .ok (.ifCond .eq 13, 3) := by decide +kernel
theorem dX9_caught_10 : decode cX9_caught 10 = .ok (.aload_n 0, 1) := by decide +kernel
theorem dX9_caught_11 : decode cX9_caught 11 = .ok (.iload_n 1, 1) := by decide +kernel
theorem dX9_caught_12 : decode cX9_caught 12 = .ok (.iload_n 2, 1) := by decide +kernel
theorem dX9_caught_13 : decode cX9_caught 13 = .ok (.iload_n 3, 1) := by decide +kernel
theorem dX9_caught_14 : decode cX9_caught 14 = .ok (.invokevirtual 228, 3) := by decide +kernel
theorem dX9_caught_17 : decode cX9_caught 17 = .ok (.goto 9, 3) := by decide +kernel
theorem dX9_caught_20 : decode cX9_caught 20 = .ok (.aload_n 0, 1) := by decide +kernel
theorem dX9_caught_21 : decode cX9_caught 21 = .ok (.bipush (-2), 2) := by decide +kernel
theorem dX9_caught_23 : decode cX9_caught 23 = .ok (.invokevirtual 95, 3) := by decide +kernel
theorem dX9_caught_26 : decode cX9_caught 26 = .ok (.ireturn, 1) := by decide +kernel
theorem dX9_slowTo_0 : decode cX9_slowTo 0 = .ok (.aload_n 0, 1) := by decide +kernel
theorem dX9_slowTo_1 : decode cX9_slowTo 1 = .ok (.getfield 25, 3) := by decide +kernel
theorem dX9_slowTo_4 : decode cX9_slowTo 4 = .ok (.iload_n 1, 1) := by decide +kernel
theorem dX9_slowTo_5 : decode cX9_slowTo 5 = .ok (.iaload, 1) := by decide +kernel
theorem dX9_slowTo_6 : decode cX9_slowTo 6 = .ok (.istore_n 3, 1) := by decide +kernel
theorem dX9_slowTo_7 : decode cX9_slowTo 7 = .ok (.aload_n 0, 1) := by decide +kernel
theorem dX9_slowTo_8 : decode cX9_slowTo 8 = .ok (.getfield 22, 3) := by decide +kernel
theorem dX9_slowTo_11 : decode cX9_slowTo 11 = .ok (.iload_n 1, 1) := by decide +kernel
theorem dX9_slowTo_12 : decode cX9_slowTo 12 = .ok (.iaload, 1) := by decide +kernel
theorem dX9_slowTo_13 : decode cX9_slowTo 13 = .ok (.tableswitch 60 1 5 #[35, 41, 45, 53, 55], 35) := by decide +kernel
theorem dX9_slowTo_48 : decode cX9_slowTo 48 = .ok (.iconst 2, 1) := by decide +kernel
theorem dX9_slowTo_49 : decode cX9_slowTo 49 = .ok (.iload_n 3, 1) := by decide +kernel
theorem dX9_slowTo_50 : decode cX9_slowTo 50 = .ok (.imul, 1) := by decide +kernel
theorem dX9_slowTo_51 : decode cX9_slowTo 51 = .ok (.iconst 3, 1) := by decide +kernel
theorem dX9_slowTo_52 : decode cX9_slowTo 52 = .ok (.iadd, 1) := by decide +kernel
theorem dX9_slowTo_53 : decode cX9_slowTo 53 = .ok (.ireturn, 1) := by decide +kernel
theorem dX9_slowTo_54 : decode cX9_slowTo 54 = .ok (.iload_n 3, 1) := by decide +kernel
theorem dX9_slowTo_55 : decode cX9_slowTo 55 = .ok (.iconst 2, 1) := by decide +kernel
theorem dX9_slowTo_56 : decode cX9_slowTo 56 = .ok (.idiv, 1) := by decide +kernel
theorem dX9_slowTo_57 : decode cX9_slowTo 57 = .ok (.ireturn, 1) := by decide +kernel
theorem dX9_slowTo_58 : decode cX9_slowTo 58 = .ok (.iconst 2, 1) := by decide +kernel
theorem dX9_slowTo_59 : decode cX9_slowTo 59 = .ok (.iload_n 3, 1) := by decide +kernel
theorem dX9_slowTo_60 : decode cX9_slowTo 60 = .ok (.imul, 1) := by decide +kernel
theorem dX9_slowTo_61 : decode cX9_slowTo 61 = .ok (.iconst 3, 1) := by decide +kernel
theorem dX9_slowTo_62 : decode cX9_slowTo 62 = .ok (.iadd, 1) := by decide +kernel
theorem dX9_slowTo_63 : decode cX9_slowTo 63 = .ok (.iload_n 2, 1) := by decide +kernel
theorem dX9_slowTo_64 : decode cX9_slowTo 64 = .ok (.iadd, 1) := by decide +kernel
theorem dX9_slowTo_65 : decode cX9_slowTo 65 = .ok (.ireturn, 1) := by decide +kernel
theorem dX9_slowTo_66 : decode cX9_slowTo 66 = .ok (.iconst 0, 1) := by decide +kernel
theorem dX9_slowTo_67 : decode cX9_slowTo 67 = .ok (.ireturn, 1) := by decide +kernel
theorem dX9_slowTo_68 : decode cX9_slowTo 68 = .ok (.iload_n 3, 1) := by decide +kernel
theorem dX9_slowTo_69 : decode cX9_slowTo 69 = .ok (.bipush 10, 2) := by decide +kernel
theorem dX9_slowTo_71 : decode cX9_slowTo 71 = .ok (.iadd, 1) := by decide +kernel
theorem dX9_slowTo_72 : decode cX9_slowTo 72 = .ok (.ireturn, 1) := by decide +kernel
theorem dX9_slowTo_73 : decode cX9_slowTo 73 = .ok (.iload_n 3, 1) := by decide +kernel
theorem dX9_slowTo_74 : decode cX9_slowTo 74 = .ok (.ireturn, 1) := by decide +kernel
theorem dX9_slow_0 : decode cX9_slow 0 = .ok (.aload_n 0, 1) := by decide +kernel
theorem dX9_slow_1 : decode cX9_slow 1 = .ok (.iload_n 1, 1) := by decide +kernel
theorem dX9_slow_2 : decode cX9_slow 2 = .ok (.invokevirtual 109, 3) := by decide +kernel
theorem dX9_slow_5 : decode cX9_slow 5 = .ok (.ifCond .eq 25, 3) := by decide +kernel
theorem dX9_slow_8 : decode cX9_slow 8 = .ok (.aload_n 0, 1) := by decide +kernel
theorem dX9_slow_9 : decode cX9_slow 9 = .ok (.iload_n 2, 1) := by decide +kernel
theorem dX9_slow_10 : decode cX9_slow 10 = .ok (.invokevirtual 88, 3) := by decide +kernel
theorem dX9_slow_13 : decode cX9_slow 13 = .ok (.ifCond .eq 17, 3) := by decide +kernel
theorem dX9_slow_16 : decode cX9_slow 16 = .ok (.aload_n 0, 1) := by decide +kernel
theorem dX9_slow_17 : decode cX9_slow 17 = .ok (.iload_n 1, 1) := by decide +kernel
theorem dX9_slow_18 : decode cX9_slow 18 = .ok (.aload_n 0, 1) := by decide +kernel
theorem dX9_slow_19 : decode cX9_slow 19 = .ok (.getfield 16, 3) := by decide +kernel
theorem dX9_slow_22 : decode cX9_slow 22 = .ok (.iload_n 2, 1) := by decide +kernel
theorem dX9_slow_23 : decode cX9_slow 23 = .ok (.iaload, 1) := by decide +kernel
theorem dX9_slow_24 : decode cX9_slow 24 = .ok (.invokevirtual 116, 3) := by decide +kernel
theorem dX9_slow_27 : decode cX9_slow 27 = .ok (.goto 9, 3) := by decide +kernel
theorem dX9_slow_30 : decode cX9_slow 30 = .ok (.aload_n 0, 1) := by decide +kernel
theorem dX9_slow_31 : decode cX9_slow 31 = .ok (.bipush (-2), 2) := by decide +kernel
theorem dX9_slow_33 : decode cX9_slow 33 = .ok (.invokevirtual 95, 3) := by decide +kernel
theorem dX9_slow_36 : decode cX9_slow 36 = .ok (.ireturn, 1) := by decide +kernel
theorem dX9_isComing_0 : decode cX9_isComing 0 = .ok (.aload_n 0, 1) := by decide +kernel
theorem dX9_isComing_1 : decode cX9_isComing 1 = .ok (.getfield 7, 3) := by decide +kernel
theorem dX9_isComing_4 : decode cX9_isComing 4 = .ok (.iconst 1, 1) := by decide +kernel
theorem dX9_isComing_5 : decode cX9_isComing 5 = .ok (.iaload, 1) := by decide +kernel
theorem dX9_isComing_6 : decode cX9_isComing 6 = .ok (.aload_n 0, 1) := by decide +kernel
theorem dX9_isComing_7 : decode cX9_isComing 7 = .ok (.iload_n 1, 1) := by decide +kernel
theorem dX9_isComing_8 : decode cX9_isComing 8 = .ok (.aload_n 0, 1) := by decide +kernel
theorem dX9_isComing_9 : decode cX9_isComing 9 = .ok (.getfield 16, 3) := by decide +kernel
theorem dX9_isComing_12 : decode cX9_isComing 12 = .ok (.iload_n 2, 1) := by decide +kernel
theorem dX9_isComing_13 : decode cX9_isComing 13 = .ok (.iaload, 1) := by decide +kernel
theorem dX9_isComing_14 : decode cX9_isComing 14 = .ok (.invokevirtual 116, 3) := by decide +kernel
theorem dX9_isComing_17 : decode cX9_isComing 17 = .ok (.iadd, 1) := by decide +kernel
theorem dX9_isComing_18 : decode cX9_isComing 18 = .ok (.aload_n 0, 1) := by decide +kernel
theorem dX9_isComing_19 : decode cX9_isComing 19 = .ok (.getfield 7, 3) := by decide +kernel
theorem dX9_isComing_22 : decode cX9_isComing 22 = .ok (.iconst 2, 1) := by decide +kernel
theorem dX9_isComing_23 : decode cX9_isComing 23 = .ok (.iaload, 1) := by decide +kernel
theorem dX9_isComing_24 : decode cX9_isComing 24 = .ok (.if_icmp .gt 27, 3) := by decide +kernel
theorem dX9_isComing_27 : decode cX9_isComing 27 = .ok (.aload_n 0, 1) := by decide +kernel
theorem dX9_isComing_28 : decode cX9_isComing 28 = .ok (.getfield 22, 3) := by decide +kernel
theorem dX9_isComing_31 : decode cX9_isComing 31 = .ok (.iload_n 1, 1) := by decide +kernel
theorem dX9_isComing_32 : decode cX9_isComing 32 = .ok (.iaload, 1) := by decide +kernel
theorem dX9_isComing_33 : decode cX9_isComing 33 = .ok (.iconst 5, 1) := by decide +kernel
theorem dX9_isComing_34 : decode cX9_isComing 34 = .ok (.if_icmp .ne 13, 3) := by decide +kernel
theorem dX9_isComing_37 : decode cX9_isComing 37 = .ok (.aload_n 0, 1) := by decide +kernel
theorem dX9_isComing_38 : decode cX9_isComing 38 = .ok (.getfield 16, 3) := by decide +kernel
theorem dX9_isComing_41 : decode cX9_isComing 41 = .ok (.iload_n 2, 1) := by decide +kernel
theorem dX9_isComing_42 : decode cX9_isComing 42 = .ok (.iaload, 1) := by decide +kernel
theorem dX9_isComing_43 : decode cX9_isComing 43 = .ok (.iconst 1, 1) := by decide +kernel
theorem dX9_isComing_44 : decode cX9_isComing 44 = .ok (.if_icmp .ne 7, 3) := by decide +kernel
theorem dX9_isComing_47 : decode cX9_isComing 47 = .ok (.iconst 1, 1) := by decide +kernel
theorem dX9_isComing_48 : decode cX9_isComing 48 = .ok (.goto 4, 3) := by decide +kernel
theorem dX9_isComing_51 : decode cX9_isComing 51 = .ok (.iconst 0, 1) := by decide +kernel
theorem dX9_isComing_52 : decode cX9_isComing 52 = .ok (.ireturn, 1) := by decide +kernel
theorem dX9_comes_0 : decode cX9_comes 0 = .ok (.aload_n 0, 1) := by decide +kernel
theorem dX9_comes_1 : decode cX9_comes 1 = .ok (.iload_n 1, 1) := by decide +kernel
theorem dX9_comes_2 : decode cX9_comes 2 = .ok (.invokevirtual 109, 3) := by decide +kernel
theorem dX9_comes_5 : decode cX9_comes 5 = .ok (.ifCond .eq 11, 3) := by decide +kernel
theorem dX9_comes_8 : decode cX9_comes 8 = .ok (.aload_n 0, 1) := by decide +kernel
theorem dX9_comes_9 : decode cX9_comes 9 = .ok (.iload_n 2, 1) := by decide +kernel
theorem dX9_comes_10 : decode cX9_comes 10 = .ok (.invokevirtual 88, 3) := by decide +kernel
theorem dX9_comes_13 : decode cX9_comes 13 = .ok (.ifCond .ne 10, 3) := by decide +kernel
theorem dX9_comes_16 : decode cX9_comes 16 = .ok (.aload_n 0, 1) := by decide +kernel
theorem dX9_comes_17 : decode cX9_comes 17 = .ok (.bipush (-2), 2) := by decide +kernel
theorem dX9_comes_19 : decode cX9_comes 19 = .ok (.invokevirtual 95, 3) := by decide +kernel
theorem dX9_comes_22 : decode cX9_comes 22 = .ok (.ireturn, 1) := by decide +kernel
theorem dX9_comes_23 : decode cX9_comes 23 = .ok (.aload_n 0, 1) := by decide +kernel
theorem dX9_comes_24 : decode cX9_comes 24 = .ok (.iload_n 1, 1) := by decide +kernel
theorem dX9_comes_25 : decode cX9_comes 25 = .ok (.iload_n 2, 1) := by decide +kernel
theorem dX9_comes_26 : decode cX9_comes 26 = .ok (.invokevirtual 231, 3) := by decide +kernel
theorem dX9_comes_29 : decode cX9_comes 29 = .ok (.ifCond .eq 7, 3) := by decide +kernel
theorem dX9_comes_32 : decode cX9_comes 32 = .ok (.iconst 1, 1) := by decide +kernel
theorem dX9_comes_33 : decode cX9_comes 33 = .ok (.goto 4, 3) := by decide +kernel
theorem dX9_comes_36 : decode cX9_comes 36 = .ok (.iconst 0, 1) := by decide +kernel
theorem dX9_comes_37 : decode cX9_comes 37 = .ok (.ireturn, 1) := by decide +kernel
theorem dX9_throwsFor_0 : decode cX9_throwsFor 0 = .ok (.aload_n 0, 1) := by decide +kernel
theorem dX9_throwsFor_1 : decode cX9_throwsFor 1 = .ok (.iload_n 1, 1) := by decide +kernel
theorem dX9_throwsFor_2 : decode cX9_throwsFor 2 = .ok (.invokevirtual 109, 3) := by decide +kernel
theorem dX9_throwsFor_5 : decode cX9_throwsFor 5 = .ok (.ifCond .eq 20, 3) := by decide +kernel
theorem dX9_throwsFor_8 : decode cX9_throwsFor 8 = .ok (.aload_n 0, 1) := by decide +kernel
theorem dX9_throwsFor_9 : decode cX9_throwsFor 9 = .ok (.iload_n 2, 1) := by decide +kernel
theorem dX9_throwsFor_10 : decode cX9_throwsFor 10 = .ok (.invokevirtual 88, 3) := by decide +kernel
theorem dX9_throwsFor_13 : decode cX9_throwsFor 13 = .ok (.ifCond .eq 12, 3) := by decide +kernel
theorem dX9_throwsFor_16 : decode cX9_throwsFor 16 = .ok (.iload_n 3, 1) := by decide +kernel
theorem dX9_throwsFor_17 : decode cX9_throwsFor 17 = .ok (.iconst 0, 1) := by decide +kernel
theorem dX9_throwsFor_18 : decode cX9_throwsFor 18 = .ok (.iconst 2, 1) := by decide +kernel
theorem dX9_throwsFor_19 : decode cX9_throwsFor 19 = .ok (.invokestatic 78, 3) := by decide +kernel
theorem dX9_throwsFor_22 : decode cX9_throwsFor 22 = .ok (.ifCond .ne 10, 3) := by decide +kernel
theorem dX9_throwsFor_25 : decode cX9_throwsFor 25 = .ok (.aload_n 0, 1) := by decide +kernel
theorem dX9_throwsFor_26 : decode cX9_throwsFor 26 = .ok (.bipush (-2), 2) := by decide +kernel
theorem dX9_throwsFor_28 : decode cX9_throwsFor 28 = .ok (.invokevirtual 95, 3) := by decide +kernel
theorem dX9_throwsFor_31 : decode cX9_throwsFor 31 = .ok (.ireturn, 1) := by decide +kernel
theorem dX9_throwsFor_32 : decode cX9_throwsFor 32 = .ok (.iconst 0, 1) := by decide +kernel
theorem dX9_throwsFor_33 : decode cX9_throwsFor 33 = .ok (.istore 4, 2) := by decide +kernel
theorem dX9_throwsFor_35 : decode cX9_throwsFor 35 = .ok (.iconst (-1), 1) := by decide +kernel
theorem dX9_throwsFor_36 : decode cX9_throwsFor 36 = .ok (.istore 5, 2) := by decide +kernel
theorem dX9_throwsFor_38 : decode cX9_throwsFor 38 = .ok (.bipush 29, 2) := by decide +kernel
theorem dX9_throwsFor_40 : decode cX9_throwsFor 40 = .ok (.istore 6, 2) := by decide +kernel
theorem dX9_throwsFor_42 : decode cX9_throwsFor 42 = .ok (.iload 6, 2) := by decide +kernel
theorem dX9_throwsFor_44 : decode cX9_throwsFor 44 = .ok (.ifCond .lt 36, 3) := by decide +kernel
theorem dX9_throwsFor_47 : decode cX9_throwsFor 47 = .ok (.aload_n 0, 1) := by decide +kernel
theorem dX9_throwsFor_48 : decode cX9_throwsFor 48 = .ok (.iload_n 2, 1) := by decide +kernel
theorem dX9_throwsFor_49 : decode cX9_throwsFor 49 = .ok (.iload 6, 2) := by decide +kernel
theorem dX9_throwsFor_51 : decode cX9_throwsFor 51 = .ok (.iconst 3, 1) := by decide +kernel
theorem dX9_throwsFor_52 : decode cX9_throwsFor 52 = .ok (.idiv, 1) := by decide +kernel
theorem dX9_throwsFor_53 : decode cX9_throwsFor 53 = .ok (.iload 6, 2) := by decide +kernel
theorem dX9_throwsFor_55 : decode cX9_throwsFor 55 = .ok (.iconst 3, 1) := by decide +kernel
theorem dX9_throwsFor_56 : decode cX9_throwsFor 56 = .ok (.irem, 1) := by decide +kernel
theorem dX9_throwsFor_57 : decode cX9_throwsFor 57 = .ok (.invokevirtual 228, 3) := by decide +kernel
theorem dX9_throwsFor_60 : decode cX9_throwsFor 60 = .ok (.iload_n 1, 1) := by decide +kernel
theorem dX9_throwsFor_61 : decode cX9_throwsFor 61 = .ok (.if_icmp .eq 6, 3) := by decide +kernel
theorem dX9_throwsFor_64 : decode cX9_throwsFor 64 = .ok (.goto 10, 3) := by decide +kernel
theorem dX9_throwsFor_67 : decode cX9_throwsFor 67 = .ok (.iinc 4 1, 3) := by decide +kernel
theorem dX9_throwsFor_70 : decode cX9_throwsFor 70 = .ok (.iload 6, 2) := by decide +kernel
theorem dX9_throwsFor_72 : decode cX9_throwsFor 72 = .ok (.istore 5, 2) := by decide +kernel
theorem dX9_throwsFor_74 : decode cX9_throwsFor 74 = .ok (.iinc 6 (-1), 3) := by decide +kernel
theorem dX9_throwsFor_77 : decode cX9_throwsFor 77 = .ok (.goto (-35), 3) := by decide +kernel
theorem dX9_throwsFor_80 : decode cX9_throwsFor 80 = .ok (.iload_n 3, 1) := by decide +kernel
theorem dX9_throwsFor_81 : decode cX9_throwsFor 81 = .ok (.ifCond .ne 8, 3) := by decide +kernel
theorem dX9_throwsFor_84 : decode cX9_throwsFor 84 = .ok (.iload 4, 2) := by decide +kernel
theorem dX9_throwsFor_86 : decode cX9_throwsFor 86 = .ok (.goto 29, 3) := by decide +kernel
theorem dX9_throwsFor_89 : decode cX9_throwsFor 89 = .ok (.iload 5, 2) := by decide +kernel
theorem dX9_throwsFor_91 : decode cX9_throwsFor 91 = .ok (.iconst (-1), 1) := by decide +kernel
theorem dX9_throwsFor_92 : decode cX9_throwsFor 92 = .ok (.if_icmp .ne 7, 3) := by decide +kernel
theorem dX9_throwsFor_95 : decode cX9_throwsFor 95 = .ok (.iconst (-1), 1) := by decide +kernel
theorem dX9_throwsFor_96 : decode cX9_throwsFor 96 = .ok (.goto 19, 3) := by decide +kernel
theorem dX9_throwsFor_99 : decode cX9_throwsFor 99 = .ok (.iload_n 3, 1) := by decide +kernel
theorem dX9_throwsFor_100 : decode cX9_throwsFor 100 = .ok (.iconst 1, 1) := by decide +kernel
theorem dX9_throwsFor_101 : decode cX9_throwsFor 101 = .ok (.if_icmp .ne 10, 3) := by decide +kernel
theorem dX9_throwsFor_104 : decode cX9_throwsFor 104 = .ok (.iload 5, 2) := by decide +kernel
theorem dX9_throwsFor_106 : decode cX9_throwsFor 106 = .ok (.iconst 3, 1) := by decide +kernel
theorem dX9_throwsFor_107 : decode cX9_throwsFor 107 = .ok (.idiv, 1) := by decide +kernel
theorem dX9_throwsFor_108 : decode cX9_throwsFor 108 = .ok (.goto 7, 3) := by decide +kernel
theorem dX9_throwsFor_111 : decode cX9_throwsFor 111 = .ok (.iload 5, 2) := by decide +kernel
theorem dX9_throwsFor_113 : decode cX9_throwsFor 113 = .ok (.iconst 3, 1) := by decide +kernel
theorem dX9_throwsFor_114 : decode cX9_throwsFor 114 = .ok (.irem, 1) := by decide +kernel
theorem dX9_throwsFor_115 : decode cX9_throwsFor 115 = .ok (.ireturn, 1) := by decide +kernel
theorem dX9_hitFrom_0 : decode cX9_hitFrom 0 = .ok (.iconst 0, 1) := by decide +kernel
theorem dX9_hitFrom_1 : decode cX9_hitFrom 1 = .ok (.istore_n 2, 1) := by decide +kernel
theorem dX9_hitFrom_2 : decode cX9_hitFrom 2 = .ok (.iconst 0, 1) := by decide +kernel
theorem dX9_hitFrom_3 : decode cX9_hitFrom 3 = .ok (.istore_n 3, 1) := by decide +kernel
theorem dX9_hitFrom_4 : decode cX9_hitFrom 4 = .ok (.iload_n 3, 1) := by decide +kernel
theorem dX9_hitFrom_5 : decode cX9_hitFrom 5 = .ok (.bipush 30, 2) := by decide +kernel
theorem dX9_hitFrom_7 : decode cX9_hitFrom 7 = .ok (.if_icmp .ge 35, 3) := by decide +kernel
theorem dX9_hitFrom_10 : decode cX9_hitFrom 10 = .ok (.aload_n 0, 1) := by decide +kernel
theorem dX9_hitFrom_11 : decode cX9_hitFrom 11 = .ok (.iload_n 1, 1) := by decide +kernel
theorem dX9_hitFrom_12 : decode cX9_hitFrom 12 = .ok (.iload_n 3, 1) := by decide +kernel
theorem dX9_hitFrom_13 : decode cX9_hitFrom 13 = .ok (.iconst 3, 1) := by decide +kernel
theorem dX9_hitFrom_14 : decode cX9_hitFrom 14 = .ok (.idiv, 1) := by decide +kernel
theorem dX9_hitFrom_15 : decode cX9_hitFrom 15 = .ok (.iload_n 3, 1) := by decide +kernel
theorem dX9_hitFrom_16 : decode cX9_hitFrom 16 = .ok (.iconst 3, 1) := by decide +kernel
theorem dX9_hitFrom_17 : decode cX9_hitFrom 17 = .ok (.irem, 1) := by decide +kernel
theorem dX9_hitFrom_18 : decode cX9_hitFrom 18 = .ok (.invokevirtual 228, 3) := by decide +kernel
theorem dX9_hitFrom_21 : decode cX9_hitFrom 21 = .ok (.istore 4, 2) := by decide +kernel
theorem dX9_hitFrom_23 : decode cX9_hitFrom 23 = .ok (.iload 4, 2) := by decide +kernel
theorem dX9_hitFrom_25 : decode cX9_hitFrom 25 = .ok (.iconst (-1), 1) := by decide +kernel
theorem dX9_hitFrom_26 : decode cX9_hitFrom 26 = .ok (.if_icmp .eq 10, 3) := by decide +kernel
theorem dX9_hitFrom_29 : decode cX9_hitFrom 29 = .ok (.iload_n 2, 1) := by decide +kernel
theorem dX9_hitFrom_30 : decode cX9_hitFrom 30 = .ok (.iconst 1, 1) := by decide +kernel
theorem dX9_hitFrom_31 : decode cX9_hitFrom 31 = .ok (.iload 4, 2) := by decide +kernel
theorem dX9_hitFrom_33 : decode cX9_hitFrom 33 = .ok (.ishl, 1) := by decide +kernel
theorem dX9_hitFrom_34 : decode cX9_hitFrom 34 = .ok (.ior, 1) := by decide +kernel
theorem dX9_hitFrom_35 : decode cX9_hitFrom 35 = .ok (.istore_n 2, 1) := by decide +kernel
theorem dX9_hitFrom_36 : decode cX9_hitFrom 36 = .ok (.iinc 3 1, 3) := by decide +kernel
theorem dX9_hitFrom_39 : decode cX9_hitFrom 39 = .ok (.goto (-35), 3) := by decide +kernel
theorem dX9_hitFrom_42 : decode cX9_hitFrom 42 = .ok (.iload_n 2, 1) := by decide +kernel
theorem dX9_hitFrom_43 : decode cX9_hitFrom 43 = .ok (.ireturn, 1) := by decide +kernel
theorem dX9_hit_0 : decode cX9_hit 0 = .ok (.aload_n 0, 1) := by decide +kernel
theorem dX9_hit_1 : decode cX9_hit 1 = .ok (.iload_n 1, 1) := by decide +kernel
theorem dX9_hit_2 : decode cX9_hit 2 = .ok (.invokevirtual 88, 3) := by decide +kernel
theorem dX9_hit_5 : decode cX9_hit 5 = .ok (.ifCond .eq 11, 3) := by decide +kernel
theorem dX9_hit_8 : decode cX9_hit 8 = .ok (.aload_n 0, 1) := by decide +kernel
theorem dX9_hit_9 : decode cX9_hit 9 = .ok (.iload_n 1, 1) := by decide +kernel
theorem dX9_hit_10 : decode cX9_hit 10 = .ok (.invokevirtual 234, 3) := by decide +kernel
theorem dX9_hit_13 : decode cX9_hit 13 = .ok (.goto 9, 3) := by decide +kernel
theorem dX9_hit_16 : decode cX9_hit 16 = .ok (.aload_n 0, 1) := by decide +kernel
theorem dX9_hit_17 : decode cX9_hit 17 = .ok (.bipush (-2), 2) := by decide +kernel
theorem dX9_hit_19 : decode cX9_hit 19 = .ok (.invokevirtual 95, 3) := by decide +kernel
theorem dX9_hit_22 : decode cX9_hit 22 = .ok (.ireturn, 1) := by decide +kernel
theorem dX9_openTo_0 : decode cX9_openTo 0 = .ok (.iconst 0, 1) := by decide +kernel
theorem dX9_openTo_1 : decode cX9_openTo 1 = .ok (.istore_n 2, 1) := by decide +kernel
theorem dX9_openTo_2 : decode cX9_openTo 2 = .ok (.iconst 0, 1) := by decide +kernel
theorem dX9_openTo_3 : decode cX9_openTo 3 = .ok (.istore_n 3, 1) := by decide +kernel
theorem dX9_openTo_4 : decode cX9_openTo 4 = .ok (.iload_n 3, 1) := by decide +kernel
theorem dX9_openTo_5 : decode cX9_openTo 5 = .ok (.bipush 30, 2) := by decide +kernel
theorem dX9_openTo_7 : decode cX9_openTo 7 = .ok (.if_icmp .ge 35, 3) := by decide +kernel
theorem dX9_openTo_10 : decode cX9_openTo 10 = .ok (.aload_n 0, 1) := by decide +kernel
theorem dX9_openTo_11 : decode cX9_openTo 11 = .ok (.iload_n 1, 1) := by decide +kernel
theorem dX9_openTo_12 : decode cX9_openTo 12 = .ok (.iload_n 3, 1) := by decide +kernel
theorem dX9_openTo_13 : decode cX9_openTo 13 = .ok (.iconst 3, 1) := by decide +kernel
theorem dX9_openTo_14 : decode cX9_openTo 14 = .ok (.idiv, 1) := by decide +kernel
theorem dX9_openTo_15 : decode cX9_openTo 15 = .ok (.iload_n 3, 1) := by decide +kernel
theorem dX9_openTo_16 : decode cX9_openTo 16 = .ok (.iconst 3, 1) := by decide +kernel
theorem dX9_openTo_17 : decode cX9_openTo 17 = .ok (.irem, 1) := by decide +kernel
theorem dX9_openTo_18 : decode cX9_openTo 18 = .ok (.invokevirtual 210, 3) := by decide +kernel
theorem dX9_openTo_21 : decode cX9_openTo 21 = .ok (.istore 4, 2) := by decide +kernel
theorem dX9_openTo_23 : decode cX9_openTo 23 = .ok (.iload 4, 2) := by decide +kernel
theorem dX9_openTo_25 : decode cX9_openTo 25 = .ok (.iconst (-1), 1) := by decide +kernel
theorem dX9_openTo_26 : decode cX9_openTo 26 = .ok (.if_icmp .eq 10, 3) := by decide +kernel
theorem dX9_openTo_29 : decode cX9_openTo 29 = .ok (.iload_n 2, 1) := by decide +kernel
theorem dX9_openTo_30 : decode cX9_openTo 30 = .ok (.iconst 1, 1) := by decide +kernel
theorem dX9_openTo_31 : decode cX9_openTo 31 = .ok (.iload 4, 2) := by decide +kernel
theorem dX9_openTo_33 : decode cX9_openTo 33 = .ok (.ishl, 1) := by decide +kernel
theorem dX9_openTo_34 : decode cX9_openTo 34 = .ok (.ior, 1) := by decide +kernel
theorem dX9_openTo_35 : decode cX9_openTo 35 = .ok (.istore_n 2, 1) := by decide +kernel
theorem dX9_openTo_36 : decode cX9_openTo 36 = .ok (.iinc 3 1, 3) := by decide +kernel
theorem dX9_openTo_39 : decode cX9_openTo 39 = .ok (.goto (-35), 3) := by decide +kernel
theorem dX9_openTo_42 : decode cX9_openTo 42 = .ok (.iload_n 2, 1) := by decide +kernel
theorem dX9_openTo_43 : decode cX9_openTo 43 = .ok (.ireturn, 1) := by decide +kernel
theorem dX9_astray_0 : decode cX9_astray 0 = .ok (.aload_n 0, 1) := by decide +kernel
theorem dX9_astray_1 : decode cX9_astray 1 = .ok (.getfield 7, 3) := by decide +kernel
theorem dX9_astray_4 : decode cX9_astray 4 = .ok (.iconst 0, 1) := by decide +kernel
theorem dX9_astray_5 : decode cX9_astray 5 = .ok (.iaload, 1) := by decide +kernel
theorem dX9_astray_6 : decode cX9_astray 6 = .ok (.istore_n 2, 1) := by decide +kernel
theorem dX9_astray_7 : decode cX9_astray 7 = .ok (.iconst 0, 1) := by decide +kernel
theorem dX9_astray_8 : decode cX9_astray 8 = .ok (.istore_n 3, 1) := by decide +kernel
theorem dX9_astray_9 : decode cX9_astray 9 = .ok (.iconst 0, 1) := by decide +kernel
theorem dX9_astray_10 : decode cX9_astray 10 = .ok (.istore 4, 2) := by decide +kernel
theorem dX9_astray_12 : decode cX9_astray 12 = .ok (.iload 4, 2) := by decide +kernel
theorem dX9_astray_14 : decode cX9_astray 14 = .ok (.bipush 11, 2) := by decide +kernel
theorem dX9_astray_16 : decode cX9_astray 16 = .ok (.if_icmp .ge 25, 3) := by decide +kernel
theorem dX9_astray_19 : decode cX9_astray 19 = .ok (.aload_n 0, 1) := by decide +kernel
theorem dX9_astray_20 : decode cX9_astray 20 = .ok (.getfield 7, 3) := by decide +kernel
theorem dX9_astray_23 : decode cX9_astray 23 = .ok (.iconst 0, 1) := by decide +kernel
theorem dX9_astray_24 : decode cX9_astray 24 = .ok (.iload 4, 2) := by decide +kernel
theorem dX9_astray_26 : decode cX9_astray 26 = .ok (.iastore, 1) := by decide +kernel
theorem dX9_astray_27 : decode cX9_astray 27 = .ok (.iload_n 3, 1) := by decide +kernel
theorem dX9_astray_28 : decode cX9_astray 28 = .ok (.aload_n 0, 1) := by decide +kernel
theorem dX9_astray_29 : decode cX9_astray 29 = .ok (.iload_n 1, 1) := by decide +kernel
theorem dX9_astray_30 : decode cX9_astray 30 = .ok (.invokevirtual 237, 3) := by decide +kernel
theorem dX9_astray_33 : decode cX9_astray 33 = .ok (.ior, 1) := by decide +kernel
theorem dX9_astray_34 : decode cX9_astray 34 = .ok (.istore_n 3, 1) := by decide +kernel
theorem dX9_astray_35 : decode cX9_astray 35 = .ok (.iinc 4 1, 3) := by decide +kernel
theorem dX9_astray_38 : decode cX9_astray 38 = .ok (.goto (-26), 3) := by decide +kernel
theorem dX9_astray_41 : decode cX9_astray 41 = .ok (.aload_n 0, 1) := by decide +kernel
theorem dX9_astray_42 : decode cX9_astray 42 = .ok (.getfield 7, 3) := by decide +kernel
theorem dX9_astray_45 : decode cX9_astray 45 = .ok (.iconst 0, 1) := by decide +kernel
theorem dX9_astray_46 : decode cX9_astray 46 = .ok (.iload_n 2, 1) := by decide +kernel
theorem dX9_astray_47 : decode cX9_astray 47 = .ok (.iastore, 1) := by decide +kernel
theorem dX9_astray_48 : decode cX9_astray 48 = .ok (.iload_n 3, 1) := by decide +kernel
theorem dX9_astray_49 : decode cX9_astray 49 = .ok (.ireturn, 1) := by decide +kernel
theorem dX9_open_0 : decode cX9_open 0 = .ok (.aload_n 0, 1) := by decide +kernel
theorem dX9_open_1 : decode cX9_open 1 = .ok (.iload_n 1, 1) := by decide +kernel
theorem dX9_open_2 : decode cX9_open 2 = .ok (.invokevirtual 88, 3) := by decide +kernel
theorem dX9_open_5 : decode cX9_open 5 = .ok (.ifCond .eq 12, 3) := by decide +kernel
theorem dX9_open_8 : decode cX9_open 8 = .ok (.iload_n 2, 1) := by decide +kernel
theorem dX9_open_9 : decode cX9_open 9 = .ok (.iconst 0, 1) := by decide +kernel
theorem dX9_open_10 : decode cX9_open 10 = .ok (.iconst 1, 1) := by decide +kernel
theorem dX9_open_11 : decode cX9_open 11 = .ok (.invokestatic 78, 3) := by decide +kernel
theorem dX9_open_14 : decode cX9_open 14 = .ok (.ifCond .ne 10, 3) := by decide +kernel
theorem dX9_open_17 : decode cX9_open 17 = .ok (.aload_n 0, 1) := by decide +kernel
theorem dX9_open_18 : decode cX9_open 18 = .ok (.bipush (-2), 2) := by decide +kernel
theorem dX9_open_20 : decode cX9_open 20 = .ok (.invokevirtual 95, 3) := by decide +kernel
theorem dX9_open_23 : decode cX9_open 23 = .ok (.ireturn, 1) := by decide +kernel
theorem dX9_open_24 : decode cX9_open 24 = .ok (.iload_n 2, 1) := by decide +kernel
theorem dX9_open_25 : decode cX9_open 25 = .ok (.ifCond .ne 11, 3) := by decide +kernel
theorem dX9_open_28 : decode cX9_open 28 = .ok (.aload_n 0, 1) := by decide +kernel
theorem dX9_open_29 : decode cX9_open 29 = .ok (.iload_n 1, 1) := by decide +kernel
theorem dX9_open_30 : decode cX9_open 30 = .ok (.invokevirtual 237, 3) := by decide +kernel
theorem dX9_open_33 : decode cX9_open 33 = .ok (.goto 8, 3) := by decide +kernel
theorem dX9_open_36 : decode cX9_open 36 = .ok (.aload_n 0, 1) := by decide +kernel
theorem dX9_open_37 : decode cX9_open 37 = .ok (.iload_n 1, 1) := by decide +kernel
theorem dX9_open_38 : decode cX9_open 38 = .ok (.invokevirtual 240, 3) := by decide +kernel
theorem dX9_open_41 : decode cX9_open 41 = .ok (.ireturn, 1) := by decide +kernel
theorem dX9_mayBeHers_0 : decode cX9_mayBeHers 0 = .ok (.iconst 0, 1) := by decide +kernel
theorem dX9_mayBeHers_1 : decode cX9_mayBeHers 1 = .ok (.istore_n 3, 1) := by decide +kernel
theorem dX9_mayBeHers_2 : decode cX9_mayBeHers 2 = .ok (.iload_n 3, 1) := by decide +kernel
theorem dX9_mayBeHers_3 : decode cX9_mayBeHers 3 = .ok (.bipush 30, 2) := by decide +kernel
theorem dX9_mayBeHers_5 : decode cX9_mayBeHers 5 = .ok (.if_icmp .ge 45, 3) := by decide +kernel
theorem dX9_mayBeHers_8 : decode cX9_mayBeHers 8 = .ok (.aload_n 0, 1) := by decide +kernel
theorem dX9_mayBeHers_9 : decode cX9_mayBeHers 9 = .ok (.iload_n 2, 1) := by decide +kernel
theorem dX9_mayBeHers_10 : decode cX9_mayBeHers 10 = .ok (.iload_n 3, 1) := by decide +kernel
theorem dX9_mayBeHers_11 : decode cX9_mayBeHers 11 = .ok (.iconst 3, 1) := by decide +kernel
theorem dX9_mayBeHers_12 : decode cX9_mayBeHers 12 = .ok (.idiv, 1) := by decide +kernel
theorem dX9_mayBeHers_13 : decode cX9_mayBeHers 13 = .ok (.iload_n 3, 1) := by decide +kernel
theorem dX9_mayBeHers_14 : decode cX9_mayBeHers 14 = .ok (.iconst 3, 1) := by decide +kernel
theorem dX9_mayBeHers_15 : decode cX9_mayBeHers 15 = .ok (.irem, 1) := by decide +kernel
theorem dX9_mayBeHers_16 : decode cX9_mayBeHers 16 = .ok (.invokevirtual 210, 3) := by decide +kernel
theorem dX9_mayBeHers_19 : decode cX9_mayBeHers 19 = .ok (.istore 4, 2) := by decide +kernel
theorem dX9_mayBeHers_21 : decode cX9_mayBeHers 21 = .ok (.iload 4, 2) := by decide +kernel
theorem dX9_mayBeHers_23 : decode cX9_mayBeHers 23 = .ok (.iconst (-1), 1) := by decide +kernel
theorem dX9_mayBeHers_24 : decode cX9_mayBeHers 24 = .ok (.if_icmp .eq 20, 3) := by decide +kernel
theorem dX9_mayBeHers_27 : decode cX9_mayBeHers 27 = .ok (.aload_n 0, 1) := by decide +kernel
theorem dX9_mayBeHers_28 : decode cX9_mayBeHers 28 = .ok (.iload_n 1, 1) := by decide +kernel
theorem dX9_mayBeHers_29 : decode cX9_mayBeHers 29 = .ok (.iload 4, 2) := by decide +kernel
theorem dX9_mayBeHers_31 : decode cX9_mayBeHers 31 = .ok (.invokevirtual 218, 3) := by decide +kernel
theorem dX9_mayBeHers_34 : decode cX9_mayBeHers 34 = .ok (.aload_n 0, 1) := by decide +kernel
theorem dX9_mayBeHers_35 : decode cX9_mayBeHers 35 = .ok (.iload_n 1, 1) := by decide +kernel
theorem dX9_mayBeHers_36 : decode cX9_mayBeHers 36 = .ok (.invokevirtual 204, 3) := by decide +kernel
theorem dX9_mayBeHers_39 : decode cX9_mayBeHers 39 = .ok (.if_icmp .gt 5, 3) := by decide +kernel
theorem dX9_mayBeHers_42 : decode cX9_mayBeHers 42 = .ok (.iconst 1, 1) := by decide +kernel
theorem dX9_mayBeHers_43 : decode cX9_mayBeHers 43 = .ok (.ireturn, 1) := by decide +kernel
theorem dX9_mayBeHers_44 : decode cX9_mayBeHers 44 = .ok (.iinc 3 1, 3) := by decide +kernel
theorem dX9_mayBeHers_47 : decode cX9_mayBeHers 47 = .ok (.goto (-45), 3) := by decide +kernel
theorem dX9_mayBeHers_50 : decode cX9_mayBeHers 50 = .ok (.iconst 0, 1) := by decide +kernel
theorem dX9_mayBeHers_51 : decode cX9_mayBeHers 51 = .ok (.ireturn, 1) := by decide +kernel
theorem dX9_whose_0 : decode cX9_whose 0 = .ok (.aload_n 0, 1) := by decide +kernel
theorem dX9_whose_1 : decode cX9_whose 1 = .ok (.iload_n 1, 1) := by decide +kernel
theorem dX9_whose_2 : decode cX9_whose 2 = .ok (.invokevirtual 109, 3) := by decide +kernel
theorem dX9_whose_5 : decode cX9_whose 5 = .ok (.ifCond .eq 22, 3) := by decide +kernel
theorem dX9_whose_8 : decode cX9_whose 8 = .ok (.iload_n 2, 1) := by decide +kernel
theorem dX9_whose_9 : decode cX9_whose 9 = .ok (.iconst 0, 1) := by decide +kernel
theorem dX9_whose_10 : decode cX9_whose 10 = .ok (.bipush 9, 2) := by decide +kernel
theorem dX9_whose_12 : decode cX9_whose 12 = .ok (.invokestatic 78, 3) := by decide +kernel
theorem dX9_whose_15 : decode cX9_whose 15 = .ok (.ifCond .eq 12, 3) := by decide +kernel
theorem dX9_whose_18 : decode cX9_whose 18 = .ok (.iload_n 3, 1) := by decide +kernel
theorem dX9_whose_19 : decode cX9_whose 19 = .ok (.iconst 0, 1) := by decide +kernel
theorem dX9_whose_20 : decode cX9_whose 20 = .ok (.iconst 2, 1) := by decide +kernel
theorem dX9_whose_21 : decode cX9_whose 21 = .ok (.invokestatic 78, 3) := by decide +kernel
theorem dX9_whose_24 : decode cX9_whose 24 = .ok (.ifCond .ne 10, 3) := by decide +kernel
theorem dX9_whose_27 : decode cX9_whose 27 = .ok (.aload_n 0, 1) := by decide +kernel
theorem dX9_whose_28 : decode cX9_whose 28 = .ok (.bipush (-2), 2) := by decide +kernel
theorem dX9_whose_30 : decode cX9_whose 30 = .ok (.invokevirtual 95, 3) := by decide +kernel
theorem dX9_whose_33 : decode cX9_whose 33 = .ok (.ireturn, 1) := by decide +kernel
theorem dX9_whose_34 : decode cX9_whose 34 = .ok (.iconst 0, 1) := by decide +kernel
theorem dX9_whose_35 : decode cX9_whose 35 = .ok (.istore 4, 2) := by decide +kernel
theorem dX9_whose_37 : decode cX9_whose 37 = .ok (.iconst 0, 1) := by decide +kernel
theorem dX9_whose_38 : decode cX9_whose 38 = .ok (.istore 5, 2) := by decide +kernel
theorem dX9_whose_40 : decode cX9_whose 40 = .ok (.iconst (-1), 1) := by decide +kernel
theorem dX9_whose_41 : decode cX9_whose 41 = .ok (.istore 6, 2) := by decide +kernel
theorem dX9_whose_43 : decode cX9_whose 43 = .ok (.iconst 0, 1) := by decide +kernel
theorem dX9_whose_44 : decode cX9_whose 44 = .ok (.istore 7, 2) := by decide +kernel
theorem dX9_whose_46 : decode cX9_whose 46 = .ok (.iload 7, 2) := by decide +kernel
theorem dX9_whose_48 : decode cX9_whose 48 = .ok (.aload_n 0, 1) := by decide +kernel
theorem dX9_whose_49 : decode cX9_whose 49 = .ok (.getfield 82, 3) := by decide +kernel
theorem dX9_whose_52 : decode cX9_whose 52 = .ok (.if_icmp .ge 81, 3) := by decide +kernel
theorem dX9_whose_55 : decode cX9_whose 55 = .ok (.aload_n 0, 1) := by decide +kernel
theorem dX9_whose_56 : decode cX9_whose 56 = .ok (.getfield 19, 3) := by decide +kernel
theorem dX9_whose_59 : decode cX9_whose 59 = .ok (.iload 7, 2) := by decide +kernel
theorem dX9_whose_61 : decode cX9_whose 61 = .ok (.iaload, 1) := by decide +kernel
theorem dX9_whose_62 : decode cX9_whose 62 = .ok (.iload_n 2, 1) := by decide +kernel
theorem dX9_whose_63 : decode cX9_whose 63 = .ok (.if_icmp .ne 64, 3) := by decide +kernel
theorem dX9_whose_66 : decode cX9_whose 66 = .ok (.aload_n 0, 1) := by decide +kernel
theorem dX9_whose_67 : decode cX9_whose 67 = .ok (.iload_n 1, 1) := by decide +kernel
theorem dX9_whose_68 : decode cX9_whose 68 = .ok (.iload 7, 2) := by decide +kernel
theorem dX9_whose_70 : decode cX9_whose 70 = .ok (.invokevirtual 243, 3) := by decide +kernel
theorem dX9_whose_73 : decode cX9_whose 73 = .ok (.ifCond .ne 6, 3) := by decide +kernel
theorem dX9_whose_76 : decode cX9_whose 76 = .ok (.goto 51, 3) := by decide +kernel
theorem dX9_whose_79 : decode cX9_whose 79 = .ok (.iload 4, 2) := by decide +kernel
theorem dX9_whose_81 : decode cX9_whose 81 = .ok (.iconst 1, 1) := by decide +kernel
theorem dX9_whose_82 : decode cX9_whose 82 = .ok (.iload 7, 2) := by decide +kernel
theorem dX9_whose_84 : decode cX9_whose 84 = .ok (.ishl, 1) := by decide +kernel
theorem dX9_whose_85 : decode cX9_whose 85 = .ok (.ior, 1) := by decide +kernel
theorem dX9_whose_86 : decode cX9_whose 86 = .ok (.istore 4, 2) := by decide +kernel
theorem dX9_whose_88 : decode cX9_whose 88 = .ok (.iload 5, 2) := by decide +kernel
theorem dX9_whose_90 : decode cX9_whose 90 = .ok (.aload_n 0, 1) := by decide +kernel
theorem dX9_whose_91 : decode cX9_whose 91 = .ok (.getfield 16, 3) := by decide +kernel
theorem dX9_whose_94 : decode cX9_whose 94 = .ok (.iload 7, 2) := by decide +kernel
theorem dX9_whose_96 : decode cX9_whose 96 = .ok (.iaload, 1) := by decide +kernel
theorem dX9_whose_97 : decode cX9_whose 97 = .ok (.iadd, 1) := by decide +kernel
theorem dX9_whose_98 : decode cX9_whose 98 = .ok (.istore 5, 2) := by decide +kernel
theorem dX9_whose_100 : decode cX9_whose 100 = .ok (.iload 6, 2) := by decide +kernel
theorem dX9_whose_102 : decode cX9_whose 102 = .ok (.iconst (-1), 1) := by decide +kernel
theorem dX9_whose_103 : decode cX9_whose 103 = .ok (.if_icmp .eq 20, 3) := by decide +kernel
theorem dX9_whose_106 : decode cX9_whose 106 = .ok (.aload_n 0, 1) := by decide +kernel
theorem dX9_whose_107 : decode cX9_whose 107 = .ok (.getfield 16, 3) := by decide +kernel
theorem dX9_whose_110 : decode cX9_whose 110 = .ok (.iload 7, 2) := by decide +kernel
theorem dX9_whose_112 : decode cX9_whose 112 = .ok (.iaload, 1) := by decide +kernel
theorem dX9_whose_113 : decode cX9_whose 113 = .ok (.aload_n 0, 1) := by decide +kernel
theorem dX9_whose_114 : decode cX9_whose 114 = .ok (.getfield 16, 3) := by decide +kernel
theorem dX9_whose_117 : decode cX9_whose 117 = .ok (.iload 6, 2) := by decide +kernel
theorem dX9_whose_119 : decode cX9_whose 119 = .ok (.iaload, 1) := by decide +kernel
theorem dX9_whose_120 : decode cX9_whose 120 = .ok (.if_icmp .ge 7, 3) := by decide +kernel
theorem dX9_whose_123 : decode cX9_whose 123 = .ok (.iload 7, 2) := by decide +kernel
theorem dX9_whose_125 : decode cX9_whose 125 = .ok (.istore 6, 2) := by decide +kernel
theorem dX9_whose_127 : decode cX9_whose 127 = .ok (.iinc 7 1, 3) := by decide +kernel
theorem dX9_whose_130 : decode cX9_whose 130 = .ok (.goto (-84), 3) := by decide +kernel
theorem dX9_whose_133 : decode cX9_whose 133 = .ok (.iload_n 3, 1) := by decide +kernel
theorem dX9_whose_134 : decode cX9_whose 134 = .ok (.ifCond .ne 8, 3) := by decide +kernel
theorem dX9_whose_137 : decode cX9_whose 137 = .ok (.iload 4, 2) := by decide +kernel
theorem dX9_whose_139 : decode cX9_whose 139 = .ok (.goto 15, 3) := by decide +kernel
theorem dX9_whose_142 : decode cX9_whose 142 = .ok (.iload_n 3, 1) := by decide +kernel
theorem dX9_whose_143 : decode cX9_whose 143 = .ok (.iconst 1, 1) := by decide +kernel
theorem dX9_whose_144 : decode cX9_whose 144 = .ok (.if_icmp .ne 8, 3) := by decide +kernel
theorem dX9_whose_147 : decode cX9_whose 147 = .ok (.iload 5, 2) := by decide +kernel
theorem dX9_whose_149 : decode cX9_whose 149 = .ok (.goto 5, 3) := by decide +kernel
theorem dX9_whose_152 : decode cX9_whose 152 = .ok (.iload 6, 2) := by decide +kernel
theorem dX9_whose_154 : decode cX9_whose 154 = .ok (.ireturn, 1) := by decide +kernel
theorem dX9_fondness_0 : decode cX9_fondness 0 = .ok (.bipush 10, 2) := by decide +kernel
theorem dX9_fondness_2 : decode cX9_fondness 2 = .ok (.aload_n 0, 1) := by decide +kernel
theorem dX9_fondness_3 : decode cX9_fondness 3 = .ok (.getfield 19, 3) := by decide +kernel
theorem dX9_fondness_6 : decode cX9_fondness 6 = .ok (.iload_n 1, 1) := by decide +kernel
theorem dX9_fondness_7 : decode cX9_fondness 7 = .ok (.iaload, 1) := by decide +kernel
theorem dX9_fondness_8 : decode cX9_fondness 8 = .ok (.aload_n 0, 1) := by decide +kernel
theorem dX9_fondness_9 : decode cX9_fondness 9 = .ok (.getfield 25, 3) := by decide +kernel
theorem dX9_fondness_12 : decode cX9_fondness 12 = .ok (.iload_n 2, 1) := by decide +kernel
theorem dX9_fondness_13 : decode cX9_fondness 13 = .ok (.iaload, 1) := by decide +kernel
theorem dX9_fondness_14 : decode cX9_fondness 14 = .ok (.isub, 1) := by decide +kernel
theorem dX9_fondness_15 : decode cX9_fondness 15 = .ok (.invokestatic 213, 3) := by decide +kernel
theorem dX9_fondness_18 : decode cX9_fondness 18 = .ok (.isub, 1) := by decide +kernel
theorem dX9_fondness_19 : decode cX9_fondness 19 = .ok (.ireturn, 1) := by decide +kernel
theorem dX9_fond_0 : decode cX9_fond 0 = .ok (.aload_n 0, 1) := by decide +kernel
theorem dX9_fond_1 : decode cX9_fond 1 = .ok (.iload_n 1, 1) := by decide +kernel
theorem dX9_fond_2 : decode cX9_fond 2 = .ok (.invokevirtual 88, 3) := by decide +kernel
theorem dX9_fond_5 : decode cX9_fond 5 = .ok (.ifCond .eq 20, 3) := by decide +kernel
theorem dX9_fond_8 : decode cX9_fond 8 = .ok (.aload_n 0, 1) := by decide +kernel
theorem dX9_fond_9 : decode cX9_fond 9 = .ok (.iload_n 2, 1) := by decide +kernel
theorem dX9_fond_10 : decode cX9_fond 10 = .ok (.invokevirtual 109, 3) := by decide +kernel
theorem dX9_fond_13 : decode cX9_fond 13 = .ok (.ifCond .eq 12, 3) := by decide +kernel
theorem dX9_fond_16 : decode cX9_fond 16 = .ok (.aload_n 0, 1) := by decide +kernel
theorem dX9_fond_17 : decode cX9_fond 17 = .ok (.iload_n 1, 1) := by decide +kernel
theorem dX9_fond_18 : decode cX9_fond 18 = .ok (.iload_n 2, 1) := by decide +kernel
theorem dX9_fond_19 : decode cX9_fond 19 = .ok (.invokevirtual 246, 3) := by decide +kernel
theorem dX9_fond_22 : decode cX9_fond 22 = .ok (.goto 9, 3) := by decide +kernel
theorem dX9_fond_25 : decode cX9_fond 25 = .ok (.aload_n 0, 1) := by decide +kernel
theorem dX9_fond_26 : decode cX9_fond 26 = .ok (.bipush (-2), 2) := by decide +kernel
theorem dX9_fond_28 : decode cX9_fond 28 = .ok (.invokevirtual 95, 3) := by decide +kernel
theorem dX9_fond_31 : decode cX9_fond 31 = .ok (.ireturn, 1) := by decide +kernel
theorem dX9_tries_0 : decode cX9_tries 0 = .ok (.iload_n 1, 1) := by decide +kernel
theorem dX9_tries_1 : decode cX9_tries 1 = .ok (.aload_n 0, 1) := by decide +kernel
theorem dX9_tries_2 : decode cX9_tries 2 = .ok (.getfield 82, 3) := by decide +kernel
theorem dX9_tries_5 : decode cX9_tries 5 = .ok (.if_icmp .ne 48, 3) := by decide +kernel
theorem dX9_tries_8 : decode cX9_tries 8 = .ok (.iload_n 3, 1) := by decide +kernel
theorem dX9_tries_9 : decode cX9_tries 9 = .ok (.aload_n 0, 1) := by decide +kernel
theorem dX9_tries_10 : decode cX9_tries 10 = .ok (.getfield 249, 3) := by decide +kernel
theorem dX9_tries_13 : decode cX9_tries 13 = .ok (.if_icmp .gt 4, 3) := by decide +kernel
theorem dX9_tries_16 : decode cX9_tries 16 = .ok (.return_, 1) := by decide +kernel
theorem dX9_tries_17 : decode cX9_tries 17 = .ok (.aload_n 0, 1) := by decide +kernel
theorem dX9_tries_18 : decode cX9_tries 18 = .ok (.iload_n 3, 1) := by decide +kernel
theorem dX9_tries_19 : decode cX9_tries 19 = .ok (.putfield 249, 3) := by decide +kernel
theorem dX9_tries_22 : decode cX9_tries 22 = .ok (.iconst 0, 1) := by decide +kernel
theorem dX9_tries_23 : decode cX9_tries 23 = .ok (.istore 4, 2) := by decide +kernel
theorem dX9_tries_25 : decode cX9_tries 25 = .ok (.iload 4, 2) := by decide +kernel
theorem dX9_tries_27 : decode cX9_tries 27 = .ok (.bipush 8, 2) := by decide +kernel
theorem dX9_tries_29 : decode cX9_tries 29 = .ok (.if_icmp .ge 23, 3) := by decide +kernel
theorem dX9_tries_32 : decode cX9_tries 32 = .ok (.aload_n 0, 1) := by decide +kernel
theorem dX9_tries_33 : decode cX9_tries 33 = .ok (.getfield 68, 3) := by decide +kernel
theorem dX9_tries_36 : decode cX9_tries 36 = .ok (.iload 4, 2) := by decide +kernel
theorem dX9_tries_38 : decode cX9_tries 38 = .ok (.aload_n 0, 1) := by decide +kernel
theorem dX9_tries_39 : decode cX9_tries 39 = .ok (.getfield 65, 3) := by decide +kernel
theorem dX9_tries_42 : decode cX9_tries 42 = .ok (.iload 4, 2) := by decide +kernel
theorem dX9_tries_44 : decode cX9_tries 44 = .ok (.iaload, 1) := by decide +kernel
theorem dX9_tries_45 : decode cX9_tries 45 = .ok (.iastore, 1) := by decide +kernel
theorem dX9_tries_46 : decode cX9_tries 46 = .ok (.iinc 4 1, 3) := by decide +kernel
theorem dX9_tries_49 : decode cX9_tries 49 = .ok (.goto (-24), 3) := by decide +kernel
theorem dX9_tries_52 : decode cX9_tries 52 = .ok (.return_, 1) := by decide +kernel
theorem dX9_tries_53 : decode cX9_tries 53 = .ok (.aload_n 0, 1) := by decide +kernel
theorem dX9_tries_54 : decode cX9_tries 54 = .ok (.getfield 65, 3) := by decide +kernel
theorem dX9_tries_57 : decode cX9_tries 57 = .ok (.iload_n 1, 1) := by decide +kernel
theorem dX9_tries_58 : decode cX9_tries 58 = .ok (.iconst (-1), 1) := by decide +kernel
theorem dX9_tries_59 : decode cX9_tries 59 = .ok (.iastore, 1) := by decide +kernel
theorem dX9_tries_60 : decode cX9_tries 60 = .ok (.aload_n 0, 1) := by decide +kernel
theorem dX9_tries_61 : decode cX9_tries 61 = .ok (.iload_n 1, 1) := by decide +kernel
theorem dX9_tries_62 : decode cX9_tries 62 = .ok (.iconst 1, 1) := by decide +kernel
theorem dX9_tries_63 : decode cX9_tries 63 = .ok (.iadd, 1) := by decide +kernel
theorem dX9_tries_64 : decode cX9_tries 64 = .ok (.iload_n 2, 1) := by decide +kernel
theorem dX9_tries_65 : decode cX9_tries 65 = .ok (.iload_n 3, 1) := by decide +kernel
theorem dX9_tries_66 : decode cX9_tries 66 = .ok (.invokevirtual 252, 3) := by decide +kernel
theorem dX9_tries_69 : decode cX9_tries 69 = .ok (.iconst 0, 1) := by decide +kernel
theorem dX9_tries_70 : decode cX9_tries 70 = .ok (.istore 4, 2) := by decide +kernel
theorem dX9_tries_72 : decode cX9_tries 72 = .ok (.iload 4, 2) := by decide +kernel
theorem dX9_tries_74 : decode cX9_tries 74 = .ok (.aload_n 0, 1) := by decide +kernel
theorem dX9_tries_75 : decode cX9_tries 75 = .ok (.getfield 85, 3) := by decide +kernel
theorem dX9_tries_78 : decode cX9_tries 78 = .ok (.if_icmp .ge 66, 3) := by decide +kernel
theorem dX9_tries_81 : decode cX9_tries 81 = .ok (.aload_n 0, 1) := by decide +kernel
theorem dX9_tries_82 : decode cX9_tries 82 = .ok (.getfield 62, 3) := by decide +kernel
theorem dX9_tries_85 : decode cX9_tries 85 = .ok (.iload_n 1, 1) := by decide +kernel
theorem dX9_tries_86 : decode cX9_tries 86 = .ok (.iaload, 1) := by decide +kernel
theorem dX9_tries_87 : decode cX9_tries 87 = .ok (.iload 4, 2) := by decide +kernel
theorem dX9_tries_89 : decode cX9_tries 89 = .ok (.ishr, 1) := by decide +kernel
theorem dX9_tries_90 : decode cX9_tries 90 = .ok (.iconst 1, 1) := by decide +kernel
theorem dX9_tries_91 : decode cX9_tries 91 = .ok (.iand, 1) := by decide +kernel
theorem dX9_tries_92 : decode cX9_tries 92 = .ok (.ifCond .eq 46, 3) := by decide +kernel
theorem dX9_tries_95 : decode cX9_tries 95 = .ok (.iload_n 2, 1) := by decide +kernel
theorem dX9_tries_96 : decode cX9_tries 96 = .ok (.iload 4, 2) := by decide +kernel
theorem dX9_tries_98 : decode cX9_tries 98 = .ok (.ishr, 1) := by decide +kernel
theorem dX9_tries_99 : decode cX9_tries 99 = .ok (.iconst 1, 1) := by decide +kernel
theorem dX9_tries_100 : decode cX9_tries 100 = .ok (.iand, 1) := by decide +kernel
theorem dX9_tries_101 : decode cX9_tries 101 = .ok (.iconst 1, 1) := by decide +kernel
theorem dX9_tries_102 : decode cX9_tries 102 = .ok (.if_icmp .ne 6, 3) := by decide +kernel
theorem dX9_tries_105 : decode cX9_tries 105 = .ok (.goto 33, 3) := by decide +kernel
theorem dX9_tries_108 : decode cX9_tries 108 = .ok (.aload_n 0, 1) := by decide +kernel
theorem dX9_tries_109 : decode cX9_tries 109 = .ok (.getfield 65, 3) := by decide +kernel
theorem dX9_tries_112 : decode cX9_tries 112 = .ok (.iload_n 1, 1) := by decide +kernel
theorem dX9_tries_113 : decode cX9_tries 113 = .ok (.iload 4, 2) := by decide +kernel
theorem dX9_tries_115 : decode cX9_tries 115 = .ok (.iastore, 1) := by decide +kernel
theorem dX9_tries_116 : decode cX9_tries 116 = .ok (.aload_n 0, 1) := by decide +kernel
theorem dX9_tries_117 : decode cX9_tries 117 = .ok (.iload_n 1, 1) := by decide +kernel
theorem dX9_tries_118 : decode cX9_tries 118 = .ok (.iconst 1, 1) := by decide +kernel
theorem dX9_tries_119 : decode cX9_tries 119 = .ok (.iadd, 1) := by decide +kernel
theorem dX9_tries_120 : decode cX9_tries 120 = .ok (.iload_n 2, 1) := by decide +kernel
theorem dX9_tries_121 : decode cX9_tries 121 = .ok (.iconst 1, 1) := by decide +kernel
theorem dX9_tries_122 : decode cX9_tries 122 = .ok (.iload 4, 2) := by decide +kernel
theorem dX9_tries_124 : decode cX9_tries 124 = .ok (.ishl, 1) := by decide +kernel
theorem dX9_tries_125 : decode cX9_tries 125 = .ok (.ior, 1) := by decide +kernel
theorem dX9_tries_126 : decode cX9_tries 126 = .ok (.iload_n 3, 1) := by decide +kernel
theorem dX9_tries_127 : decode cX9_tries 127 = .ok (.aload_n 0, 1) := by decide +kernel
theorem dX9_tries_128 : decode cX9_tries 128 = .ok (.iload_n 1, 1) := by decide +kernel
theorem dX9_tries_129 : decode cX9_tries 129 = .ok (.iload 4, 2) := by decide +kernel
theorem dX9_tries_131 : decode cX9_tries 131 = .ok (.invokevirtual 246, 3) := by decide +kernel
theorem dX9_tries_134 : decode cX9_tries 134 = .ok (.iadd, 1) := by decide +kernel
theorem dX9_tries_135 : decode cX9_tries 135 = .ok (.invokevirtual 252, 3) := by decide +kernel
theorem dX9_tries_138 : decode cX9_tries 138 = .ok (.iinc 4 1, 3) := by decide +kernel
theorem dX9_tries_141 : decode cX9_tries 141 = .ok (.goto (-69), 3) := by decide +kernel
theorem dX9_tries_144 : decode cX9_tries 144 = .ok (.return_, 1) := by decide +kernel
theorem dX9_pairs_0 : decode cX9_pairs 0 = .ok (.iload_n 1, 1) := by decide +kernel
theorem dX9_pairs_1 : decode cX9_pairs 1 = .ok (.bipush (-2), 2) := by decide +kernel
theorem dX9_pairs_3 : decode cX9_pairs 3 = .ok (.iconst (-1), 1) := by decide +kernel
theorem dX9_pairs_4 : decode cX9_pairs 4 = .ok (.invokestatic 78, 3) := by decide +kernel
theorem dX9_pairs_7 : decode cX9_pairs 7 = .ok (.ifCond .ne 18, 3) := by decide +kernel
theorem dX9_pairs_10 : decode cX9_pairs 10 = .ok (.aload_n 0, 1) := by decide +kernel
theorem dX9_pairs_11 : decode cX9_pairs 11 = .ok (.iload_n 1, 1) := by decide +kernel
theorem dX9_pairs_12 : decode cX9_pairs 12 = .ok (.invokevirtual 88, 3) := by decide +kernel
theorem dX9_pairs_15 : decode cX9_pairs 15 = .ok (.ifCond .ne 10, 3) := by decide +kernel
theorem dX9_pairs_18 : decode cX9_pairs 18 = .ok (.aload_n 0, 1) := by decide +kernel
theorem dX9_pairs_19 : decode cX9_pairs 19 = .ok (.bipush (-2), 2) := by decide +kernel
theorem dX9_pairs_21 : decode cX9_pairs 21 = .ok (.invokevirtual 95, 3) := by decide +kernel
theorem dX9_pairs_24 : decode cX9_pairs 24 = .ok (.ireturn, 1) := by decide +kernel
theorem dX9_pairs_25 : decode cX9_pairs 25 = .ok (.iconst 0, 1) := by decide +kernel
theorem dX9_pairs_26 : decode cX9_pairs 26 = .ok (.istore_n 2, 1) := by decide +kernel
theorem dX9_pairs_27 : decode cX9_pairs 27 = .ok (.iload_n 2, 1) := by decide +kernel
theorem dX9_pairs_28 : decode cX9_pairs 28 = .ok (.bipush 8, 2) := by decide +kernel
theorem dX9_pairs_30 : decode cX9_pairs 30 = .ok (.if_icmp .ge 28, 3) := by decide +kernel
theorem dX9_pairs_33 : decode cX9_pairs 33 = .ok (.aload_n 0, 1) := by decide +kernel
theorem dX9_pairs_34 : decode cX9_pairs 34 = .ok (.getfield 59, 3) := by decide +kernel
theorem dX9_pairs_37 : decode cX9_pairs 37 = .ok (.iload_n 2, 1) := by decide +kernel
theorem dX9_pairs_38 : decode cX9_pairs 38 = .ok (.aload_n 0, 1) := by decide +kernel
theorem dX9_pairs_39 : decode cX9_pairs 39 = .ok (.getfield 31, 3) := by decide +kernel
theorem dX9_pairs_42 : decode cX9_pairs 42 = .ok (.iload_n 2, 1) := by decide +kernel
theorem dX9_pairs_43 : decode cX9_pairs 43 = .ok (.iaload, 1) := by decide +kernel
theorem dX9_pairs_44 : decode cX9_pairs 44 = .ok (.iastore, 1) := by decide +kernel
theorem dX9_pairs_45 : decode cX9_pairs 45 = .ok (.aload_n 0, 1) := by decide +kernel
theorem dX9_pairs_46 : decode cX9_pairs 46 = .ok (.getfield 31, 3) := by decide +kernel
theorem dX9_pairs_49 : decode cX9_pairs 49 = .ok (.iload_n 2, 1) := by decide +kernel
theorem dX9_pairs_50 : decode cX9_pairs 50 = .ok (.iconst (-1), 1) := by decide +kernel
theorem dX9_pairs_51 : decode cX9_pairs 51 = .ok (.iastore, 1) := by decide +kernel
theorem dX9_pairs_52 : decode cX9_pairs 52 = .ok (.iinc 2 1, 3) := by decide +kernel
theorem dX9_pairs_55 : decode cX9_pairs 55 = .ok (.goto (-28), 3) := by decide +kernel
theorem dX9_pairs_58 : decode cX9_pairs 58 = .ok (.iconst 0, 1) := by decide +kernel
theorem dX9_pairs_59 : decode cX9_pairs 59 = .ok (.istore_n 2, 1) := by decide +kernel
theorem dX9_pairs_60 : decode cX9_pairs 60 = .ok (.iload_n 2, 1) := by decide +kernel
theorem dX9_pairs_61 : decode cX9_pairs 61 = .ok (.aload_n 0, 1) := by decide +kernel
theorem dX9_pairs_62 : decode cX9_pairs 62 = .ok (.getfield 82, 3) := by decide +kernel
theorem dX9_pairs_65 : decode cX9_pairs 65 = .ok (.if_icmp .ge 20, 3) := by decide +kernel
theorem dX9_pairs_68 : decode cX9_pairs 68 = .ok (.aload_n 0, 1) := by decide +kernel
theorem dX9_pairs_69 : decode cX9_pairs 69 = .ok (.getfield 62, 3) := by decide +kernel
theorem dX9_pairs_72 : decode cX9_pairs 72 = .ok (.iload_n 2, 1) := by decide +kernel
theorem dX9_pairs_73 : decode cX9_pairs 73 = .ok (.aload_n 0, 1) := by decide +kernel
theorem dX9_pairs_74 : decode cX9_pairs 74 = .ok (.iload_n 2, 1) := by decide +kernel
theorem dX9_pairs_75 : decode cX9_pairs 75 = .ok (.invokevirtual 234, 3) := by decide +kernel
theorem dX9_pairs_78 : decode cX9_pairs 78 = .ok (.iastore, 1) := by decide +kernel
theorem dX9_pairs_79 : decode cX9_pairs 79 = .ok (.iinc 2 1, 3) := by decide +kernel
theorem dX9_pairs_82 : decode cX9_pairs 82 = .ok (.goto (-22), 3) := by decide +kernel
theorem dX9_pairs_85 : decode cX9_pairs 85 = .ok (.iconst 0, 1) := by decide +kernel
theorem dX9_pairs_86 : decode cX9_pairs 86 = .ok (.istore_n 2, 1) := by decide +kernel
theorem dX9_pairs_87 : decode cX9_pairs 87 = .ok (.iload_n 2, 1) := by decide +kernel
theorem dX9_pairs_88 : decode cX9_pairs 88 = .ok (.bipush 8, 2) := by decide +kernel
theorem dX9_pairs_90 : decode cX9_pairs 90 = .ok (.if_icmp .ge 21, 3) := by decide +kernel
theorem dX9_pairs_93 : decode cX9_pairs 93 = .ok (.aload_n 0, 1) := by decide +kernel
theorem dX9_pairs_94 : decode cX9_pairs 94 = .ok (.getfield 31, 3) := by decide +kernel
theorem dX9_pairs_97 : decode cX9_pairs 97 = .ok (.iload_n 2, 1) := by decide +kernel
theorem dX9_pairs_98 : decode cX9_pairs 98 = .ok (.aload_n 0, 1) := by decide +kernel
theorem dX9_pairs_99 : decode cX9_pairs 99 = .ok (.getfield 59, 3) := by decide +kernel
theorem dX9_pairs_102 : decode cX9_pairs 102 = .ok (.iload_n 2, 1) := by decide +kernel
theorem dX9_pairs_103 : decode cX9_pairs 103 = .ok (.iaload, 1) := by decide +kernel
theorem dX9_pairs_104 : decode cX9_pairs 104 = .ok (.iastore, 1) := by decide +kernel
theorem dX9_pairs_105 : decode cX9_pairs 105 = .ok (.iinc 2 1, 3) := by decide +kernel
theorem dX9_pairs_108 : decode cX9_pairs 108 = .ok (.goto (-21), 3) := by decide +kernel
theorem dX9_pairs_111 : decode cX9_pairs 111 = .ok (.aload_n 0, 1) := by decide +kernel
theorem dX9_pairs_112 : decode cX9_pairs 112 = .ok (.iconst (-1), 1) := by decide +kernel
theorem dX9_pairs_113 : decode cX9_pairs 113 = .ok (.putfield 249, 3) := by decide +kernel
theorem dX9_pairs_116 : decode cX9_pairs 116 = .ok (.aload_n 0, 1) := by decide +kernel
theorem dX9_pairs_117 : decode cX9_pairs 117 = .ok (.iconst 0, 1) := by decide +kernel
theorem dX9_pairs_118 : decode cX9_pairs 118 = .ok (.iconst 0, 1) := by decide +kernel
theorem dX9_pairs_119 : decode cX9_pairs 119 = .ok (.iconst 0, 1) := by decide +kernel
theorem dX9_pairs_120 : decode cX9_pairs 120 = .ok (.invokevirtual 252, 3) := by decide +kernel
theorem dX9_pairs_123 : decode cX9_pairs 123 = .ok (.iload_n 1, 1) := by decide +kernel
theorem dX9_pairs_124 : decode cX9_pairs 124 = .ok (.iconst (-1), 1) := by decide +kernel
theorem dX9_pairs_125 : decode cX9_pairs 125 = .ok (.if_icmp .ne 8, 3) := by decide +kernel
theorem dX9_pairs_128 : decode cX9_pairs 128 = .ok (.aload_n 0, 1) := by decide +kernel
theorem dX9_pairs_129 : decode cX9_pairs 129 = .ok (.getfield 249, 3) := by decide +kernel
theorem dX9_pairs_132 : decode cX9_pairs 132 = .ok (.ireturn, 1) := by decide +kernel
theorem dX9_pairs_133 : decode cX9_pairs 133 = .ok (.iload_n 1, 1) := by decide +kernel
theorem dX9_pairs_134 : decode cX9_pairs 134 = .ok (.bipush (-2), 2) := by decide +kernel
theorem dX9_pairs_136 : decode cX9_pairs 136 = .ok (.if_icmp .eq 10, 3) := by decide +kernel
theorem dX9_pairs_139 : decode cX9_pairs 139 = .ok (.aload_n 0, 1) := by decide +kernel
theorem dX9_pairs_140 : decode cX9_pairs 140 = .ok (.getfield 68, 3) := by decide +kernel
theorem dX9_pairs_143 : decode cX9_pairs 143 = .ok (.iload_n 1, 1) := by decide +kernel
theorem dX9_pairs_144 : decode cX9_pairs 144 = .ok (.iaload, 1) := by decide +kernel
theorem dX9_pairs_145 : decode cX9_pairs 145 = .ok (.ireturn, 1) := by decide +kernel
theorem dX9_pairs_146 : decode cX9_pairs 146 = .ok (.iconst 0, 1) := by decide +kernel
theorem dX9_pairs_147 : decode cX9_pairs 147 = .ok (.istore_n 2, 1) := by decide +kernel
theorem dX9_pairs_148 : decode cX9_pairs 148 = .ok (.iconst 0, 1) := by decide +kernel
theorem dX9_pairs_149 : decode cX9_pairs 149 = .ok (.istore_n 3, 1) := by decide +kernel
theorem dX9_pairs_150 : decode cX9_pairs 150 = .ok (.iload_n 3, 1) := by decide +kernel
theorem dX9_pairs_151 : decode cX9_pairs 151 = .ok (.aload_n 0, 1) := by decide +kernel
theorem dX9_pairs_152 : decode cX9_pairs 152 = .ok (.getfield 82, 3) := by decide +kernel
theorem dX9_pairs_155 : decode cX9_pairs 155 = .ok (.if_icmp .ge 22, 3) := by decide +kernel
theorem dX9_pairs_158 : decode cX9_pairs 158 = .ok (.aload_n 0, 1) := by decide +kernel
theorem dX9_pairs_159 : decode cX9_pairs 159 = .ok (.getfield 68, 3) := by decide +kernel
theorem dX9_pairs_162 : decode cX9_pairs 162 = .ok (.iload_n 3, 1) := by decide +kernel
theorem dX9_pairs_163 : decode cX9_pairs 163 = .ok (.iaload, 1) := by decide +kernel
theorem dX9_pairs_164 : decode cX9_pairs 164 = .ok (.iconst (-1), 1) := by decide +kernel
theorem dX9_pairs_165 : decode cX9_pairs 165 = .ok (.if_icmp .eq 6, 3) := by decide +kernel
theorem dX9_pairs_168 : decode cX9_pairs 168 = .ok (.iinc 2 1, 3) := by decide +kernel
theorem dX9_pairs_171 : decode cX9_pairs 171 = .ok (.iinc 3 1, 3) := by decide +kernel
theorem dX9_pairs_174 : decode cX9_pairs 174 = .ok (.goto (-24), 3) := by decide +kernel
theorem dX9_pairs_177 : decode cX9_pairs 177 = .ok (.iload_n 2, 1) := by decide +kernel
theorem dX9_pairs_178 : decode cX9_pairs 178 = .ok (.ireturn, 1) := by decide +kernel
theorem dX9_toldAt_0 : decode cX9_toldAt 0 = .ok (.aload_n 0, 1) := by decide +kernel
theorem dX9_toldAt_1 : decode cX9_toldAt 1 = .ok (.getfield 46, 3) := by decide +kernel
theorem dX9_toldAt_4 : decode cX9_toldAt 4 = .ok (.bipush 40, 2) := by decide +kernel
theorem dX9_toldAt_6 : decode cX9_toldAt 6 = .ok (.iload_n 1, 1) := by decide +kernel
theorem dX9_toldAt_7 : decode cX9_toldAt 7 = .ok (.imul, 1) := by decide +kernel
theorem dX9_toldAt_8 : decode cX9_toldAt 8 = .ok (.iload_n 2, 1) := by decide +kernel
theorem dX9_toldAt_9 : decode cX9_toldAt 9 = .ok (.iadd, 1) := by decide +kernel
theorem dX9_toldAt_10 : decode cX9_toldAt 10 = .ok (.laload, 1) := by decide +kernel
theorem dX9_toldAt_11 : decode cX9_toldAt 11 = .ok (.lreturn, 1) := by decide +kernel
theorem dX9_noTold_0 : decode cX9_noTold 0 = .ok (.aload_n 0, 1) := by decide +kernel
theorem dX9_noTold_1 : decode cX9_noTold 1 = .ok (.iload_n 1, 1) := by decide +kernel
theorem dX9_noTold_2 : decode cX9_noTold 2 = .ok (.invokevirtual 99, 3) := by decide +kernel
theorem dX9_noTold_5 : decode cX9_noTold 5 = .ok (.ifCond .ne 11, 3) := by decide +kernel
theorem dX9_noTold_8 : decode cX9_noTold 8 = .ok (.aload_n 0, 1) := by decide +kernel
theorem dX9_noTold_9 : decode cX9_noTold 9 = .ok (.iload_n 1, 1) := by decide +kernel
theorem dX9_noTold_10 : decode cX9_noTold 10 = .ok (.invokevirtual 102, 3) := by decide +kernel
theorem dX9_noTold_13 : decode cX9_noTold 13 = .ok (.goto 19, 3) := by decide +kernel
theorem dX9_noTold_16 : decode cX9_noTold 16 = .ok (.iload_n 2, 1) := by decide +kernel
theorem dX9_noTold_17 : decode cX9_noTold 17 = .ok (.aload_n 0, 1) := by decide +kernel
theorem dX9_noTold_18 : decode cX9_noTold 18 = .ok (.getfield 43, 3) := by decide +kernel
theorem dX9_noTold_21 : decode cX9_noTold 21 = .ok (.iload_n 1, 1) := by decide +kernel
theorem dX9_noTold_22 : decode cX9_noTold 22 = .ok (.iaload, 1) := by decide +kernel
theorem dX9_noTold_23 : decode cX9_noTold 23 = .ok (.if_icmp .le 8, 3) := by decide +kernel
theorem dX9_noTold_26 : decode cX9_noTold 26 = .ok (.bipush (-2), 2) := by decide +kernel
theorem dX9_noTold_28 : decode cX9_noTold 28 = .ok (.goto 4, 3) := by decide +kernel
theorem dX9_noTold_31 : decode cX9_noTold 31 = .ok (.iconst 0, 1) := by decide +kernel
theorem dX9_noTold_32 : decode cX9_noTold 32 = .ok (.ireturn, 1) := by decide +kernel
theorem dX9_isThrowTold_0 : decode cX9_isThrowTold 0 = .ok (.lload_n 1, 1) := by decide +kernel
theorem dX9_isThrowTold_1 : decode cX9_isThrowTold 1 = .ok (.lconst 0, 1) := by decide +kernel
theorem dX9_isThrowTold_2 : decode cX9_isThrowTold 2 = .ok (.lcmp, 1) := by decide +kernel
theorem dX9_isThrowTold_3 : decode cX9_isThrowTold 3 = .ok (.ifCond .lt 33, 3) := by decide +kernel
theorem dX9_isThrowTold_6 : decode cX9_isThrowTold 6 = .ok (.lload_n 1, 1) := by decide +kernel
theorem dX9_isThrowTold_7 : decode cX9_isThrowTold 7 = .ok (.ldc2_w 256, 3) := by decide +kernel
theorem dX9_isThrowTold_10 : decode cX9_isThrowTold 10 = .ok (.aload_n 0, 1) := by decide +kernel
theorem dX9_isThrowTold_11 : decode cX9_isThrowTold 11 = .ok (.getfield 82, 3) := by decide +kernel
theorem dX9_isThrowTold_14 : decode cX9_isThrowTold 14 = .ok (.i2l, 1) := by decide +kernel
theorem dX9_isThrowTold_15 : decode cX9_isThrowTold 15 = .ok (.lmul, 1) := by decide +kernel
theorem dX9_isThrowTold_16 : decode cX9_isThrowTold 16 = .ok (.lcmp, 1) := by decide +kernel
theorem dX9_isThrowTold_17 : decode cX9_isThrowTold 17 = .ok (.ifCond .ge 19, 3) := by decide +kernel
theorem dX9_isThrowTold_20 : decode cX9_isThrowTold 20 = .ok (.lload_n 1, 1) := by decide +kernel
theorem dX9_isThrowTold_21 : decode cX9_isThrowTold 21 = .ok (.ldc2_w 258, 3) := by decide +kernel
theorem dX9_isThrowTold_24 : decode cX9_isThrowTold 24 = .ok (.lrem, 1) := by decide +kernel
theorem dX9_isThrowTold_25 : decode cX9_isThrowTold 25 = .ok (.ldc2_w 260, 3) := by decide +kernel
theorem dX9_isThrowTold_28 : decode cX9_isThrowTold 28 = .ok (.lcmp, 1) := by decide +kernel
theorem dX9_isThrowTold_29 : decode cX9_isThrowTold 29 = .ok (.ifCond .ge 7, 3) := by decide +kernel
theorem dX9_isThrowTold_32 : decode cX9_isThrowTold 32 = .ok (.iconst 1, 1) := by decide +kernel
theorem dX9_isThrowTold_33 : decode cX9_isThrowTold 33 = .ok (.goto 4, 3) := by decide +kernel
theorem dX9_isThrowTold_36 : decode cX9_isThrowTold 36 = .ok (.iconst 0, 1) := by decide +kernel
theorem dX9_isThrowTold_37 : decode cX9_isThrowTold 37 = .ok (.ireturn, 1) := by decide +kernel
theorem dX9_landingTold_0 : decode cX9_landingTold 0 = .ok (.aload_n 0, 1) := by decide +kernel
theorem dX9_landingTold_1 : decode cX9_landingTold 1 = .ok (.lload_n 1, 1) := by decide +kernel
theorem dX9_landingTold_2 : decode cX9_landingTold 2 = .ok (.l2i, 1) := by decide +kernel
theorem dX9_landingTold_3 : decode cX9_landingTold 3 = .ok (.bipush 100, 2) := by decide +kernel
theorem dX9_landingTold_5 : decode cX9_landingTold 5 = .ok (.idiv, 1) := by decide +kernel
theorem dX9_landingTold_6 : decode cX9_landingTold 6 = .ok (.lload_n 1, 1) := by decide +kernel
theorem dX9_landingTold_7 : decode cX9_landingTold 7 = .ok (.l2i, 1) := by decide +kernel
theorem dX9_landingTold_8 : decode cX9_landingTold 8 = .ok (.bipush 10, 2) := by decide +kernel
theorem dX9_landingTold_10 : decode cX9_landingTold 10 = .ok (.idiv, 1) := by decide +kernel
theorem dX9_landingTold_11 : decode cX9_landingTold 11 = .ok (.bipush 10, 2) := by decide +kernel
theorem dX9_landingTold_13 : decode cX9_landingTold 13 = .ok (.irem, 1) := by decide +kernel
theorem dX9_landingTold_14 : decode cX9_landingTold 14 = .ok (.lload_n 1, 1) := by decide +kernel
theorem dX9_landingTold_15 : decode cX9_landingTold 15 = .ok (.l2i, 1) := by decide +kernel
theorem dX9_landingTold_16 : decode cX9_landingTold 16 = .ok (.bipush 10, 2) := by decide +kernel
theorem dX9_landingTold_18 : decode cX9_landingTold 18 = .ok (.irem, 1) := by decide +kernel
theorem dX9_landingTold_19 : decode cX9_landingTold 19 = .ok (.invokevirtual 210, 3) := by decide +kernel
theorem dX9_landingTold_22 : decode cX9_landingTold 22 = .ok (.ireturn, 1) := by decide +kernel
theorem dX9_winds_0 : decode cX9_winds 0 = .ok (.iload_n 1, 1) := by decide +kernel
theorem dX9_winds_1 : decode cX9_winds 1 = .ok (.invokestatic 92, 3) := by decide +kernel
theorem dX9_winds_4 : decode cX9_winds 4 = .ok (.ifCond .eq 13, 3) := by decide +kernel
theorem dX9_winds_7 : decode cX9_winds 7 = .ok (.iload_n 2, 1) := by decide +kernel
theorem dX9_winds_8 : decode cX9_winds 8 = .ok (.iconst 0, 1) := by decide +kernel
theorem dX9_winds_9 : decode cX9_winds 9 = .ok (.bipush 20, 2) := by decide +kernel
theorem dX9_winds_11 : decode cX9_winds 11 = .ok (.invokestatic 78, 3) := by decide +kernel
theorem dX9_winds_14 : decode cX9_winds 14 = .ok (.ifCond .ne 10, 3) := by decide +kernel
theorem dX9_winds_17 : decode cX9_winds 17 = .ok (.aload_n 0, 1) := by decide +kernel
theorem dX9_winds_18 : decode cX9_winds 18 = .ok (.bipush (-2), 2) := by decide +kernel
theorem dX9_winds_20 : decode cX9_winds 20 = .ok (.invokevirtual 95, 3) := by decide +kernel
theorem dX9_winds_23 : decode cX9_winds 23 = .ok (.ireturn, 1) := by decide +kernel
theorem dX9_winds_24 : decode cX9_winds 24 = .ok (.aload_n 0, 1) := by decide +kernel
theorem dX9_winds_25 : decode cX9_winds 25 = .ok (.iload_n 1, 1) := by decide +kernel
theorem dX9_winds_26 : decode cX9_winds 26 = .ok (.iconst 2, 1) := by decide +kernel
theorem dX9_winds_27 : decode cX9_winds 27 = .ok (.iload_n 2, 1) := by decide +kernel
theorem dX9_winds_28 : decode cX9_winds 28 = .ok (.imul, 1) := by decide +kernel
theorem dX9_winds_29 : decode cX9_winds 29 = .ok (.invokevirtual 262, 3) := by decide +kernel
theorem dX9_winds_32 : decode cX9_winds 32 = .ok (.istore_n 3, 1) := by decide +kernel
theorem dX9_winds_33 : decode cX9_winds 33 = .ok (.iload_n 3, 1) := by decide +kernel
theorem dX9_winds_34 : decode cX9_winds 34 = .ok (.ifCond .ge 9, 3) := by decide +kernel
theorem dX9_winds_37 : decode cX9_winds 37 = .ok (.aload_n 0, 1) := by decide +kernel
theorem dX9_winds_38 : decode cX9_winds 38 = .ok (.iload_n 3, 1) := by decide +kernel
theorem dX9_winds_39 : decode cX9_winds 39 = .ok (.invokevirtual 95, 3) := by decide +kernel
theorem dX9_winds_42 : decode cX9_winds 42 = .ok (.ireturn, 1) := by decide +kernel
theorem dX9_winds_43 : decode cX9_winds 43 = .ok (.iconst 0, 1) := by decide +kernel
theorem dX9_winds_44 : decode cX9_winds 44 = .ok (.istore 4, 2) := by decide +kernel
theorem dX9_winds_46 : decode cX9_winds 46 = .ok (.iload 4, 2) := by decide +kernel
theorem dX9_winds_48 : decode cX9_winds 48 = .ok (.iload_n 2, 1) := by decide +kernel
theorem dX9_winds_49 : decode cX9_winds 49 = .ok (.if_icmp .ge 32, 3) := by decide +kernel
theorem dX9_winds_52 : decode cX9_winds 52 = .ok (.aload_n 0, 1) := by decide +kernel
theorem dX9_winds_53 : decode cX9_winds 53 = .ok (.aload_n 0, 1) := by decide +kernel
theorem dX9_winds_54 : decode cX9_winds 54 = .ok (.iload_n 1, 1) := by decide +kernel
theorem dX9_winds_55 : decode cX9_winds 55 = .ok (.iconst 2, 1) := by decide +kernel
theorem dX9_winds_56 : decode cX9_winds 56 = .ok (.iload 4, 2) := by decide +kernel
theorem dX9_winds_58 : decode cX9_winds 58 = .ok (.imul, 1) := by decide +kernel
theorem dX9_winds_59 : decode cX9_winds 59 = .ok (.invokevirtual 265, 3) := by decide +kernel
theorem dX9_winds_62 : decode cX9_winds 62 = .ok (.invokevirtual 269, 3) := by decide +kernel
theorem dX9_winds_65 : decode cX9_winds 65 = .ok (.ifCond .ne 10, 3) := by decide +kernel
theorem dX9_winds_68 : decode cX9_winds 68 = .ok (.aload_n 0, 1) := by decide +kernel
theorem dX9_winds_69 : decode cX9_winds 69 = .ok (.bipush (-5), 2) := by decide +kernel
theorem dX9_winds_71 : decode cX9_winds 71 = .ok (.invokevirtual 95, 3) := by decide +kernel
theorem dX9_winds_74 : decode cX9_winds 74 = .ok (.ireturn, 1) := by decide +kernel
theorem dX9_winds_75 : decode cX9_winds 75 = .ok (.iinc 4 1, 3) := by decide +kernel
theorem dX9_winds_78 : decode cX9_winds 78 = .ok (.goto (-32), 3) := by decide +kernel
theorem dX9_winds_81 : decode cX9_winds 81 = .ok (.aload_n 0, 1) := by decide +kernel
theorem dX9_winds_82 : decode cX9_winds 82 = .ok (.getfield 7, 3) := by decide +kernel
theorem dX9_winds_85 : decode cX9_winds 85 = .ok (.iconst 0, 1) := by decide +kernel
theorem dX9_winds_86 : decode cX9_winds 86 = .ok (.iaload, 1) := by decide +kernel
theorem dX9_winds_87 : decode cX9_winds 87 = .ok (.istore 4, 2) := by decide +kernel
theorem dX9_winds_89 : decode cX9_winds 89 = .ok (.iconst 0, 1) := by decide +kernel
theorem dX9_winds_90 : decode cX9_winds 90 = .ok (.istore 5, 2) := by decide +kernel
theorem dX9_winds_92 : decode cX9_winds 92 = .ok (.iconst 0, 1) := by decide +kernel
theorem dX9_winds_93 : decode cX9_winds 93 = .ok (.istore 6, 2) := by decide +kernel
theorem dX9_winds_95 : decode cX9_winds 95 = .ok (.iload 6, 2) := by decide +kernel
theorem dX9_winds_97 : decode cX9_winds 97 = .ok (.bipush 11, 2) := by decide +kernel
theorem dX9_winds_99 : decode cX9_winds 99 = .ok (.if_icmp .ge 81, 3) := by decide +kernel
theorem dX9_winds_102 : decode cX9_winds 102 = .ok (.aload_n 0, 1) := by decide +kernel
theorem dX9_winds_103 : decode cX9_winds 103 = .ok (.getfield 7, 3) := by decide +kernel
theorem dX9_winds_106 : decode cX9_winds 106 = .ok (.iconst 0, 1) := by decide +kernel
theorem dX9_winds_107 : decode cX9_winds 107 = .ok (.iload 6, 2) := by decide +kernel
theorem dX9_winds_109 : decode cX9_winds 109 = .ok (.iastore, 1) := by decide +kernel
theorem dX9_winds_110 : decode cX9_winds 110 = .ok (.iconst 1, 1) := by decide +kernel
theorem dX9_winds_111 : decode cX9_winds 111 = .ok (.istore 7, 2) := by decide +kernel
theorem dX9_winds_113 : decode cX9_winds 113 = .ok (.iconst 0, 1) := by decide +kernel
theorem dX9_winds_114 : decode cX9_winds 114 = .ok (.istore 8, 2) := by decide +kernel
theorem dX9_winds_116 : decode cX9_winds 116 = .ok (.iload 8, 2) := by decide +kernel
theorem dX9_winds_118 : decode cX9_winds 118 = .ok (.iload_n 2, 1) := by decide +kernel
theorem dX9_winds_119 : decode cX9_winds 119 = .ok (.if_icmp .ge 41, 3) := by decide +kernel
theorem dX9_winds_122 : decode cX9_winds 122 = .ok (.aload_n 0, 1) := by decide +kernel
theorem dX9_winds_123 : decode cX9_winds 123 = .ok (.aload_n 0, 1) := by decide +kernel
theorem dX9_winds_124 : decode cX9_winds 124 = .ok (.iload_n 1, 1) := by decide +kernel
theorem dX9_winds_125 : decode cX9_winds 125 = .ok (.iconst 2, 1) := by decide +kernel
theorem dX9_winds_126 : decode cX9_winds 126 = .ok (.iload 8, 2) := by decide +kernel
theorem dX9_winds_128 : decode cX9_winds 128 = .ok (.imul, 1) := by decide +kernel
theorem dX9_winds_129 : decode cX9_winds 129 = .ok (.invokevirtual 265, 3) := by decide +kernel
theorem dX9_winds_132 : decode cX9_winds 132 = .ok (.invokevirtual 273, 3) := by decide +kernel
theorem dX9_winds_135 : decode cX9_winds 135 = .ok (.i2l, 1) := by decide +kernel
theorem dX9_winds_136 : decode cX9_winds 136 = .ok (.aload_n 0, 1) := by decide +kernel
theorem dX9_winds_137 : decode cX9_winds 137 = .ok (.iload_n 1, 1) := by decide +kernel
theorem dX9_winds_138 : decode cX9_winds 138 = .ok (.iconst 2, 1) := by decide +kernel
theorem dX9_winds_139 : decode cX9_winds 139 = .ok (.iload 8, 2) := by decide +kernel
theorem dX9_winds_141 : decode cX9_winds 141 = .ok (.imul, 1) := by decide +kernel
theorem dX9_winds_142 : decode cX9_winds 142 = .ok (.iconst 1, 1) := by decide +kernel
theorem dX9_winds_143 : decode cX9_winds 143 = .ok (.iadd, 1) := by decide +kernel
theorem dX9_winds_144 : decode cX9_winds 144 = .ok (.invokevirtual 265, 3) := by decide +kernel
theorem dX9_winds_147 : decode cX9_winds 147 = .ok (.lcmp, 1) := by decide +kernel
theorem dX9_winds_148 : decode cX9_winds 148 = .ok (.ifCond .eq 6, 3) := by decide +kernel
theorem dX9_winds_151 : decode cX9_winds 151 = .ok (.iconst 0, 1) := by decide +kernel
theorem dX9_winds_152 : decode cX9_winds 152 = .ok (.istore 7, 2) := by decide +kernel
theorem dX9_winds_154 : decode cX9_winds 154 = .ok (.iinc 8 1, 3) := by decide +kernel
theorem dX9_winds_157 : decode cX9_winds 157 = .ok (.goto (-41), 3) := by decide +kernel
theorem dX9_winds_160 : decode cX9_winds 160 = .ok (.iload 7, 2) := by decide +kernel
theorem dX9_winds_162 : decode cX9_winds 162 = .ok (.ifCond .eq 12, 3) := by decide +kernel
theorem dX9_winds_165 : decode cX9_winds 165 = .ok (.iload 5, 2) := by decide +kernel
theorem dX9_winds_167 : decode cX9_winds 167 = .ok (.iconst 1, 1) := by decide +kernel
theorem dX9_winds_168 : decode cX9_winds 168 = .ok (.iload 6, 2) := by decide +kernel
theorem dX9_winds_170 : decode cX9_winds 170 = .ok (.ishl, 1) := by decide +kernel
theorem dX9_winds_171 : decode cX9_winds 171 = .ok (.ior, 1) := by decide +kernel
theorem dX9_winds_172 : decode cX9_winds 172 = .ok (.istore 5, 2) := by decide +kernel
theorem dX9_winds_174 : decode cX9_winds 174 = .ok (.iinc 6 1, 3) := by decide +kernel
theorem dX9_winds_177 : decode cX9_winds 177 = .ok (.goto (-82), 3) := by decide +kernel
theorem dX9_winds_180 : decode cX9_winds 180 = .ok (.aload_n 0, 1) := by decide +kernel
theorem dX9_winds_181 : decode cX9_winds 181 = .ok (.getfield 7, 3) := by decide +kernel
theorem dX9_winds_184 : decode cX9_winds 184 = .ok (.iconst 0, 1) := by decide +kernel
theorem dX9_winds_185 : decode cX9_winds 185 = .ok (.iload 4, 2) := by decide +kernel
theorem dX9_winds_187 : decode cX9_winds 187 = .ok (.iastore, 1) := by decide +kernel
theorem dX9_winds_188 : decode cX9_winds 188 = .ok (.iload 5, 2) := by decide +kernel
theorem dX9_winds_190 : decode cX9_winds 190 = .ok (.ireturn, 1) := by decide +kernel
theorem dX9_kinds_0 : decode cX9_kinds 0 = .ok (.iload_n 1, 1) := by decide +kernel
theorem dX9_kinds_1 : decode cX9_kinds 1 = .ok (.invokestatic 92, 3) := by decide +kernel
theorem dX9_kinds_4 : decode cX9_kinds 4 = .ok (.ifCond .eq 21, 3) := by decide +kernel
theorem dX9_kinds_7 : decode cX9_kinds 7 = .ok (.iload_n 2, 1) := by decide +kernel
theorem dX9_kinds_8 : decode cX9_kinds 8 = .ok (.iconst 0, 1) := by decide +kernel
theorem dX9_kinds_9 : decode cX9_kinds 9 = .ok (.bipush 20, 2) := by decide +kernel
theorem dX9_kinds_11 : decode cX9_kinds 11 = .ok (.invokestatic 78, 3) := by decide +kernel
theorem dX9_kinds_14 : decode cX9_kinds 14 = .ok (.ifCond .eq 11, 3) := by decide +kernel
theorem dX9_kinds_17 : decode cX9_kinds 17 = .ok (.aload_n 0, 1) := by decide +kernel
theorem dX9_kinds_18 : decode cX9_kinds 18 = .ok (.iload_n 3, 1) := by decide +kernel
theorem dX9_kinds_19 : decode cX9_kinds 19 = .ok (.invokevirtual 109, 3) := by decide +kernel
theorem dX9_kinds_22 : decode cX9_kinds 22 = .ok (.ifCond .ne 10, 3) := by decide +kernel
theorem dX9_kinds_25 : decode cX9_kinds 25 = .ok (.aload_n 0, 1) := by decide +kernel
theorem dX9_kinds_26 : decode cX9_kinds 26 = .ok (.bipush (-2), 2) := by decide +kernel
theorem dX9_kinds_28 : decode cX9_kinds 28 = .ok (.invokevirtual 95, 3) := by decide +kernel
theorem dX9_kinds_31 : decode cX9_kinds 31 = .ok (.ireturn, 1) := by decide +kernel
theorem dX9_kinds_32 : decode cX9_kinds 32 = .ok (.aload_n 0, 1) := by decide +kernel
theorem dX9_kinds_33 : decode cX9_kinds 33 = .ok (.iload_n 1, 1) := by decide +kernel
theorem dX9_kinds_34 : decode cX9_kinds 34 = .ok (.iconst 2, 1) := by decide +kernel
theorem dX9_kinds_35 : decode cX9_kinds 35 = .ok (.iload_n 2, 1) := by decide +kernel
theorem dX9_kinds_36 : decode cX9_kinds 36 = .ok (.imul, 1) := by decide +kernel
theorem dX9_kinds_37 : decode cX9_kinds 37 = .ok (.invokevirtual 262, 3) := by decide +kernel
theorem dX9_kinds_40 : decode cX9_kinds 40 = .ok (.istore 4, 2) := by decide +kernel
theorem dX9_kinds_42 : decode cX9_kinds 42 = .ok (.iload 4, 2) := by decide +kernel
theorem dX9_kinds_44 : decode cX9_kinds 44 = .ok (.ifCond .ge 10, 3) := by decide +kernel
theorem dX9_kinds_47 : decode cX9_kinds 47 = .ok (.aload_n 0, 1) := by decide +kernel
theorem dX9_kinds_48 : decode cX9_kinds 48 = .ok (.iload 4, 2) := by decide +kernel
theorem dX9_kinds_50 : decode cX9_kinds 50 = .ok (.invokevirtual 95, 3) := by decide +kernel
theorem dX9_kinds_53 : decode cX9_kinds 53 = .ok (.ireturn, 1) := by decide +kernel
theorem dX9_kinds_54 : decode cX9_kinds 54 = .ok (.iconst 0, 1) := by decide +kernel
theorem dX9_kinds_55 : decode cX9_kinds 55 = .ok (.istore 5, 2) := by decide +kernel
theorem dX9_kinds_57 : decode cX9_kinds 57 = .ok (.iload 5, 2) := by decide +kernel
theorem dX9_kinds_59 : decode cX9_kinds 59 = .ok (.iload_n 2, 1) := by decide +kernel
theorem dX9_kinds_60 : decode cX9_kinds 60 = .ok (.if_icmp .ge 48, 3) := by decide +kernel
theorem dX9_kinds_63 : decode cX9_kinds 63 = .ok (.aload_n 0, 1) := by decide +kernel
theorem dX9_kinds_64 : decode cX9_kinds 64 = .ok (.iload_n 1, 1) := by decide +kernel
theorem dX9_kinds_65 : decode cX9_kinds 65 = .ok (.iconst 2, 1) := by decide +kernel
theorem dX9_kinds_66 : decode cX9_kinds 66 = .ok (.iload 5, 2) := by decide +kernel
theorem dX9_kinds_68 : decode cX9_kinds 68 = .ok (.imul, 1) := by decide +kernel
theorem dX9_kinds_69 : decode cX9_kinds 69 = .ok (.invokevirtual 265, 3) := by decide +kernel
theorem dX9_kinds_72 : decode cX9_kinds 72 = .ok (.lconst 0, 1) := by decide +kernel
theorem dX9_kinds_73 : decode cX9_kinds 73 = .ok (.lcmp, 1) := by decide +kernel
theorem dX9_kinds_74 : decode cX9_kinds 74 = .ok (.ifCond .lt 21, 3) := by decide +kernel
theorem dX9_kinds_77 : decode cX9_kinds 77 = .ok (.aload_n 0, 1) := by decide +kernel
theorem dX9_kinds_78 : decode cX9_kinds 78 = .ok (.iload_n 1, 1) := by decide +kernel
theorem dX9_kinds_79 : decode cX9_kinds 79 = .ok (.iconst 2, 1) := by decide +kernel
theorem dX9_kinds_80 : decode cX9_kinds 80 = .ok (.iload 5, 2) := by decide +kernel
theorem dX9_kinds_82 : decode cX9_kinds 82 = .ok (.imul, 1) := by decide +kernel
theorem dX9_kinds_83 : decode cX9_kinds 83 = .ok (.invokevirtual 265, 3) := by decide +kernel
theorem dX9_kinds_86 : decode cX9_kinds 86 = .ok (.aload_n 0, 1) := by decide +kernel
theorem dX9_kinds_87 : decode cX9_kinds 87 = .ok (.getfield 82, 3) := by decide +kernel
theorem dX9_kinds_90 : decode cX9_kinds 90 = .ok (.i2l, 1) := by decide +kernel
theorem dX9_kinds_91 : decode cX9_kinds 91 = .ok (.lcmp, 1) := by decide +kernel
theorem dX9_kinds_92 : decode cX9_kinds 92 = .ok (.ifCond .lt 10, 3) := by decide +kernel
theorem dX9_kinds_95 : decode cX9_kinds 95 = .ok (.aload_n 0, 1) := by decide +kernel
theorem dX9_kinds_96 : decode cX9_kinds 96 = .ok (.bipush (-5), 2) := by decide +kernel
theorem dX9_kinds_98 : decode cX9_kinds 98 = .ok (.invokevirtual 95, 3) := by decide +kernel
theorem dX9_kinds_101 : decode cX9_kinds 101 = .ok (.ireturn, 1) := by decide +kernel
theorem dX9_kinds_102 : decode cX9_kinds 102 = .ok (.iinc 5 1, 3) := by decide +kernel
theorem dX9_kinds_105 : decode cX9_kinds 105 = .ok (.goto (-48), 3) := by decide +kernel
theorem dX9_kinds_108 : decode cX9_kinds 108 = .ok (.aload_n 0, 1) := by decide +kernel
theorem dX9_kinds_109 : decode cX9_kinds 109 = .ok (.getfield 22, 3) := by decide +kernel
theorem dX9_kinds_112 : decode cX9_kinds 112 = .ok (.iload_n 3, 1) := by decide +kernel
theorem dX9_kinds_113 : decode cX9_kinds 113 = .ok (.iaload, 1) := by decide +kernel
theorem dX9_kinds_114 : decode cX9_kinds 114 = .ok (.istore 5, 2) := by decide +kernel
theorem dX9_kinds_116 : decode cX9_kinds 116 = .ok (.iconst 0, 1) := by decide +kernel
theorem dX9_kinds_117 : decode cX9_kinds 117 = .ok (.istore 6, 2) := by decide +kernel
theorem dX9_kinds_119 : decode cX9_kinds 119 = .ok (.iconst 0, 1) := by decide +kernel
theorem dX9_kinds_120 : decode cX9_kinds 120 = .ok (.istore 7, 2) := by decide +kernel
theorem dX9_kinds_122 : decode cX9_kinds 122 = .ok (.iload 7, 2) := by decide +kernel
theorem dX9_kinds_124 : decode cX9_kinds 124 = .ok (.bipush 6, 2) := by decide +kernel
theorem dX9_kinds_126 : decode cX9_kinds 126 = .ok (.if_icmp .ge 88, 3) := by decide +kernel
theorem dX9_kinds_129 : decode cX9_kinds 129 = .ok (.aload_n 0, 1) := by decide +kernel
theorem dX9_kinds_130 : decode cX9_kinds 130 = .ok (.getfield 22, 3) := by decide +kernel
theorem dX9_kinds_133 : decode cX9_kinds 133 = .ok (.iload_n 3, 1) := by decide +kernel
theorem dX9_kinds_134 : decode cX9_kinds 134 = .ok (.iload 7, 2) := by decide +kernel
theorem dX9_kinds_136 : decode cX9_kinds 136 = .ok (.iastore, 1) := by decide +kernel
theorem dX9_kinds_137 : decode cX9_kinds 137 = .ok (.iconst 1, 1) := by decide +kernel
theorem dX9_kinds_138 : decode cX9_kinds 138 = .ok (.istore 8, 2) := by decide +kernel
theorem dX9_kinds_140 : decode cX9_kinds 140 = .ok (.iconst 0, 1) := by decide +kernel
theorem dX9_kinds_141 : decode cX9_kinds 141 = .ok (.istore 9, 2) := by decide +kernel
theorem dX9_kinds_143 : decode cX9_kinds 143 = .ok (.iload 9, 2) := by decide +kernel
theorem dX9_kinds_145 : decode cX9_kinds 145 = .ok (.iload_n 2, 1) := by decide +kernel
theorem dX9_kinds_146 : decode cX9_kinds 146 = .ok (.if_icmp .ge 48, 3) := by decide +kernel
theorem dX9_kinds_149 : decode cX9_kinds 149 = .ok (.aload_n 0, 1) := by decide +kernel
theorem dX9_kinds_150 : decode cX9_kinds 150 = .ok (.iload_n 3, 1) := by decide +kernel
theorem dX9_kinds_151 : decode cX9_kinds 151 = .ok (.aload_n 0, 1) := by decide +kernel
theorem dX9_kinds_152 : decode cX9_kinds 152 = .ok (.getfield 16, 3) := by decide +kernel
theorem dX9_kinds_155 : decode cX9_kinds 155 = .ok (.aload_n 0, 1) := by decide +kernel
theorem dX9_kinds_156 : decode cX9_kinds 156 = .ok (.iload_n 1, 1) := by decide +kernel
theorem dX9_kinds_157 : decode cX9_kinds 157 = .ok (.iconst 2, 1) := by decide +kernel
theorem dX9_kinds_158 : decode cX9_kinds 158 = .ok (.iload 9, 2) := by decide +kernel
theorem dX9_kinds_160 : decode cX9_kinds 160 = .ok (.imul, 1) := by decide +kernel
theorem dX9_kinds_161 : decode cX9_kinds 161 = .ok (.invokevirtual 265, 3) := by decide +kernel
theorem dX9_kinds_164 : decode cX9_kinds 164 = .ok (.l2i, 1) := by decide +kernel
theorem dX9_kinds_165 : decode cX9_kinds 165 = .ok (.iaload, 1) := by decide +kernel
theorem dX9_kinds_166 : decode cX9_kinds 166 = .ok (.invokevirtual 116, 3) := by decide +kernel
theorem dX9_kinds_169 : decode cX9_kinds 169 = .ok (.i2l, 1) := by decide +kernel
theorem dX9_kinds_170 : decode cX9_kinds 170 = .ok (.aload_n 0, 1) := by decide +kernel
theorem dX9_kinds_171 : decode cX9_kinds 171 = .ok (.iload_n 1, 1) := by decide +kernel
theorem dX9_kinds_172 : decode cX9_kinds 172 = .ok (.iconst 2, 1) := by decide +kernel
theorem dX9_kinds_173 : decode cX9_kinds 173 = .ok (.iload 9, 2) := by decide +kernel
theorem dX9_kinds_175 : decode cX9_kinds 175 = .ok (.imul, 1) := by decide +kernel
theorem dX9_kinds_176 : decode cX9_kinds 176 = .ok (.iconst 1, 1) := by decide +kernel
theorem dX9_kinds_177 : decode cX9_kinds 177 = .ok (.iadd, 1) := by decide +kernel
theorem dX9_kinds_178 : decode cX9_kinds 178 = .ok (.invokevirtual 265, 3) := by decide +kernel
theorem dX9_kinds_181 : decode cX9_kinds 181 = .ok (.lcmp, 1) := by decide +kernel
theorem dX9_kinds_182 : decode cX9_kinds 182 = .ok (.ifCond .eq 6, 3) := by decide +kernel
theorem dX9_kinds_185 : decode cX9_kinds 185 = .ok (.iconst 0, 1) := by decide +kernel
theorem dX9_kinds_186 : decode cX9_kinds 186 = .ok (.istore 8, 2) := by decide +kernel
theorem dX9_kinds_188 : decode cX9_kinds 188 = .ok (.iinc 9 1, 3) := by decide +kernel
theorem dX9_kinds_191 : decode cX9_kinds 191 = .ok (.goto (-48), 3) := by decide +kernel
theorem dX9_kinds_194 : decode cX9_kinds 194 = .ok (.iload 8, 2) := by decide +kernel
theorem dX9_kinds_196 : decode cX9_kinds 196 = .ok (.ifCond .eq 12, 3) := by decide +kernel
theorem dX9_kinds_199 : decode cX9_kinds 199 = .ok (.iload 6, 2) := by decide +kernel
theorem dX9_kinds_201 : decode cX9_kinds 201 = .ok (.iconst 1, 1) := by decide +kernel
theorem dX9_kinds_202 : decode cX9_kinds 202 = .ok (.iload 7, 2) := by decide +kernel
theorem dX9_kinds_204 : decode cX9_kinds 204 = .ok (.ishl, 1) := by decide +kernel
theorem dX9_kinds_205 : decode cX9_kinds 205 = .ok (.ior, 1) := by decide +kernel
theorem dX9_kinds_206 : decode cX9_kinds 206 = .ok (.istore 6, 2) := by decide +kernel
theorem dX9_kinds_208 : decode cX9_kinds 208 = .ok (.iinc 7 1, 3) := by decide +kernel
theorem dX9_kinds_211 : decode cX9_kinds 211 = .ok (.goto (-89), 3) := by decide +kernel
theorem dX9_kinds_214 : decode cX9_kinds 214 = .ok (.aload_n 0, 1) := by decide +kernel
theorem dX9_kinds_215 : decode cX9_kinds 215 = .ok (.getfield 22, 3) := by decide +kernel
theorem dX9_kinds_218 : decode cX9_kinds 218 = .ok (.iload_n 3, 1) := by decide +kernel
theorem dX9_kinds_219 : decode cX9_kinds 219 = .ok (.iload 5, 2) := by decide +kernel
theorem dX9_kinds_221 : decode cX9_kinds 221 = .ok (.iastore, 1) := by decide +kernel
theorem dX9_kinds_222 : decode cX9_kinds 222 = .ok (.iload 6, 2) := by decide +kernel
theorem dX9_kinds_224 : decode cX9_kinds 224 = .ok (.ireturn, 1) := by decide +kernel
theorem dX9_windsFor_0 : decode cX9_windsFor 0 = .ok (.aload_n 0, 1) := by decide +kernel
theorem dX9_windsFor_1 : decode cX9_windsFor 1 = .ok (.getfield 7, 3) := by decide +kernel
theorem dX9_windsFor_4 : decode cX9_windsFor 4 = .ok (.iconst 0, 1) := by decide +kernel
theorem dX9_windsFor_5 : decode cX9_windsFor 5 = .ok (.iaload, 1) := by decide +kernel
theorem dX9_windsFor_6 : decode cX9_windsFor 6 = .ok (.istore 5, 2) := by decide +kernel
theorem dX9_windsFor_8 : decode cX9_windsFor 8 = .ok (.iconst 0, 1) := by decide +kernel
theorem dX9_windsFor_9 : decode cX9_windsFor 9 = .ok (.istore 6, 2) := by decide +kernel
theorem dX9_windsFor_11 : decode cX9_windsFor 11 = .ok (.iconst 0, 1) := by decide +kernel
theorem dX9_windsFor_12 : decode cX9_windsFor 12 = .ok (.istore 7, 2) := by decide +kernel
theorem dX9_windsFor_14 : decode cX9_windsFor 14 = .ok (.iload 7, 2) := by decide +kernel
theorem dX9_windsFor_16 : decode cX9_windsFor 16 = .ok (.bipush 11, 2) := by decide +kernel
theorem dX9_windsFor_18 : decode cX9_windsFor 18 = .ok (.if_icmp .ge 32, 3) := by decide +kernel
theorem dX9_windsFor_21 : decode cX9_windsFor 21 = .ok (.aload_n 0, 1) := by decide +kernel
theorem dX9_windsFor_22 : decode cX9_windsFor 22 = .ok (.getfield 7, 3) := by decide +kernel
theorem dX9_windsFor_25 : decode cX9_windsFor 25 = .ok (.iconst 0, 1) := by decide +kernel
theorem dX9_windsFor_26 : decode cX9_windsFor 26 = .ok (.iload 7, 2) := by decide +kernel
theorem dX9_windsFor_28 : decode cX9_windsFor 28 = .ok (.iastore, 1) := by decide +kernel
theorem dX9_windsFor_29 : decode cX9_windsFor 29 = .ok (.aload_n 0, 1) := by decide +kernel
theorem dX9_windsFor_30 : decode cX9_windsFor 30 = .ok (.iload_n 2, 1) := by decide +kernel
theorem dX9_windsFor_31 : decode cX9_windsFor 31 = .ok (.iload_n 3, 1) := by decide +kernel
theorem dX9_windsFor_32 : decode cX9_windsFor 32 = .ok (.iload 4, 2) := by decide +kernel
theorem dX9_windsFor_34 : decode cX9_windsFor 34 = .ok (.invokevirtual 228, 3) := by decide +kernel
theorem dX9_windsFor_37 : decode cX9_windsFor 37 = .ok (.iload_n 1, 1) := by decide +kernel
theorem dX9_windsFor_38 : decode cX9_windsFor 38 = .ok (.if_icmp .ne 6, 3) := by decide +kernel
theorem dX9_windsFor_41 : decode cX9_windsFor 41 = .ok (.iinc 6 1, 3) := by decide +kernel
theorem dX9_windsFor_44 : decode cX9_windsFor 44 = .ok (.iinc 7 1, 3) := by decide +kernel
theorem dX9_windsFor_47 : decode cX9_windsFor 47 = .ok (.goto (-33), 3) := by decide +kernel
theorem dX9_windsFor_50 : decode cX9_windsFor 50 = .ok (.aload_n 0, 1) := by decide +kernel
theorem dX9_windsFor_51 : decode cX9_windsFor 51 = .ok (.getfield 7, 3) := by decide +kernel
theorem dX9_windsFor_54 : decode cX9_windsFor 54 = .ok (.iconst 0, 1) := by decide +kernel
theorem dX9_windsFor_55 : decode cX9_windsFor 55 = .ok (.iload 5, 2) := by decide +kernel
theorem dX9_windsFor_57 : decode cX9_windsFor 57 = .ok (.iastore, 1) := by decide +kernel
theorem dX9_windsFor_58 : decode cX9_windsFor 58 = .ok (.iload 6, 2) := by decide +kernel
theorem dX9_windsFor_60 : decode cX9_windsFor 60 = .ok (.ireturn, 1) := by decide +kernel
theorem dX9_chance_0 : decode cX9_chance 0 = .ok (.aload_n 0, 1) := by decide +kernel
theorem dX9_chance_1 : decode cX9_chance 1 = .ok (.iload_n 1, 1) := by decide +kernel
theorem dX9_chance_2 : decode cX9_chance 2 = .ok (.invokevirtual 109, 3) := by decide +kernel
theorem dX9_chance_5 : decode cX9_chance 5 = .ok (.ifCond .eq 33, 3) := by decide +kernel
theorem dX9_chance_8 : decode cX9_chance 8 = .ok (.aload_n 0, 1) := by decide +kernel
theorem dX9_chance_9 : decode cX9_chance 9 = .ok (.iload_n 2, 1) := by decide +kernel
theorem dX9_chance_10 : decode cX9_chance 10 = .ok (.iload_n 3, 1) := by decide +kernel
theorem dX9_chance_11 : decode cX9_chance 11 = .ok (.iload 4, 2) := by decide +kernel
theorem dX9_chance_13 : decode cX9_chance 13 = .ok (.invokevirtual 207, 3) := by decide +kernel
theorem dX9_chance_16 : decode cX9_chance 16 = .ok (.ifCond .eq 22, 3) := by decide +kernel
theorem dX9_chance_19 : decode cX9_chance 19 = .ok (.ldc_w 277, 3) := by decide +kernel
theorem dX9_chance_22 : decode cX9_chance 22 = .ok (.aload_n 0, 1) := by decide +kernel
theorem dX9_chance_23 : decode cX9_chance 23 = .ok (.iload_n 1, 1) := by decide +kernel
theorem dX9_chance_24 : decode cX9_chance 24 = .ok (.iload_n 2, 1) := by decide +kernel
theorem dX9_chance_25 : decode cX9_chance 25 = .ok (.iload_n 3, 1) := by decide +kernel
theorem dX9_chance_26 : decode cX9_chance 26 = .ok (.iload 4, 2) := by decide +kernel
theorem dX9_chance_28 : decode cX9_chance 28 = .ok (.invokevirtual 278, 3) := by decide +kernel
theorem dX9_chance_31 : decode cX9_chance 31 = .ok (.imul, 1) := by decide +kernel
theorem dX9_chance_32 : decode cX9_chance 32 = .ok (.bipush 11, 2) := by decide +kernel
theorem dX9_chance_34 : decode cX9_chance 34 = .ok (.idiv, 1) := by decide +kernel
theorem dX9_chance_35 : decode cX9_chance 35 = .ok (.goto 9, 3) := by decide +kernel
theorem dX9_chance_38 : decode cX9_chance 38 = .ok (.aload_n 0, 1) := by decide +kernel
theorem dX9_chance_39 : decode cX9_chance 39 = .ok (.bipush (-2), 2) := by decide +kernel
theorem dX9_chance_41 : decode cX9_chance 41 = .ok (.invokevirtual 95, 3) := by decide +kernel
theorem dX9_chance_44 : decode cX9_chance 44 = .ok (.ireturn, 1) := by decide +kernel
theorem dX9_safest_0 : decode cX9_safest 0 = .ok (.aload_n 0, 1) := by decide +kernel
theorem dX9_safest_1 : decode cX9_safest 1 = .ok (.iload_n 1, 1) := by decide +kernel
theorem dX9_safest_2 : decode cX9_safest 2 = .ok (.invokevirtual 109, 3) := by decide +kernel
theorem dX9_safest_5 : decode cX9_safest 5 = .ok (.ifCond .eq 11, 3) := by decide +kernel
theorem dX9_safest_8 : decode cX9_safest 8 = .ok (.aload_n 0, 1) := by decide +kernel
theorem dX9_safest_9 : decode cX9_safest 9 = .ok (.iload_n 2, 1) := by decide +kernel
theorem dX9_safest_10 : decode cX9_safest 10 = .ok (.invokevirtual 88, 3) := by decide +kernel
theorem dX9_safest_13 : decode cX9_safest 13 = .ok (.ifCond .ne 10, 3) := by decide +kernel
theorem dX9_safest_16 : decode cX9_safest 16 = .ok (.aload_n 0, 1) := by decide +kernel
theorem dX9_safest_17 : decode cX9_safest 17 = .ok (.bipush (-2), 2) := by decide +kernel
theorem dX9_safest_19 : decode cX9_safest 19 = .ok (.invokevirtual 95, 3) := by decide +kernel
theorem dX9_safest_22 : decode cX9_safest 22 = .ok (.ireturn, 1) := by decide +kernel
theorem dX9_safest_23 : decode cX9_safest 23 = .ok (.iconst (-1), 1) := by decide +kernel
theorem dX9_safest_24 : decode cX9_safest 24 = .ok (.istore_n 3, 1) := by decide +kernel
theorem dX9_safest_25 : decode cX9_safest 25 = .ok (.iconst 0, 1) := by decide +kernel
theorem dX9_safest_26 : decode cX9_safest 26 = .ok (.istore 4, 2) := by decide +kernel
theorem dX9_safest_28 : decode cX9_safest 28 = .ok (.iconst 0, 1) := by decide +kernel
theorem dX9_safest_29 : decode cX9_safest 29 = .ok (.istore 5, 2) := by decide +kernel
theorem dX9_safest_31 : decode cX9_safest 31 = .ok (.iload 5, 2) := by decide +kernel
theorem dX9_safest_33 : decode cX9_safest 33 = .ok (.bipush 30, 2) := by decide +kernel
theorem dX9_safest_35 : decode cX9_safest 35 = .ok (.if_icmp .ge 52, 3) := by decide +kernel
theorem dX9_safest_38 : decode cX9_safest 38 = .ok (.aload_n 0, 1) := by decide +kernel
theorem dX9_safest_39 : decode cX9_safest 39 = .ok (.iload_n 1, 1) := by decide +kernel
theorem dX9_safest_40 : decode cX9_safest 40 = .ok (.iload_n 2, 1) := by decide +kernel
theorem dX9_safest_41 : decode cX9_safest 41 = .ok (.iload 5, 2) := by decide +kernel
theorem dX9_safest_43 : decode cX9_safest 43 = .ok (.iconst 3, 1) := by decide +kernel
theorem dX9_safest_44 : decode cX9_safest 44 = .ok (.idiv, 1) := by decide +kernel
theorem dX9_safest_45 : decode cX9_safest 45 = .ok (.iload 5, 2) := by decide +kernel
theorem dX9_safest_47 : decode cX9_safest 47 = .ok (.iconst 3, 1) := by decide +kernel
theorem dX9_safest_48 : decode cX9_safest 48 = .ok (.irem, 1) := by decide +kernel
theorem dX9_safest_49 : decode cX9_safest 49 = .ok (.invokevirtual 278, 3) := by decide +kernel
theorem dX9_safest_52 : decode cX9_safest 52 = .ok (.istore 6, 2) := by decide +kernel
theorem dX9_safest_54 : decode cX9_safest 54 = .ok (.iload 6, 2) := by decide +kernel
theorem dX9_safest_56 : decode cX9_safest 56 = .ok (.iload 4, 2) := by decide +kernel
theorem dX9_safest_58 : decode cX9_safest 58 = .ok (.if_icmp .gt 6, 3) := by decide +kernel
theorem dX9_safest_61 : decode cX9_safest 61 = .ok (.goto 20, 3) := by decide +kernel
theorem dX9_safest_64 : decode cX9_safest 64 = .ok (.iload 6, 2) := by decide +kernel
theorem dX9_safest_66 : decode cX9_safest 66 = .ok (.istore 4, 2) := by decide +kernel
theorem dX9_safest_68 : decode cX9_safest 68 = .ok (.bipush 10, 2) := by decide +kernel
theorem dX9_safest_70 : decode cX9_safest 70 = .ok (.iload 5, 2) := by decide +kernel
theorem dX9_safest_72 : decode cX9_safest 72 = .ok (.iconst 3, 1) := by decide +kernel
theorem dX9_safest_73 : decode cX9_safest 73 = .ok (.idiv, 1) := by decide +kernel
theorem dX9_safest_74 : decode cX9_safest 74 = .ok (.imul, 1) := by decide +kernel
theorem dX9_safest_75 : decode cX9_safest 75 = .ok (.iload 5, 2) := by decide +kernel
theorem dX9_safest_77 : decode cX9_safest 77 = .ok (.iconst 3, 1) := by decide +kernel
theorem dX9_safest_78 : decode cX9_safest 78 = .ok (.irem, 1) := by decide +kernel
theorem dX9_safest_79 : decode cX9_safest 79 = .ok (.iadd, 1) := by decide +kernel
theorem dX9_safest_80 : decode cX9_safest 80 = .ok (.istore_n 3, 1) := by decide +kernel
theorem dX9_safest_81 : decode cX9_safest 81 = .ok (.iinc 5 1, 3) := by decide +kernel
theorem dX9_safest_84 : decode cX9_safest 84 = .ok (.goto (-53), 3) := by decide +kernel
theorem dX9_safest_87 : decode cX9_safest 87 = .ok (.iload_n 3, 1) := by decide +kernel
theorem dX9_safest_88 : decode cX9_safest 88 = .ok (.ireturn, 1) := by decide +kernel
theorem dX9_windFor_0 : decode cX9_windFor 0 = .ok (.aload_n 0, 1) := by decide +kernel
theorem dX9_windFor_1 : decode cX9_windFor 1 = .ok (.iload_n 1, 1) := by decide +kernel
theorem dX9_windFor_2 : decode cX9_windFor 2 = .ok (.invokevirtual 109, 3) := by decide +kernel
theorem dX9_windFor_5 : decode cX9_windFor 5 = .ok (.ifCond .eq 14, 3) := by decide +kernel
theorem dX9_windFor_8 : decode cX9_windFor 8 = .ok (.aload_n 0, 1) := by decide +kernel
theorem dX9_windFor_9 : decode cX9_windFor 9 = .ok (.iload_n 2, 1) := by decide +kernel
theorem dX9_windFor_10 : decode cX9_windFor 10 = .ok (.iload_n 3, 1) := by decide +kernel
theorem dX9_windFor_11 : decode cX9_windFor 11 = .ok (.iload 4, 2) := by decide +kernel
theorem dX9_windFor_13 : decode cX9_windFor 13 = .ok (.invokevirtual 207, 3) := by decide +kernel
theorem dX9_windFor_16 : decode cX9_windFor 16 = .ok (.ifCond .ne 10, 3) := by decide +kernel
theorem dX9_windFor_19 : decode cX9_windFor 19 = .ok (.aload_n 0, 1) := by decide +kernel
theorem dX9_windFor_20 : decode cX9_windFor 20 = .ok (.bipush (-2), 2) := by decide +kernel
theorem dX9_windFor_22 : decode cX9_windFor 22 = .ok (.invokevirtual 95, 3) := by decide +kernel
theorem dX9_windFor_25 : decode cX9_windFor 25 = .ok (.ireturn, 1) := by decide +kernel
theorem dX9_windFor_26 : decode cX9_windFor 26 = .ok (.aload_n 0, 1) := by decide +kernel
theorem dX9_windFor_27 : decode cX9_windFor 27 = .ok (.getfield 7, 3) := by decide +kernel
theorem dX9_windFor_30 : decode cX9_windFor 30 = .ok (.iconst 0, 1) := by decide +kernel
theorem dX9_windFor_31 : decode cX9_windFor 31 = .ok (.iaload, 1) := by decide +kernel
theorem dX9_windFor_32 : decode cX9_windFor 32 = .ok (.istore 5, 2) := by decide +kernel
theorem dX9_windFor_34 : decode cX9_windFor 34 = .ok (.iconst (-1), 1) := by decide +kernel
theorem dX9_windFor_35 : decode cX9_windFor 35 = .ok (.istore 6, 2) := by decide +kernel
theorem dX9_windFor_37 : decode cX9_windFor 37 = .ok (.bipush 10, 2) := by decide +kernel
theorem dX9_windFor_39 : decode cX9_windFor 39 = .ok (.istore 7, 2) := by decide +kernel
theorem dX9_windFor_41 : decode cX9_windFor 41 = .ok (.iload 7, 2) := by decide +kernel
theorem dX9_windFor_43 : decode cX9_windFor 43 = .ok (.ifCond .lt 33, 3) := by decide +kernel
theorem dX9_windFor_46 : decode cX9_windFor 46 = .ok (.aload_n 0, 1) := by decide +kernel
theorem dX9_windFor_47 : decode cX9_windFor 47 = .ok (.getfield 7, 3) := by decide +kernel
theorem dX9_windFor_50 : decode cX9_windFor 50 = .ok (.iconst 0, 1) := by decide +kernel
theorem dX9_windFor_51 : decode cX9_windFor 51 = .ok (.iload 7, 2) := by decide +kernel
theorem dX9_windFor_53 : decode cX9_windFor 53 = .ok (.iastore, 1) := by decide +kernel
theorem dX9_windFor_54 : decode cX9_windFor 54 = .ok (.aload_n 0, 1) := by decide +kernel
theorem dX9_windFor_55 : decode cX9_windFor 55 = .ok (.iload_n 2, 1) := by decide +kernel
theorem dX9_windFor_56 : decode cX9_windFor 56 = .ok (.iload_n 3, 1) := by decide +kernel
theorem dX9_windFor_57 : decode cX9_windFor 57 = .ok (.iload 4, 2) := by decide +kernel
theorem dX9_windFor_59 : decode cX9_windFor 59 = .ok (.invokevirtual 228, 3) := by decide +kernel
theorem dX9_windFor_62 : decode cX9_windFor 62 = .ok (.iload_n 1, 1) := by decide +kernel
theorem dX9_windFor_63 : decode cX9_windFor 63 = .ok (.if_icmp .ne 7, 3) := by decide +kernel
theorem dX9_windFor_66 : decode cX9_windFor 66 = .ok (.iload 7, 2) := by decide +kernel
theorem dX9_windFor_68 : decode cX9_windFor 68 = .ok (.istore 6, 2) := by decide +kernel
theorem dX9_windFor_70 : decode cX9_windFor 70 = .ok (.iinc 7 (-1), 3) := by decide +kernel
theorem dX9_windFor_73 : decode cX9_windFor 73 = .ok (.goto (-32), 3) := by decide +kernel
theorem dX9_windFor_76 : decode cX9_windFor 76 = .ok (.aload_n 0, 1) := by decide +kernel
theorem dX9_windFor_77 : decode cX9_windFor 77 = .ok (.getfield 7, 3) := by decide +kernel
theorem dX9_windFor_80 : decode cX9_windFor 80 = .ok (.iconst 0, 1) := by decide +kernel
theorem dX9_windFor_81 : decode cX9_windFor 81 = .ok (.iload 5, 2) := by decide +kernel
theorem dX9_windFor_83 : decode cX9_windFor 83 = .ok (.iastore, 1) := by decide +kernel
theorem dX9_windFor_84 : decode cX9_windFor 84 = .ok (.iload 6, 2) := by decide +kernel
theorem dX9_windFor_86 : decode cX9_windFor 86 = .ok (.ireturn, 1) := by decide +kernel
theorem dX9_queueOf_0 : decode cX9_queueOf 0 = .ok (.iconst 0, 1) := by decide +kernel
theorem dX9_queueOf_1 : decode cX9_queueOf 1 = .ok (.istore_n 3, 1) := by decide +kernel
theorem dX9_queueOf_2 : decode cX9_queueOf 2 = .ok (.iconst 0, 1) := by decide +kernel
theorem dX9_queueOf_3 : decode cX9_queueOf 3 = .ok (.istore 4, 2) := by decide +kernel
theorem dX9_queueOf_5 : decode cX9_queueOf 5 = .ok (.iload 4, 2) := by decide +kernel
theorem dX9_queueOf_7 : decode cX9_queueOf 7 = .ok (.aload_n 0, 1) := by decide +kernel
theorem dX9_queueOf_8 : decode cX9_queueOf 8 = .ok (.getfield 85, 3) := by decide +kernel
theorem dX9_queueOf_11 : decode cX9_queueOf 11 = .ok (.if_icmp .ge 34, 3) := by decide +kernel
theorem dX9_queueOf_14 : decode cX9_queueOf 14 = .ok (.aload_n 0, 1) := by decide +kernel
theorem dX9_queueOf_15 : decode cX9_queueOf 15 = .ok (.getfield 31, 3) := by decide +kernel
theorem dX9_queueOf_18 : decode cX9_queueOf 18 = .ok (.iload 4, 2) := by decide +kernel
theorem dX9_queueOf_20 : decode cX9_queueOf 20 = .ok (.iaload, 1) := by decide +kernel
theorem dX9_queueOf_21 : decode cX9_queueOf 21 = .ok (.iload_n 1, 1) := by decide +kernel
theorem dX9_queueOf_22 : decode cX9_queueOf 22 = .ok (.if_icmp .ne 17, 3) := by decide +kernel
theorem dX9_queueOf_25 : decode cX9_queueOf 25 = .ok (.aload_n 0, 1) := by decide +kernel
theorem dX9_queueOf_26 : decode cX9_queueOf 26 = .ok (.getfield 34, 3) := by decide +kernel
theorem dX9_queueOf_29 : decode cX9_queueOf 29 = .ok (.iload 4, 2) := by decide +kernel
theorem dX9_queueOf_31 : decode cX9_queueOf 31 = .ok (.iaload, 1) := by decide +kernel
theorem dX9_queueOf_32 : decode cX9_queueOf 32 = .ok (.iload_n 2, 1) := by decide +kernel
theorem dX9_queueOf_33 : decode cX9_queueOf 33 = .ok (.if_icmp .ne 6, 3) := by decide +kernel
theorem dX9_queueOf_36 : decode cX9_queueOf 36 = .ok (.iinc 3 1, 3) := by decide +kernel
theorem dX9_queueOf_39 : decode cX9_queueOf 39 = .ok (.iinc 4 1, 3) := by decide +kernel
theorem dX9_queueOf_42 : decode cX9_queueOf 42 = .ok (.goto (-37), 3) := by decide +kernel
theorem dX9_queueOf_45 : decode cX9_queueOf 45 = .ok (.iload_n 3, 1) := by decide +kernel
theorem dX9_queueOf_46 : decode cX9_queueOf 46 = .ok (.ireturn, 1) := by decide +kernel
theorem dX9_queue_0 : decode cX9_queue 0 = .ok (.aload_n 0, 1) := by decide +kernel
theorem dX9_queue_1 : decode cX9_queue 1 = .ok (.iload_n 1, 1) := by decide +kernel
theorem dX9_queue_2 : decode cX9_queue 2 = .ok (.invokevirtual 88, 3) := by decide +kernel
theorem dX9_queue_5 : decode cX9_queue 5 = .ok (.ifCond .eq 23, 3) := by decide +kernel
theorem dX9_queue_8 : decode cX9_queue 8 = .ok (.iload_n 2, 1) := by decide +kernel
theorem dX9_queue_9 : decode cX9_queue 9 = .ok (.iconst 0, 1) := by decide +kernel
theorem dX9_queue_10 : decode cX9_queue 10 = .ok (.sipush 999, 3) := by decide +kernel
theorem dX9_queue_13 : decode cX9_queue 13 = .ok (.invokestatic 78, 3) := by decide +kernel
theorem dX9_queue_16 : decode cX9_queue 16 = .ok (.ifCond .eq 12, 3) := by decide +kernel
theorem dX9_queue_19 : decode cX9_queue 19 = .ok (.aload_n 0, 1) := by decide +kernel
theorem dX9_queue_20 : decode cX9_queue 20 = .ok (.iload_n 1, 1) := by decide +kernel
theorem dX9_queue_21 : decode cX9_queue 21 = .ok (.iload_n 2, 1) := by decide +kernel
theorem dX9_queue_22 : decode cX9_queue 22 = .ok (.invokevirtual 282, 3) := by decide +kernel
theorem dX9_queue_25 : decode cX9_queue 25 = .ok (.goto 9, 3) := by decide +kernel
theorem dX9_queue_28 : decode cX9_queue 28 = .ok (.aload_n 0, 1) := by decide +kernel
theorem dX9_queue_29 : decode cX9_queue 29 = .ok (.bipush (-2), 2) := by decide +kernel
theorem dX9_queue_31 : decode cX9_queue 31 = .ok (.invokevirtual 95, 3) := by decide +kernel
theorem dX9_queue_34 : decode cX9_queue 34 = .ok (.ireturn, 1) := by decide +kernel
theorem dX9_longest_0 : decode cX9_longest 0 = .ok (.iload_n 1, 1) := by decide +kernel
theorem dX9_longest_1 : decode cX9_longest 1 = .ok (.iconst 0, 1) := by decide +kernel
theorem dX9_longest_2 : decode cX9_longest 2 = .ok (.iconst 2, 1) := by decide +kernel
theorem dX9_longest_3 : decode cX9_longest 3 = .ok (.invokestatic 78, 3) := by decide +kernel
theorem dX9_longest_6 : decode cX9_longest 6 = .ok (.ifCond .ne 10, 3) := by decide +kernel
theorem dX9_longest_9 : decode cX9_longest 9 = .ok (.aload_n 0, 1) := by decide +kernel
theorem dX9_longest_10 : decode cX9_longest 10 = .ok (.bipush (-2), 2) := by decide +kernel
theorem dX9_longest_12 : decode cX9_longest 12 = .ok (.invokevirtual 95, 3) := by decide +kernel
theorem dX9_longest_15 : decode cX9_longest 15 = .ok (.ireturn, 1) := by decide +kernel
theorem dX9_longest_16 : decode cX9_longest 16 = .ok (.iconst 0, 1) := by decide +kernel
theorem dX9_longest_17 : decode cX9_longest 17 = .ok (.istore_n 2, 1) := by decide +kernel
theorem dX9_longest_18 : decode cX9_longest 18 = .ok (.iconst (-1), 1) := by decide +kernel
theorem dX9_longest_19 : decode cX9_longest 19 = .ok (.istore_n 3, 1) := by decide +kernel
theorem dX9_longest_20 : decode cX9_longest 20 = .ok (.iconst (-1), 1) := by decide +kernel
theorem dX9_longest_21 : decode cX9_longest 21 = .ok (.istore 4, 2) := by decide +kernel
theorem dX9_longest_23 : decode cX9_longest 23 = .ok (.iconst 0, 1) := by decide +kernel
theorem dX9_longest_24 : decode cX9_longest 24 = .ok (.istore 5, 2) := by decide +kernel
theorem dX9_longest_26 : decode cX9_longest 26 = .ok (.iload 5, 2) := by decide +kernel
theorem dX9_longest_28 : decode cX9_longest 28 = .ok (.aload_n 0, 1) := by decide +kernel
theorem dX9_longest_29 : decode cX9_longest 29 = .ok (.getfield 82, 3) := by decide +kernel
theorem dX9_longest_32 : decode cX9_longest 32 = .ok (.if_icmp .ge 55, 3) := by decide +kernel
theorem dX9_longest_35 : decode cX9_longest 35 = .ok (.iconst 0, 1) := by decide +kernel
theorem dX9_longest_36 : decode cX9_longest 36 = .ok (.istore 6, 2) := by decide +kernel
theorem dX9_longest_38 : decode cX9_longest 38 = .ok (.iload 6, 2) := by decide +kernel
theorem dX9_longest_40 : decode cX9_longest 40 = .ok (.sipush 1000, 3) := by decide +kernel
theorem dX9_longest_43 : decode cX9_longest 43 = .ok (.if_icmp .ge 38, 3) := by decide +kernel
theorem dX9_longest_46 : decode cX9_longest 46 = .ok (.aload_n 0, 1) := by decide +kernel
theorem dX9_longest_47 : decode cX9_longest 47 = .ok (.iload 5, 2) := by decide +kernel
theorem dX9_longest_49 : decode cX9_longest 49 = .ok (.iload 6, 2) := by decide +kernel
theorem dX9_longest_51 : decode cX9_longest 51 = .ok (.invokevirtual 282, 3) := by decide +kernel
theorem dX9_longest_54 : decode cX9_longest 54 = .ok (.istore 7, 2) := by decide +kernel
theorem dX9_longest_56 : decode cX9_longest 56 = .ok (.iload 7, 2) := by decide +kernel
theorem dX9_longest_58 : decode cX9_longest 58 = .ok (.iload_n 2, 1) := by decide +kernel
theorem dX9_longest_59 : decode cX9_longest 59 = .ok (.if_icmp .gt 6, 3) := by decide +kernel
theorem dX9_longest_62 : decode cX9_longest 62 = .ok (.goto 13, 3) := by decide +kernel
theorem dX9_longest_65 : decode cX9_longest 65 = .ok (.iload 7, 2) := by decide +kernel
theorem dX9_longest_67 : decode cX9_longest 67 = .ok (.istore_n 2, 1) := by decide +kernel
theorem dX9_longest_68 : decode cX9_longest 68 = .ok (.iload 5, 2) := by decide +kernel
theorem dX9_longest_70 : decode cX9_longest 70 = .ok (.istore_n 3, 1) := by decide +kernel
theorem dX9_longest_71 : decode cX9_longest 71 = .ok (.iload 6, 2) := by decide +kernel
theorem dX9_longest_73 : decode cX9_longest 73 = .ok (.istore 4, 2) := by decide +kernel
theorem dX9_longest_75 : decode cX9_longest 75 = .ok (.iinc 6 1, 3) := by decide +kernel
theorem dX9_longest_78 : decode cX9_longest 78 = .ok (.goto (-40), 3) := by decide +kernel
theorem dX9_longest_81 : decode cX9_longest 81 = .ok (.iinc 5 1, 3) := by decide +kernel
theorem dX9_longest_84 : decode cX9_longest 84 = .ok (.goto (-58), 3) := by decide +kernel
theorem dX9_longest_87 : decode cX9_longest 87 = .ok (.iload_n 1, 1) := by decide +kernel
theorem dX9_longest_88 : decode cX9_longest 88 = .ok (.ifCond .ne 7, 3) := by decide +kernel
theorem dX9_longest_91 : decode cX9_longest 91 = .ok (.iload_n 2, 1) := by decide +kernel
theorem dX9_longest_92 : decode cX9_longest 92 = .ok (.goto 14, 3) := by decide +kernel
theorem dX9_longest_95 : decode cX9_longest 95 = .ok (.iload_n 1, 1) := by decide +kernel
theorem dX9_longest_96 : decode cX9_longest 96 = .ok (.iconst 1, 1) := by decide +kernel
theorem dX9_longest_97 : decode cX9_longest 97 = .ok (.if_icmp .ne 8, 3) := by decide +kernel
theorem dX9_longest_100 : decode cX9_longest 100 = .ok (.iload 4, 2) := by decide +kernel
theorem dX9_longest_102 : decode cX9_longest 102 = .ok (.goto 4, 3) := by decide +kernel
theorem dX9_longest_105 : decode cX9_longest 105 = .ok (.iload_n 3, 1) := by decide +kernel
theorem dX9_longest_106 : decode cX9_longest 106 = .ok (.ireturn, 1) := by decide +kernel
theorem dX9_move_0 : decode cX9_move 0 = .ok (.aload_n 0, 1) := by decide +kernel
theorem dX9_move_1 : decode cX9_move 1 = .ok (.iload_n 1, 1) := by decide +kernel
theorem dX9_move_2 : decode cX9_move 2 = .ok (.invokevirtual 109, 3) := by decide +kernel
theorem dX9_move_5 : decode cX9_move 5 = .ok (.ifCond .eq 12, 3) := by decide +kernel
theorem dX9_move_8 : decode cX9_move 8 = .ok (.iload_n 2, 1) := by decide +kernel
theorem dX9_move_9 : decode cX9_move 9 = .ok (.iconst 0, 1) := by decide +kernel
theorem dX9_move_10 : decode cX9_move 10 = .ok (.iconst 1, 1) := by decide +kernel
theorem dX9_move_11 : decode cX9_move 11 = .ok (.invokestatic 78, 3) := by decide +kernel
theorem dX9_move_14 : decode cX9_move 14 = .ok (.ifCond .ne 10, 3) := by decide +kernel
theorem dX9_move_17 : decode cX9_move 17 = .ok (.aload_n 0, 1) := by decide +kernel
theorem dX9_move_18 : decode cX9_move 18 = .ok (.bipush (-2), 2) := by decide +kernel
theorem dX9_move_20 : decode cX9_move 20 = .ok (.invokevirtual 95, 3) := by decide +kernel
theorem dX9_move_23 : decode cX9_move 23 = .ok (.ireturn, 1) := by decide +kernel
theorem dX9_move_24 : decode cX9_move 24 = .ok (.aload_n 0, 1) := by decide +kernel
theorem dX9_move_25 : decode cX9_move 25 = .ok (.getfield 28, 3) := by decide +kernel
theorem dX9_move_28 : decode cX9_move 28 = .ok (.iload_n 1, 1) := by decide +kernel
theorem dX9_move_29 : decode cX9_move 29 = .ok (.iaload, 1) := by decide +kernel
theorem dX9_move_30 : decode cX9_move 30 = .ok (.istore_n 3, 1) := by decide +kernel
theorem dX9_move_31 : decode cX9_move 31 = .ok (.iconst 0, 1) := by decide +kernel
theorem dX9_move_32 : decode cX9_move 32 = .ok (.istore 4, 2) := by decide +kernel
theorem dX9_move_34 : decode cX9_move 34 = .ok (.iconst 0, 1) := by decide +kernel
theorem dX9_move_35 : decode cX9_move 35 = .ok (.istore 5, 2) := by decide +kernel
theorem dX9_move_37 : decode cX9_move 37 = .ok (.iconst 0, 1) := by decide +kernel
theorem dX9_move_38 : decode cX9_move 38 = .ok (.istore 6, 2) := by decide +kernel
theorem dX9_move_40 : decode cX9_move 40 = .ok (.iload 6, 2) := by decide +kernel
theorem dX9_move_42 : decode cX9_move 42 = .ok (.aload_n 0, 1) := by decide +kernel
theorem dX9_move_43 : decode cX9_move 43 = .ok (.getfield 71, 3) := by decide +kernel
theorem dX9_move_46 : decode cX9_move 46 = .ok (.if_icmp .ge 73, 3) := by decide +kernel
theorem dX9_move_49 : decode cX9_move 49 = .ok (.aload_n 0, 1) := by decide +kernel
theorem dX9_move_50 : decode cX9_move 50 = .ok (.getfield 28, 3) := by decide +kernel
theorem dX9_move_53 : decode cX9_move 53 = .ok (.iload_n 1, 1) := by decide +kernel
theorem dX9_move_54 : decode cX9_move 54 = .ok (.iload 6, 2) := by decide +kernel
theorem dX9_move_56 : decode cX9_move 56 = .ok (.iastore, 1) := by decide +kernel
theorem dX9_move_57 : decode cX9_move 57 = .ok (.iconst 0, 1) := by decide +kernel
theorem dX9_move_58 : decode cX9_move 58 = .ok (.istore 7, 2) := by decide +kernel
theorem dX9_move_60 : decode cX9_move 60 = .ok (.iconst 0, 1) := by decide +kernel
theorem dX9_move_61 : decode cX9_move 61 = .ok (.istore 8, 2) := by decide +kernel
theorem dX9_move_63 : decode cX9_move 63 = .ok (.iload 8, 2) := by decide +kernel
theorem dX9_move_65 : decode cX9_move 65 = .ok (.aload_n 0, 1) := by decide +kernel
theorem dX9_move_66 : decode cX9_move 66 = .ok (.getfield 82, 3) := by decide +kernel
theorem dX9_move_69 : decode cX9_move 69 = .ok (.if_icmp .ge 26, 3) := by decide +kernel
theorem dX9_move_72 : decode cX9_move 72 = .ok (.aload_n 0, 1) := by decide +kernel
theorem dX9_move_73 : decode cX9_move 73 = .ok (.iload 8, 2) := by decide +kernel
theorem dX9_move_75 : decode cX9_move 75 = .ok (.invokevirtual 234, 3) := by decide +kernel
theorem dX9_move_78 : decode cX9_move 78 = .ok (.iload_n 1, 1) := by decide +kernel
theorem dX9_move_79 : decode cX9_move 79 = .ok (.ishr, 1) := by decide +kernel
theorem dX9_move_80 : decode cX9_move 80 = .ok (.iconst 1, 1) := by decide +kernel
theorem dX9_move_81 : decode cX9_move 81 = .ok (.iand, 1) := by decide +kernel
theorem dX9_move_82 : decode cX9_move 82 = .ok (.iconst 1, 1) := by decide +kernel
theorem dX9_move_83 : decode cX9_move 83 = .ok (.if_icmp .ne 6, 3) := by decide +kernel
theorem dX9_move_86 : decode cX9_move 86 = .ok (.iinc 7 1, 3) := by decide +kernel
theorem dX9_move_89 : decode cX9_move 89 = .ok (.iinc 8 1, 3) := by decide +kernel
theorem dX9_move_92 : decode cX9_move 92 = .ok (.goto (-29), 3) := by decide +kernel
theorem dX9_move_95 : decode cX9_move 95 = .ok (.iload 7, 2) := by decide +kernel
theorem dX9_move_97 : decode cX9_move 97 = .ok (.iload 5, 2) := by decide +kernel
theorem dX9_move_99 : decode cX9_move 99 = .ok (.if_icmp .gt 6, 3) := by decide +kernel
theorem dX9_move_102 : decode cX9_move 102 = .ok (.goto 11, 3) := by decide +kernel
theorem dX9_move_105 : decode cX9_move 105 = .ok (.iload 7, 2) := by decide +kernel
theorem dX9_move_107 : decode cX9_move 107 = .ok (.istore 5, 2) := by decide +kernel
theorem dX9_move_109 : decode cX9_move 109 = .ok (.iload 6, 2) := by decide +kernel
theorem dX9_move_111 : decode cX9_move 111 = .ok (.istore 4, 2) := by decide +kernel
theorem dX9_move_113 : decode cX9_move 113 = .ok (.iinc 6 1, 3) := by decide +kernel
theorem dX9_move_116 : decode cX9_move 116 = .ok (.goto (-76), 3) := by decide +kernel
theorem dX9_move_119 : decode cX9_move 119 = .ok (.aload_n 0, 1) := by decide +kernel
theorem dX9_move_120 : decode cX9_move 120 = .ok (.getfield 28, 3) := by decide +kernel
theorem dX9_move_123 : decode cX9_move 123 = .ok (.iload_n 1, 1) := by decide +kernel
theorem dX9_move_124 : decode cX9_move 124 = .ok (.iload_n 3, 1) := by decide +kernel
theorem dX9_move_125 : decode cX9_move 125 = .ok (.iastore, 1) := by decide +kernel
theorem dX9_move_126 : decode cX9_move 126 = .ok (.iload_n 2, 1) := by decide +kernel
theorem dX9_move_127 : decode cX9_move 127 = .ok (.ifCond .ne 8, 3) := by decide +kernel
theorem dX9_move_130 : decode cX9_move 130 = .ok (.iload 4, 2) := by decide +kernel
theorem dX9_move_132 : decode cX9_move 132 = .ok (.goto 5, 3) := by decide +kernel
theorem dX9_move_135 : decode cX9_move 135 = .ok (.iload 5, 2) := by decide +kernel
theorem dX9_move_137 : decode cX9_move 137 = .ok (.ireturn, 1) := by decide +kernel
theorem dX9_rival_0 : decode cX9_rival 0 = .ok (.aload_n 0, 1) := by decide +kernel
theorem dX9_rival_1 : decode cX9_rival 1 = .ok (.iload_n 1, 1) := by decide +kernel
theorem dX9_rival_2 : decode cX9_rival 2 = .ok (.invokevirtual 109, 3) := by decide +kernel
theorem dX9_rival_5 : decode cX9_rival 5 = .ok (.ifCond .eq 30, 3) := by decide +kernel
theorem dX9_rival_8 : decode cX9_rival 8 = .ok (.aload_n 0, 1) := by decide +kernel
theorem dX9_rival_9 : decode cX9_rival 9 = .ok (.iload_n 2, 1) := by decide +kernel
theorem dX9_rival_10 : decode cX9_rival 10 = .ok (.iload_n 3, 1) := by decide +kernel
theorem dX9_rival_11 : decode cX9_rival 11 = .ok (.iload 4, 2) := by decide +kernel
theorem dX9_rival_13 : decode cX9_rival 13 = .ok (.invokevirtual 207, 3) := by decide +kernel
theorem dX9_rival_16 : decode cX9_rival 16 = .ok (.ifCond .eq 19, 3) := by decide +kernel
theorem dX9_rival_19 : decode cX9_rival 19 = .ok (.aload_n 0, 1) := by decide +kernel
theorem dX9_rival_20 : decode cX9_rival 20 = .ok (.aload_n 0, 1) := by decide +kernel
theorem dX9_rival_21 : decode cX9_rival 21 = .ok (.iload_n 2, 1) := by decide +kernel
theorem dX9_rival_22 : decode cX9_rival 22 = .ok (.iload_n 3, 1) := by decide +kernel
theorem dX9_rival_23 : decode cX9_rival 23 = .ok (.iload 4, 2) := by decide +kernel
theorem dX9_rival_25 : decode cX9_rival 25 = .ok (.invokevirtual 210, 3) := by decide +kernel
theorem dX9_rival_28 : decode cX9_rival 28 = .ok (.iload_n 1, 1) := by decide +kernel
theorem dX9_rival_29 : decode cX9_rival 29 = .ok (.invokevirtual 225, 3) := by decide +kernel
theorem dX9_rival_32 : decode cX9_rival 32 = .ok (.goto 9, 3) := by decide +kernel
theorem dX9_rival_35 : decode cX9_rival 35 = .ok (.aload_n 0, 1) := by decide +kernel
theorem dX9_rival_36 : decode cX9_rival 36 = .ok (.bipush (-2), 2) := by decide +kernel
theorem dX9_rival_38 : decode cX9_rival 38 = .ok (.invokevirtual 95, 3) := by decide +kernel
theorem dX9_rival_41 : decode cX9_rival 41 = .ok (.ireturn, 1) := by decide +kernel
theorem dX9_firstDue_0 : decode cX9_firstDue 0 = .ok (.sipush 1000, 3) := by decide +kernel
theorem dX9_firstDue_3 : decode cX9_firstDue 3 = .ok (.istore_n 1, 1) := by decide +kernel
theorem dX9_firstDue_4 : decode cX9_firstDue 4 = .ok (.iconst 0, 1) := by decide +kernel
theorem dX9_firstDue_5 : decode cX9_firstDue 5 = .ok (.istore_n 2, 1) := by decide +kernel
theorem dX9_firstDue_6 : decode cX9_firstDue 6 = .ok (.iload_n 2, 1) := by decide +kernel
theorem dX9_firstDue_7 : decode cX9_firstDue 7 = .ok (.aload_n 0, 1) := by decide +kernel
theorem dX9_firstDue_8 : decode cX9_firstDue 8 = .ok (.getfield 85, 3) := by decide +kernel
theorem dX9_firstDue_11 : decode cX9_firstDue 11 = .ok (.if_icmp .ge 30, 3) := by decide +kernel
theorem dX9_firstDue_14 : decode cX9_firstDue 14 = .ok (.aload_n 0, 1) := by decide +kernel
theorem dX9_firstDue_15 : decode cX9_firstDue 15 = .ok (.getfield 34, 3) := by decide +kernel
theorem dX9_firstDue_18 : decode cX9_firstDue 18 = .ok (.iload_n 2, 1) := by decide +kernel
theorem dX9_firstDue_19 : decode cX9_firstDue 19 = .ok (.iaload, 1) := by decide +kernel
theorem dX9_firstDue_20 : decode cX9_firstDue 20 = .ok (.iconst (-1), 1) := by decide +kernel
theorem dX9_firstDue_21 : decode cX9_firstDue 21 = .ok (.if_icmp .eq 14, 3) := by decide +kernel
theorem dX9_firstDue_24 : decode cX9_firstDue 24 = .ok (.iload_n 1, 1) := by decide +kernel
theorem dX9_firstDue_25 : decode cX9_firstDue 25 = .ok (.aload_n 0, 1) := by decide +kernel
theorem dX9_firstDue_26 : decode cX9_firstDue 26 = .ok (.getfield 34, 3) := by decide +kernel
theorem dX9_firstDue_29 : decode cX9_firstDue 29 = .ok (.iload_n 2, 1) := by decide +kernel
theorem dX9_firstDue_30 : decode cX9_firstDue 30 = .ok (.iaload, 1) := by decide +kernel
theorem dX9_firstDue_31 : decode cX9_firstDue 31 = .ok (.invokestatic 285, 3) := by decide +kernel
theorem dX9_firstDue_34 : decode cX9_firstDue 34 = .ok (.istore_n 1, 1) := by decide +kernel
theorem dX9_firstDue_35 : decode cX9_firstDue 35 = .ok (.iinc 2 1, 3) := by decide +kernel
theorem dX9_firstDue_38 : decode cX9_firstDue 38 = .ok (.goto (-32), 3) := by decide +kernel
theorem dX9_firstDue_41 : decode cX9_firstDue 41 = .ok (.iload_n 1, 1) := by decide +kernel
theorem dX9_firstDue_42 : decode cX9_firstDue 42 = .ok (.ireturn, 1) := by decide +kernel
theorem dX9_having_0 : decode cX9_having 0 = .ok (.iload_n 1, 1) := by decide +kernel
theorem dX9_having_1 : decode cX9_having 1 = .ok (.iconst 0, 1) := by decide +kernel
theorem dX9_having_2 : decode cX9_having 2 = .ok (.iconst 2, 1) := by decide +kernel
theorem dX9_having_3 : decode cX9_having 3 = .ok (.invokestatic 78, 3) := by decide +kernel
theorem dX9_having_6 : decode cX9_having 6 = .ok (.ifCond .ne 10, 3) := by decide +kernel
theorem dX9_having_9 : decode cX9_having 9 = .ok (.aload_n 0, 1) := by decide +kernel
theorem dX9_having_10 : decode cX9_having 10 = .ok (.bipush (-2), 2) := by decide +kernel
theorem dX9_having_12 : decode cX9_having 12 = .ok (.invokevirtual 95, 3) := by decide +kernel
theorem dX9_having_15 : decode cX9_having 15 = .ok (.ireturn, 1) := by decide +kernel
theorem dX9_having_16 : decode cX9_having 16 = .ok (.aload_n 0, 1) := by decide +kernel
theorem dX9_having_17 : decode cX9_having 17 = .ok (.invokevirtual 288, 3) := by decide +kernel
theorem dX9_having_20 : decode cX9_having 20 = .ok (.istore_n 2, 1) := by decide +kernel
theorem dX9_having_21 : decode cX9_having 21 = .ok (.iconst 0, 1) := by decide +kernel
theorem dX9_having_22 : decode cX9_having 22 = .ok (.istore_n 3, 1) := by decide +kernel
theorem dX9_having_23 : decode cX9_having 23 = .ok (.iconst 0, 1) := by decide +kernel
theorem dX9_having_24 : decode cX9_having 24 = .ok (.istore 4, 2) := by decide +kernel
theorem dX9_having_26 : decode cX9_having 26 = .ok (.iload 4, 2) := by decide +kernel
theorem dX9_having_28 : decode cX9_having 28 = .ok (.aload_n 0, 1) := by decide +kernel
theorem dX9_having_29 : decode cX9_having 29 = .ok (.getfield 85, 3) := by decide +kernel
theorem dX9_having_32 : decode cX9_having 32 = .ok (.if_icmp .ge 75, 3) := by decide +kernel
theorem dX9_having_35 : decode cX9_having 35 = .ok (.iload_n 1, 1) := by decide +kernel
theorem dX9_having_36 : decode cX9_having 36 = .ok (.ifCond .ne 17, 3) := by decide +kernel
theorem dX9_having_39 : decode cX9_having 39 = .ok (.aload_n 0, 1) := by decide +kernel
theorem dX9_having_40 : decode cX9_having 40 = .ok (.getfield 31, 3) := by decide +kernel
theorem dX9_having_43 : decode cX9_having 43 = .ok (.iload 4, 2) := by decide +kernel
theorem dX9_having_45 : decode cX9_having 45 = .ok (.iaload, 1) := by decide +kernel
theorem dX9_having_46 : decode cX9_having 46 = .ok (.iconst (-1), 1) := by decide +kernel
theorem dX9_having_47 : decode cX9_having 47 = .ok (.if_icmp .eq 54, 3) := by decide +kernel
theorem dX9_having_50 : decode cX9_having 50 = .ok (.goto 44, 3) := by decide +kernel
theorem dX9_having_53 : decode cX9_having 53 = .ok (.iload_n 1, 1) := by decide +kernel
theorem dX9_having_54 : decode cX9_having 54 = .ok (.iconst 1, 1) := by decide +kernel
theorem dX9_having_55 : decode cX9_having 55 = .ok (.if_icmp .ne 28, 3) := by decide +kernel
theorem dX9_having_58 : decode cX9_having 58 = .ok (.aload_n 0, 1) := by decide +kernel
theorem dX9_having_59 : decode cX9_having 59 = .ok (.getfield 31, 3) := by decide +kernel
theorem dX9_having_62 : decode cX9_having 62 = .ok (.iload 4, 2) := by decide +kernel
theorem dX9_having_64 : decode cX9_having 64 = .ok (.iaload, 1) := by decide +kernel
theorem dX9_having_65 : decode cX9_having 65 = .ok (.iconst (-1), 1) := by decide +kernel
theorem dX9_having_66 : decode cX9_having 66 = .ok (.if_icmp .eq 35, 3) := by decide +kernel
theorem dX9_having_69 : decode cX9_having 69 = .ok (.aload_n 0, 1) := by decide +kernel
theorem dX9_having_70 : decode cX9_having 70 = .ok (.getfield 34, 3) := by decide +kernel
theorem dX9_having_73 : decode cX9_having 73 = .ok (.iload 4, 2) := by decide +kernel
theorem dX9_having_75 : decode cX9_having 75 = .ok (.iaload, 1) := by decide +kernel
theorem dX9_having_76 : decode cX9_having 76 = .ok (.iconst (-1), 1) := by decide +kernel
theorem dX9_having_77 : decode cX9_having 77 = .ok (.if_icmp .ne 24, 3) := by decide +kernel
theorem dX9_having_80 : decode cX9_having 80 = .ok (.goto 14, 3) := by decide +kernel
theorem dX9_having_83 : decode cX9_having 83 = .ok (.aload_n 0, 1) := by decide +kernel
theorem dX9_having_84 : decode cX9_having 84 = .ok (.getfield 34, 3) := by decide +kernel
theorem dX9_having_87 : decode cX9_having 87 = .ok (.iload 4, 2) := by decide +kernel
theorem dX9_having_89 : decode cX9_having 89 = .ok (.iaload, 1) := by decide +kernel
theorem dX9_having_90 : decode cX9_having 90 = .ok (.iload_n 2, 1) := by decide +kernel
theorem dX9_having_91 : decode cX9_having 91 = .ok (.if_icmp .ne 10, 3) := by decide +kernel
theorem dX9_having_94 : decode cX9_having 94 = .ok (.iload_n 3, 1) := by decide +kernel
theorem dX9_having_95 : decode cX9_having 95 = .ok (.iconst 1, 1) := by decide +kernel
theorem dX9_having_96 : decode cX9_having 96 = .ok (.iload 4, 2) := by decide +kernel
theorem dX9_having_98 : decode cX9_having 98 = .ok (.ishl, 1) := by decide +kernel
theorem dX9_having_99 : decode cX9_having 99 = .ok (.ior, 1) := by decide +kernel
theorem dX9_having_100 : decode cX9_having 100 = .ok (.istore_n 3, 1) := by decide +kernel
theorem dX9_having_101 : decode cX9_having 101 = .ok (.iinc 4 1, 3) := by decide +kernel
theorem dX9_having_104 : decode cX9_having 104 = .ok (.goto (-78), 3) := by decide +kernel
theorem dX9_having_107 : decode cX9_having 107 = .ok (.iload_n 3, 1) := by decide +kernel
theorem dX9_having_108 : decode cX9_having 108 = .ok (.ireturn, 1) := by decide +kernel
theorem dX9_due_0 : decode cX9_due 0 = .ok (.iload_n 1, 1) := by decide +kernel
theorem dX9_due_1 : decode cX9_due 1 = .ok (.iconst 0, 1) := by decide +kernel
theorem dX9_due_2 : decode cX9_due 2 = .ok (.iconst 1, 1) := by decide +kernel
theorem dX9_due_3 : decode cX9_due 3 = .ok (.invokestatic 78, 3) := by decide +kernel
theorem dX9_due_6 : decode cX9_due 6 = .ok (.ifCond .ne 10, 3) := by decide +kernel
theorem dX9_due_9 : decode cX9_due 9 = .ok (.aload_n 0, 1) := by decide +kernel
theorem dX9_due_10 : decode cX9_due 10 = .ok (.bipush (-2), 2) := by decide +kernel
theorem dX9_due_12 : decode cX9_due 12 = .ok (.invokevirtual 95, 3) := by decide +kernel
theorem dX9_due_15 : decode cX9_due 15 = .ok (.ireturn, 1) := by decide +kernel
theorem dX9_due_16 : decode cX9_due 16 = .ok (.iconst (-1), 1) := by decide +kernel
theorem dX9_due_17 : decode cX9_due 17 = .ok (.istore_n 2, 1) := by decide +kernel
theorem dX9_due_18 : decode cX9_due 18 = .ok (.iconst 0, 1) := by decide +kernel
theorem dX9_due_19 : decode cX9_due 19 = .ok (.istore_n 3, 1) := by decide +kernel
theorem dX9_due_20 : decode cX9_due 20 = .ok (.iload_n 3, 1) := by decide +kernel
theorem dX9_due_21 : decode cX9_due 21 = .ok (.aload_n 0, 1) := by decide +kernel
theorem dX9_due_22 : decode cX9_due 22 = .ok (.getfield 85, 3) := by decide +kernel
theorem dX9_due_25 : decode cX9_due 25 = .ok (.if_icmp .ge 20, 3) := by decide +kernel
theorem dX9_due_28 : decode cX9_due 28 = .ok (.iload_n 2, 1) := by decide +kernel
theorem dX9_due_29 : decode cX9_due 29 = .ok (.aload_n 0, 1) := by decide +kernel
theorem dX9_due_30 : decode cX9_due 30 = .ok (.getfield 34, 3) := by decide +kernel
theorem dX9_due_33 : decode cX9_due 33 = .ok (.iload_n 3, 1) := by decide +kernel
theorem dX9_due_34 : decode cX9_due 34 = .ok (.iaload, 1) := by decide +kernel
theorem dX9_due_35 : decode cX9_due 35 = .ok (.invokestatic 291, 3) := by decide +kernel
theorem dX9_due_38 : decode cX9_due 38 = .ok (.istore_n 2, 1) := by decide +kernel
theorem dX9_due_39 : decode cX9_due 39 = .ok (.iinc 3 1, 3) := by decide +kernel
theorem dX9_due_42 : decode cX9_due 42 = .ok (.goto (-22), 3) := by decide +kernel
theorem dX9_due_45 : decode cX9_due 45 = .ok (.iload_n 1, 1) := by decide +kernel
theorem dX9_due_46 : decode cX9_due 46 = .ok (.iconst 1, 1) := by decide +kernel
theorem dX9_due_47 : decode cX9_due 47 = .ok (.if_icmp .eq 8, 3) := by decide +kernel
theorem dX9_due_50 : decode cX9_due 50 = .ok (.iload_n 2, 1) := by decide +kernel
theorem dX9_due_51 : decode cX9_due 51 = .ok (.iconst (-1), 1) := by decide +kernel
theorem dX9_due_52 : decode cX9_due 52 = .ok (.if_icmp .ne 7, 3) := by decide +kernel
theorem dX9_due_55 : decode cX9_due 55 = .ok (.iload_n 2, 1) := by decide +kernel
theorem dX9_due_56 : decode cX9_due 56 = .ok (.goto 7, 3) := by decide +kernel
theorem dX9_due_59 : decode cX9_due 59 = .ok (.aload_n 0, 1) := by decide +kernel
theorem dX9_due_60 : decode cX9_due 60 = .ok (.invokevirtual 288, 3) := by decide +kernel
theorem dX9_due_63 : decode cX9_due 63 = .ok (.ireturn, 1) := by decide +kernel
theorem dX9_lentFor_0 : decode cX9_lentFor 0 = .ok (.aload_n 0, 1) := by decide +kernel
theorem dX9_lentFor_1 : decode cX9_lentFor 1 = .ok (.iload_n 1, 1) := by decide +kernel
theorem dX9_lentFor_2 : decode cX9_lentFor 2 = .ok (.invokevirtual 109, 3) := by decide +kernel
theorem dX9_lentFor_5 : decode cX9_lentFor 5 = .ok (.ifCond .eq 11, 3) := by decide +kernel
theorem dX9_lentFor_8 : decode cX9_lentFor 8 = .ok (.aload_n 0, 1) := by decide +kernel
theorem dX9_lentFor_9 : decode cX9_lentFor 9 = .ok (.iload_n 2, 1) := by decide +kernel
theorem dX9_lentFor_10 : decode cX9_lentFor 10 = .ok (.invokevirtual 88, 3) := by decide +kernel
theorem dX9_lentFor_13 : decode cX9_lentFor 13 = .ok (.ifCond .ne 10, 3) := by decide +kernel
theorem dX9_lentFor_16 : decode cX9_lentFor 16 = .ok (.aload_n 0, 1) := by decide +kernel
theorem dX9_lentFor_17 : decode cX9_lentFor 17 = .ok (.bipush (-2), 2) := by decide +kernel
theorem dX9_lentFor_19 : decode cX9_lentFor 19 = .ok (.invokevirtual 95, 3) := by decide +kernel
theorem dX9_lentFor_22 : decode cX9_lentFor 22 = .ok (.ireturn, 1) := by decide +kernel
theorem dX9_lentFor_23 : decode cX9_lentFor 23 = .ok (.aload_n 0, 1) := by decide +kernel
theorem dX9_lentFor_24 : decode cX9_lentFor 24 = .ok (.getfield 7, 3) := by decide +kernel
theorem dX9_lentFor_27 : decode cX9_lentFor 27 = .ok (.iconst 1, 1) := by decide +kernel
theorem dX9_lentFor_28 : decode cX9_lentFor 28 = .ok (.iaload, 1) := by decide +kernel
theorem dX9_lentFor_29 : decode cX9_lentFor 29 = .ok (.aload_n 0, 1) := by decide +kernel
theorem dX9_lentFor_30 : decode cX9_lentFor 30 = .ok (.iload_n 1, 1) := by decide +kernel
theorem dX9_lentFor_31 : decode cX9_lentFor 31 = .ok (.aload_n 0, 1) := by decide +kernel
theorem dX9_lentFor_32 : decode cX9_lentFor 32 = .ok (.getfield 16, 3) := by decide +kernel
theorem dX9_lentFor_35 : decode cX9_lentFor 35 = .ok (.iload_n 2, 1) := by decide +kernel
theorem dX9_lentFor_36 : decode cX9_lentFor 36 = .ok (.iaload, 1) := by decide +kernel
theorem dX9_lentFor_37 : decode cX9_lentFor 37 = .ok (.invokevirtual 116, 3) := by decide +kernel
theorem dX9_lentFor_40 : decode cX9_lentFor 40 = .ok (.iadd, 1) := by decide +kernel
theorem dX9_lentFor_41 : decode cX9_lentFor 41 = .ok (.istore_n 3, 1) := by decide +kernel
theorem dX9_lentFor_42 : decode cX9_lentFor 42 = .ok (.iload_n 3, 1) := by decide +kernel
theorem dX9_lentFor_43 : decode cX9_lentFor 43 = .ok (.sipush 999, 3) := by decide +kernel
theorem dX9_lentFor_46 : decode cX9_lentFor 46 = .ok (.if_icmp .gt 23, 3) := by decide +kernel
theorem dX9_lentFor_49 : decode cX9_lentFor 49 = .ok (.aload_n 0, 1) := by decide +kernel
theorem dX9_lentFor_50 : decode cX9_lentFor 50 = .ok (.getfield 22, 3) := by decide +kernel
theorem dX9_lentFor_53 : decode cX9_lentFor 53 = .ok (.iload_n 1, 1) := by decide +kernel
theorem dX9_lentFor_54 : decode cX9_lentFor 54 = .ok (.iaload, 1) := by decide +kernel
theorem dX9_lentFor_55 : decode cX9_lentFor 55 = .ok (.iconst 5, 1) := by decide +kernel
theorem dX9_lentFor_56 : decode cX9_lentFor 56 = .ok (.if_icmp .ne 17, 3) := by decide +kernel
theorem dX9_lentFor_59 : decode cX9_lentFor 59 = .ok (.aload_n 0, 1) := by decide +kernel
theorem dX9_lentFor_60 : decode cX9_lentFor 60 = .ok (.getfield 16, 3) := by decide +kernel
theorem dX9_lentFor_63 : decode cX9_lentFor 63 = .ok (.iload_n 2, 1) := by decide +kernel
theorem dX9_lentFor_64 : decode cX9_lentFor 64 = .ok (.iaload, 1) := by decide +kernel
theorem dX9_lentFor_65 : decode cX9_lentFor 65 = .ok (.iconst 1, 1) := by decide +kernel
theorem dX9_lentFor_66 : decode cX9_lentFor 66 = .ok (.if_icmp .le 7, 3) := by decide +kernel
theorem dX9_lentFor_69 : decode cX9_lentFor 69 = .ok (.iconst (-1), 1) := by decide +kernel
theorem dX9_lentFor_70 : decode cX9_lentFor 70 = .ok (.goto 4, 3) := by decide +kernel
theorem dX9_lentFor_73 : decode cX9_lentFor 73 = .ok (.iload_n 3, 1) := by decide +kernel
theorem dX9_lentFor_74 : decode cX9_lentFor 74 = .ok (.ireturn, 1) := by decide +kernel
theorem dX9_best_0 : decode cX9_best 0 = .ok (.iload_n 1, 1) := by decide +kernel
theorem dX9_best_1 : decode cX9_best 1 = .ok (.iconst 0, 1) := by decide +kernel
theorem dX9_best_2 : decode cX9_best 2 = .ok (.iconst 1, 1) := by decide +kernel
theorem dX9_best_3 : decode cX9_best 3 = .ok (.invokestatic 78, 3) := by decide +kernel
theorem dX9_best_6 : decode cX9_best 6 = .ok (.ifCond .ne 10, 3) := by decide +kernel
theorem dX9_best_9 : decode cX9_best 9 = .ok (.aload_n 0, 1) := by decide +kernel
theorem dX9_best_10 : decode cX9_best 10 = .ok (.bipush (-2), 2) := by decide +kernel
theorem dX9_best_12 : decode cX9_best 12 = .ok (.invokevirtual 95, 3) := by decide +kernel
theorem dX9_best_15 : decode cX9_best 15 = .ok (.ireturn, 1) := by decide +kernel
theorem dX9_best_16 : decode cX9_best 16 = .ok (.aload_n 0, 1) := by decide +kernel
theorem dX9_best_17 : decode cX9_best 17 = .ok (.getfield 82, 3) := by decide +kernel
theorem dX9_best_20 : decode cX9_best 20 = .ok (.ifCond .ne 10, 3) := by decide +kernel
theorem dX9_best_23 : decode cX9_best 23 = .ok (.aload_n 0, 1) := by decide +kernel
theorem dX9_best_24 : decode cX9_best 24 = .ok (.bipush (-5), 2) := by decide +kernel
theorem dX9_best_26 : decode cX9_best 26 = .ok (.invokevirtual 95, 3) := by decide +kernel
theorem dX9_best_29 : decode cX9_best 29 = .ok (.ireturn, 1) := by decide +kernel
theorem dX9_best_30 : decode cX9_best 30 = .ok (.iconst 0, 1) := by decide +kernel
theorem dX9_best_31 : decode cX9_best 31 = .ok (.istore_n 2, 1) := by decide +kernel
theorem dX9_best_32 : decode cX9_best 32 = .ok (.iconst 1, 1) := by decide +kernel
theorem dX9_best_33 : decode cX9_best 33 = .ok (.istore_n 3, 1) := by decide +kernel
theorem dX9_best_34 : decode cX9_best 34 = .ok (.iload_n 3, 1) := by decide +kernel
theorem dX9_best_35 : decode cX9_best 35 = .ok (.aload_n 0, 1) := by decide +kernel
theorem dX9_best_36 : decode cX9_best 36 = .ok (.getfield 82, 3) := by decide +kernel
theorem dX9_best_39 : decode cX9_best 39 = .ok (.if_icmp .ge 30, 3) := by decide +kernel
theorem dX9_best_42 : decode cX9_best 42 = .ok (.aload_n 0, 1) := by decide +kernel
theorem dX9_best_43 : decode cX9_best 43 = .ok (.iload_n 3, 1) := by decide +kernel
theorem dX9_best_44 : decode cX9_best 44 = .ok (.invokevirtual 234, 3) := by decide +kernel
theorem dX9_best_47 : decode cX9_best 47 = .ok (.invokestatic 294, 3) := by decide +kernel
theorem dX9_best_50 : decode cX9_best 50 = .ok (.aload_n 0, 1) := by decide +kernel
theorem dX9_best_51 : decode cX9_best 51 = .ok (.iload_n 2, 1) := by decide +kernel
theorem dX9_best_52 : decode cX9_best 52 = .ok (.invokevirtual 234, 3) := by decide +kernel
theorem dX9_best_55 : decode cX9_best 55 = .ok (.invokestatic 294, 3) := by decide +kernel
theorem dX9_best_58 : decode cX9_best 58 = .ok (.if_icmp .le 5, 3) := by decide +kernel
theorem dX9_best_61 : decode cX9_best 61 = .ok (.iload_n 3, 1) := by decide +kernel
theorem dX9_best_62 : decode cX9_best 62 = .ok (.istore_n 2, 1) := by decide +kernel
theorem dX9_best_63 : decode cX9_best 63 = .ok (.iinc 3 1, 3) := by decide +kernel
theorem dX9_best_66 : decode cX9_best 66 = .ok (.goto (-32), 3) := by decide +kernel
theorem dX9_best_69 : decode cX9_best 69 = .ok (.iload_n 1, 1) := by decide +kernel
theorem dX9_best_70 : decode cX9_best 70 = .ok (.ifCond .ne 7, 3) := by decide +kernel
theorem dX9_best_73 : decode cX9_best 73 = .ok (.iload_n 2, 1) := by decide +kernel
theorem dX9_best_74 : decode cX9_best 74 = .ok (.goto 11, 3) := by decide +kernel
theorem dX9_best_77 : decode cX9_best 77 = .ok (.aload_n 0, 1) := by decide +kernel
theorem dX9_best_78 : decode cX9_best 78 = .ok (.iload_n 2, 1) := by decide +kernel
theorem dX9_best_79 : decode cX9_best 79 = .ok (.invokevirtual 234, 3) := by decide +kernel
theorem dX9_best_82 : decode cX9_best 82 = .ok (.invokestatic 294, 3) := by decide +kernel
theorem dX9_best_85 : decode cX9_best 85 = .ok (.ireturn, 1) := by decide +kernel
theorem dX9_landingIn_0 : decode cX9_landingIn 0 = .ok (.iconst 0, 1) := by decide +kernel
theorem dX9_landingIn_1 : decode cX9_landingIn 1 = .ok (.istore_n 2, 1) := by decide +kernel
theorem dX9_landingIn_2 : decode cX9_landingIn 2 = .ok (.iconst 0, 1) := by decide +kernel
theorem dX9_landingIn_3 : decode cX9_landingIn 3 = .ok (.istore_n 3, 1) := by decide +kernel
theorem dX9_landingIn_4 : decode cX9_landingIn 4 = .ok (.iload_n 3, 1) := by decide +kernel
theorem dX9_landingIn_5 : decode cX9_landingIn 5 = .ok (.aload_n 0, 1) := by decide +kernel
theorem dX9_landingIn_6 : decode cX9_landingIn 6 = .ok (.getfield 82, 3) := by decide +kernel
theorem dX9_landingIn_9 : decode cX9_landingIn 9 = .ok (.if_icmp .ge 45, 3) := by decide +kernel
theorem dX9_landingIn_12 : decode cX9_landingIn 12 = .ok (.iconst 0, 1) := by decide +kernel
theorem dX9_landingIn_13 : decode cX9_landingIn 13 = .ok (.istore 4, 2) := by decide +kernel
theorem dX9_landingIn_15 : decode cX9_landingIn 15 = .ok (.iload 4, 2) := by decide +kernel
theorem dX9_landingIn_17 : decode cX9_landingIn 17 = .ok (.bipush 30, 2) := by decide +kernel
theorem dX9_landingIn_19 : decode cX9_landingIn 19 = .ok (.if_icmp .ge 29, 3) := by decide +kernel
theorem dX9_landingIn_22 : decode cX9_landingIn 22 = .ok (.aload_n 0, 1) := by decide +kernel
theorem dX9_landingIn_23 : decode cX9_landingIn 23 = .ok (.iload_n 3, 1) := by decide +kernel
theorem dX9_landingIn_24 : decode cX9_landingIn 24 = .ok (.iload 4, 2) := by decide +kernel
theorem dX9_landingIn_26 : decode cX9_landingIn 26 = .ok (.iconst 3, 1) := by decide +kernel
theorem dX9_landingIn_27 : decode cX9_landingIn 27 = .ok (.idiv, 1) := by decide +kernel
theorem dX9_landingIn_28 : decode cX9_landingIn 28 = .ok (.iload 4, 2) := by decide +kernel
theorem dX9_landingIn_30 : decode cX9_landingIn 30 = .ok (.iconst 3, 1) := by decide +kernel
theorem dX9_landingIn_31 : decode cX9_landingIn 31 = .ok (.irem, 1) := by decide +kernel
theorem dX9_landingIn_32 : decode cX9_landingIn 32 = .ok (.invokevirtual 210, 3) := by decide +kernel
theorem dX9_landingIn_35 : decode cX9_landingIn 35 = .ok (.iload_n 1, 1) := by decide +kernel
theorem dX9_landingIn_36 : decode cX9_landingIn 36 = .ok (.if_icmp .ne 6, 3) := by decide +kernel
theorem dX9_landingIn_39 : decode cX9_landingIn 39 = .ok (.iinc 2 1, 3) := by decide +kernel
theorem dX9_landingIn_42 : decode cX9_landingIn 42 = .ok (.iinc 4 1, 3) := by decide +kernel
theorem dX9_landingIn_45 : decode cX9_landingIn 45 = .ok (.goto (-30), 3) := by decide +kernel
theorem dX9_landingIn_48 : decode cX9_landingIn 48 = .ok (.iinc 3 1, 3) := by decide +kernel
theorem dX9_landingIn_51 : decode cX9_landingIn 51 = .ok (.goto (-47), 3) := by decide +kernel
theorem dX9_landingIn_54 : decode cX9_landingIn 54 = .ok (.iload_n 2, 1) := by decide +kernel
theorem dX9_landingIn_55 : decode cX9_landingIn 55 = .ok (.ireturn, 1) := by decide +kernel
theorem dX9_bed_0 : decode cX9_bed 0 = .ok (.iload_n 1, 1) := by decide +kernel
theorem dX9_bed_1 : decode cX9_bed 1 = .ok (.iconst 0, 1) := by decide +kernel
theorem dX9_bed_2 : decode cX9_bed 2 = .ok (.iconst 1, 1) := by decide +kernel
theorem dX9_bed_3 : decode cX9_bed 3 = .ok (.invokestatic 78, 3) := by decide +kernel
theorem dX9_bed_6 : decode cX9_bed 6 = .ok (.ifCond .ne 10, 3) := by decide +kernel
theorem dX9_bed_9 : decode cX9_bed 9 = .ok (.aload_n 0, 1) := by decide +kernel
theorem dX9_bed_10 : decode cX9_bed 10 = .ok (.bipush (-2), 2) := by decide +kernel
theorem dX9_bed_12 : decode cX9_bed 12 = .ok (.invokevirtual 95, 3) := by decide +kernel
theorem dX9_bed_15 : decode cX9_bed 15 = .ok (.ireturn, 1) := by decide +kernel
theorem dX9_bed_16 : decode cX9_bed 16 = .ok (.iconst 0, 1) := by decide +kernel
theorem dX9_bed_17 : decode cX9_bed 17 = .ok (.istore_n 2, 1) := by decide +kernel
theorem dX9_bed_18 : decode cX9_bed 18 = .ok (.iconst 1, 1) := by decide +kernel
theorem dX9_bed_19 : decode cX9_bed 19 = .ok (.istore_n 3, 1) := by decide +kernel
theorem dX9_bed_20 : decode cX9_bed 20 = .ok (.iload_n 3, 1) := by decide +kernel
theorem dX9_bed_21 : decode cX9_bed 21 = .ok (.aload_n 0, 1) := by decide +kernel
theorem dX9_bed_22 : decode cX9_bed 22 = .ok (.getfield 71, 3) := by decide +kernel
theorem dX9_bed_25 : decode cX9_bed 25 = .ok (.if_icmp .ge 24, 3) := by decide +kernel
theorem dX9_bed_28 : decode cX9_bed 28 = .ok (.aload_n 0, 1) := by decide +kernel
theorem dX9_bed_29 : decode cX9_bed 29 = .ok (.iload_n 3, 1) := by decide +kernel
theorem dX9_bed_30 : decode cX9_bed 30 = .ok (.invokevirtual 299, 3) := by decide +kernel
theorem dX9_bed_33 : decode cX9_bed 33 = .ok (.aload_n 0, 1) := by decide +kernel
theorem dX9_bed_34 : decode cX9_bed 34 = .ok (.iload_n 2, 1) := by decide +kernel
theorem dX9_bed_35 : decode cX9_bed 35 = .ok (.invokevirtual 299, 3) := by decide +kernel
theorem dX9_bed_38 : decode cX9_bed 38 = .ok (.if_icmp .le 5, 3) := by decide +kernel
theorem dX9_bed_41 : decode cX9_bed 41 = .ok (.iload_n 3, 1) := by decide +kernel
theorem dX9_bed_42 : decode cX9_bed 42 = .ok (.istore_n 2, 1) := by decide +kernel
theorem dX9_bed_43 : decode cX9_bed 43 = .ok (.iinc 3 1, 3) := by decide +kernel
theorem dX9_bed_46 : decode cX9_bed 46 = .ok (.goto (-26), 3) := by decide +kernel
theorem dX9_bed_49 : decode cX9_bed 49 = .ok (.iload_n 1, 1) := by decide +kernel
theorem dX9_bed_50 : decode cX9_bed 50 = .ok (.ifCond .ne 7, 3) := by decide +kernel
theorem dX9_bed_53 : decode cX9_bed 53 = .ok (.iload_n 2, 1) := by decide +kernel
theorem dX9_bed_54 : decode cX9_bed 54 = .ok (.goto 8, 3) := by decide +kernel
theorem dX9_bed_57 : decode cX9_bed 57 = .ok (.aload_n 0, 1) := by decide +kernel
theorem dX9_bed_58 : decode cX9_bed 58 = .ok (.iload_n 2, 1) := by decide +kernel
theorem dX9_bed_59 : decode cX9_bed 59 = .ok (.invokevirtual 299, 3) := by decide +kernel
theorem dX9_bed_62 : decode cX9_bed 62 = .ok (.ireturn, 1) := by decide +kernel
theorem dX9_off_0 : decode cX9_off 0 = .ok (.aload_n 0, 1) := by decide +kernel
theorem dX9_off_1 : decode cX9_off 1 = .ok (.iload_n 1, 1) := by decide +kernel
theorem dX9_off_2 : decode cX9_off 2 = .ok (.invokevirtual 88, 3) := by decide +kernel
theorem dX9_off_5 : decode cX9_off 5 = .ok (.ifCond .ne 10, 3) := by decide +kernel
theorem dX9_off_8 : decode cX9_off 8 = .ok (.aload_n 0, 1) := by decide +kernel
theorem dX9_off_9 : decode cX9_off 9 = .ok (.bipush (-2), 2) := by decide +kernel
theorem dX9_off_11 : decode cX9_off 11 = .ok (.invokevirtual 95, 3) := by decide +kernel
theorem dX9_off_14 : decode cX9_off 14 = .ok (.ireturn, 1) := by decide +kernel
theorem dX9_off_15 : decode cX9_off 15 = .ok (.iconst 0, 1) := by decide +kernel
theorem dX9_off_16 : decode cX9_off 16 = .ok (.istore_n 2, 1) := by decide +kernel
theorem dX9_off_17 : decode cX9_off 17 = .ok (.iconst 0, 1) := by decide +kernel
theorem dX9_off_18 : decode cX9_off 18 = .ok (.istore_n 3, 1) := by decide +kernel
theorem dX9_off_19 : decode cX9_off 19 = .ok (.iload_n 3, 1) := by decide +kernel
theorem dX9_off_20 : decode cX9_off 20 = .ok (.bipush 30, 2) := by decide +kernel
theorem dX9_off_22 : decode cX9_off 22 = .ok (.if_icmp .ge 27, 3) := by decide +kernel
theorem dX9_off_25 : decode cX9_off 25 = .ok (.aload_n 0, 1) := by decide +kernel
theorem dX9_off_26 : decode cX9_off 26 = .ok (.iload_n 1, 1) := by decide +kernel
theorem dX9_off_27 : decode cX9_off 27 = .ok (.iload_n 3, 1) := by decide +kernel
theorem dX9_off_28 : decode cX9_off 28 = .ok (.iconst 3, 1) := by decide +kernel
theorem dX9_off_29 : decode cX9_off 29 = .ok (.idiv, 1) := by decide +kernel
theorem dX9_off_30 : decode cX9_off 30 = .ok (.iload_n 3, 1) := by decide +kernel
theorem dX9_off_31 : decode cX9_off 31 = .ok (.iconst 3, 1) := by decide +kernel
theorem dX9_off_32 : decode cX9_off 32 = .ok (.irem, 1) := by decide +kernel
theorem dX9_off_33 : decode cX9_off 33 = .ok (.invokevirtual 210, 3) := by decide +kernel
theorem dX9_off_36 : decode cX9_off 36 = .ok (.iconst (-1), 1) := by decide +kernel
theorem dX9_off_37 : decode cX9_off 37 = .ok (.if_icmp .ne 6, 3) := by decide +kernel
theorem dX9_off_40 : decode cX9_off 40 = .ok (.iinc 2 1, 3) := by decide +kernel
theorem dX9_off_43 : decode cX9_off 43 = .ok (.iinc 3 1, 3) := by decide +kernel
theorem dX9_off_46 : decode cX9_off 46 = .ok (.goto (-27), 3) := by decide +kernel
theorem dX9_off_49 : decode cX9_off 49 = .ok (.iload_n 2, 1) := by decide +kernel
theorem dX9_off_50 : decode cX9_off 50 = .ok (.ireturn, 1) := by decide +kernel
theorem dX9_catches_0 : decode cX9_catches 0 = .ok (.aload_n 0, 1) := by decide +kernel
theorem dX9_catches_1 : decode cX9_catches 1 = .ok (.iload_n 1, 1) := by decide +kernel
theorem dX9_catches_2 : decode cX9_catches 2 = .ok (.invokevirtual 120, 3) := by decide +kernel
theorem dX9_catches_5 : decode cX9_catches 5 = .ok (.ifCond .eq 12, 3) := by decide +kernel
theorem dX9_catches_8 : decode cX9_catches 8 = .ok (.aload_n 0, 1) := by decide +kernel
theorem dX9_catches_9 : decode cX9_catches 9 = .ok (.iload_n 1, 1) := by decide +kernel
theorem dX9_catches_10 : decode cX9_catches 10 = .ok (.iconst (-1), 1) := by decide +kernel
theorem dX9_catches_11 : decode cX9_catches 11 = .ok (.invokevirtual 225, 3) := by decide +kernel
theorem dX9_catches_14 : decode cX9_catches 14 = .ok (.goto 9, 3) := by decide +kernel
theorem dX9_catches_17 : decode cX9_catches 17 = .ok (.aload_n 0, 1) := by decide +kernel
theorem dX9_catches_18 : decode cX9_catches 18 = .ok (.bipush (-2), 2) := by decide +kernel
theorem dX9_catches_20 : decode cX9_catches 20 = .ok (.invokevirtual 95, 3) := by decide +kernel
theorem dX9_catches_23 : decode cX9_catches 23 = .ok (.ireturn, 1) := by decide +kernel
theorem dX9_gaps_0 : decode cX9_gaps 0 = .ok (.iconst 0, 1) := by decide +kernel
theorem dX9_gaps_1 : decode cX9_gaps 1 = .ok (.istore_n 1, 1) := by decide +kernel
theorem dX9_gaps_2 : decode cX9_gaps 2 = .ok (.iconst 0, 1) := by decide +kernel
theorem dX9_gaps_3 : decode cX9_gaps 3 = .ok (.istore_n 2, 1) := by decide +kernel
theorem dX9_gaps_4 : decode cX9_gaps 4 = .ok (.iload_n 2, 1) := by decide +kernel
theorem dX9_gaps_5 : decode cX9_gaps 5 = .ok (.aload_n 0, 1) := by decide +kernel
theorem dX9_gaps_6 : decode cX9_gaps 6 = .ok (.getfield 71, 3) := by decide +kernel
theorem dX9_gaps_9 : decode cX9_gaps 9 = .ok (.if_icmp .ge 25, 3) := by decide +kernel
theorem dX9_gaps_12 : decode cX9_gaps 12 = .ok (.aload_n 0, 1) := by decide +kernel
theorem dX9_gaps_13 : decode cX9_gaps 13 = .ok (.iload_n 2, 1) := by decide +kernel
theorem dX9_gaps_14 : decode cX9_gaps 14 = .ok (.iconst (-1), 1) := by decide +kernel
theorem dX9_gaps_15 : decode cX9_gaps 15 = .ok (.invokevirtual 225, 3) := by decide +kernel
theorem dX9_gaps_18 : decode cX9_gaps 18 = .ok (.iconst (-1), 1) := by decide +kernel
theorem dX9_gaps_19 : decode cX9_gaps 19 = .ok (.if_icmp .ne 9, 3) := by decide +kernel
theorem dX9_gaps_22 : decode cX9_gaps 22 = .ok (.iload_n 1, 1) := by decide +kernel
theorem dX9_gaps_23 : decode cX9_gaps 23 = .ok (.iconst 1, 1) := by decide +kernel
theorem dX9_gaps_24 : decode cX9_gaps 24 = .ok (.iload_n 2, 1) := by decide +kernel
theorem dX9_gaps_25 : decode cX9_gaps 25 = .ok (.ishl, 1) := by decide +kernel
theorem dX9_gaps_26 : decode cX9_gaps 26 = .ok (.ior, 1) := by decide +kernel
theorem dX9_gaps_27 : decode cX9_gaps 27 = .ok (.istore_n 1, 1) := by decide +kernel
theorem dX9_gaps_28 : decode cX9_gaps 28 = .ok (.iinc 2 1, 3) := by decide +kernel
theorem dX9_gaps_31 : decode cX9_gaps 31 = .ok (.goto (-27), 3) := by decide +kernel
theorem dX9_gaps_34 : decode cX9_gaps 34 = .ok (.iload_n 1, 1) := by decide +kernel
theorem dX9_gaps_35 : decode cX9_gaps 35 = .ok (.ireturn, 1) := by decide +kernel
theorem dX9_between_0 : decode cX9_between 0 = .ok (.aload_n 0, 1) := by decide +kernel
theorem dX9_between_1 : decode cX9_between 1 = .ok (.iload_n 1, 1) := by decide +kernel
theorem dX9_between_2 : decode cX9_between 2 = .ok (.invokevirtual 88, 3) := by decide +kernel
theorem dX9_between_5 : decode cX9_between 5 = .ok (.ifCond .eq 25, 3) := by decide +kernel
theorem dX9_between_8 : decode cX9_between 8 = .ok (.aload_n 0, 1) := by decide +kernel
theorem dX9_between_9 : decode cX9_between 9 = .ok (.iload_n 2, 1) := by decide +kernel
theorem dX9_between_10 : decode cX9_between 10 = .ok (.invokevirtual 88, 3) := by decide +kernel
theorem dX9_between_13 : decode cX9_between 13 = .ok (.ifCond .eq 17, 3) := by decide +kernel
theorem dX9_between_16 : decode cX9_between 16 = .ok (.aload_n 0, 1) := by decide +kernel
theorem dX9_between_17 : decode cX9_between 17 = .ok (.iload_n 1, 1) := by decide +kernel
theorem dX9_between_18 : decode cX9_between 18 = .ok (.invokevirtual 237, 3) := by decide +kernel
theorem dX9_between_21 : decode cX9_between 21 = .ok (.aload_n 0, 1) := by decide +kernel
theorem dX9_between_22 : decode cX9_between 22 = .ok (.iload_n 2, 1) := by decide +kernel
theorem dX9_between_23 : decode cX9_between 23 = .ok (.invokevirtual 237, 3) := by decide +kernel
theorem dX9_between_26 : decode cX9_between 26 = .ok (.iand, 1) := by decide +kernel
theorem dX9_between_27 : decode cX9_between 27 = .ok (.goto 9, 3) := by decide +kernel
theorem dX9_between_30 : decode cX9_between 30 = .ok (.aload_n 0, 1) := by decide +kernel
theorem dX9_between_31 : decode cX9_between 31 = .ok (.bipush (-2), 2) := by decide +kernel
theorem dX9_between_33 : decode cX9_between 33 = .ok (.invokevirtual 95, 3) := by decide +kernel
theorem dX9_between_36 : decode cX9_between 36 = .ok (.ireturn, 1) := by decide +kernel
theorem dX9_fondest_0 : decode cX9_fondest 0 = .ok (.aload_n 0, 1) := by decide +kernel
theorem dX9_fondest_1 : decode cX9_fondest 1 = .ok (.iload_n 1, 1) := by decide +kernel
theorem dX9_fondest_2 : decode cX9_fondest 2 = .ok (.invokevirtual 88, 3) := by decide +kernel
theorem dX9_fondest_5 : decode cX9_fondest 5 = .ok (.ifCond .ne 10, 3) := by decide +kernel
theorem dX9_fondest_8 : decode cX9_fondest 8 = .ok (.aload_n 0, 1) := by decide +kernel
theorem dX9_fondest_9 : decode cX9_fondest 9 = .ok (.bipush (-2), 2) := by decide +kernel
theorem dX9_fondest_11 : decode cX9_fondest 11 = .ok (.invokevirtual 95, 3) := by decide +kernel
theorem dX9_fondest_14 : decode cX9_fondest 14 = .ok (.ireturn, 1) := by decide +kernel
theorem dX9_fondest_15 : decode cX9_fondest 15 = .ok (.aload_n 0, 1) := by decide +kernel
theorem dX9_fondest_16 : decode cX9_fondest 16 = .ok (.iload_n 1, 1) := by decide +kernel
theorem dX9_fondest_17 : decode cX9_fondest 17 = .ok (.invokevirtual 234, 3) := by decide +kernel
theorem dX9_fondest_20 : decode cX9_fondest 20 = .ok (.istore_n 2, 1) := by decide +kernel
theorem dX9_fondest_21 : decode cX9_fondest 21 = .ok (.iconst (-1), 1) := by decide +kernel
theorem dX9_fondest_22 : decode cX9_fondest 22 = .ok (.istore_n 3, 1) := by decide +kernel
theorem dX9_fondest_23 : decode cX9_fondest 23 = .ok (.iconst 0, 1) := by decide +kernel
theorem dX9_fondest_24 : decode cX9_fondest 24 = .ok (.istore 4, 2) := by decide +kernel
theorem dX9_fondest_26 : decode cX9_fondest 26 = .ok (.iload 4, 2) := by decide +kernel
theorem dX9_fondest_28 : decode cX9_fondest 28 = .ok (.aload_n 0, 1) := by decide +kernel
theorem dX9_fondest_29 : decode cX9_fondest 29 = .ok (.getfield 85, 3) := by decide +kernel
theorem dX9_fondest_32 : decode cX9_fondest 32 = .ok (.if_icmp .ge 43, 3) := by decide +kernel
theorem dX9_fondest_35 : decode cX9_fondest 35 = .ok (.iload_n 2, 1) := by decide +kernel
theorem dX9_fondest_36 : decode cX9_fondest 36 = .ok (.iload 4, 2) := by decide +kernel
theorem dX9_fondest_38 : decode cX9_fondest 38 = .ok (.ishr, 1) := by decide +kernel
theorem dX9_fondest_39 : decode cX9_fondest 39 = .ok (.iconst 1, 1) := by decide +kernel
theorem dX9_fondest_40 : decode cX9_fondest 40 = .ok (.iand, 1) := by decide +kernel
theorem dX9_fondest_41 : decode cX9_fondest 41 = .ok (.iconst 1, 1) := by decide +kernel
theorem dX9_fondest_42 : decode cX9_fondest 42 = .ok (.if_icmp .ne 27, 3) := by decide +kernel
theorem dX9_fondest_45 : decode cX9_fondest 45 = .ok (.iload_n 3, 1) := by decide +kernel
theorem dX9_fondest_46 : decode cX9_fondest 46 = .ok (.iconst (-1), 1) := by decide +kernel
theorem dX9_fondest_47 : decode cX9_fondest 47 = .ok (.if_icmp .eq 19, 3) := by decide +kernel
theorem dX9_fondest_50 : decode cX9_fondest 50 = .ok (.aload_n 0, 1) := by decide +kernel
theorem dX9_fondest_51 : decode cX9_fondest 51 = .ok (.iload_n 1, 1) := by decide +kernel
theorem dX9_fondest_52 : decode cX9_fondest 52 = .ok (.iload 4, 2) := by decide +kernel
theorem dX9_fondest_54 : decode cX9_fondest 54 = .ok (.invokevirtual 246, 3) := by decide +kernel
theorem dX9_fondest_57 : decode cX9_fondest 57 = .ok (.aload_n 0, 1) := by decide +kernel
theorem dX9_fondest_58 : decode cX9_fondest 58 = .ok (.iload_n 1, 1) := by decide +kernel
theorem dX9_fondest_59 : decode cX9_fondest 59 = .ok (.iload_n 3, 1) := by decide +kernel
theorem dX9_fondest_60 : decode cX9_fondest 60 = .ok (.invokevirtual 246, 3) := by decide +kernel
theorem dX9_fondest_63 : decode cX9_fondest 63 = .ok (.if_icmp .le 6, 3) := by decide +kernel
theorem dX9_fondest_66 : decode cX9_fondest 66 = .ok (.iload 4, 2) := by decide +kernel
theorem dX9_fondest_68 : decode cX9_fondest 68 = .ok (.istore_n 3, 1) := by decide +kernel
theorem dX9_fondest_69 : decode cX9_fondest 69 = .ok (.iinc 4 1, 3) := by decide +kernel
theorem dX9_fondest_72 : decode cX9_fondest 72 = .ok (.goto (-46), 3) := by decide +kernel
theorem dX9_fondest_75 : decode cX9_fondest 75 = .ok (.iload_n 3, 1) := by decide +kernel
theorem dX9_fondest_76 : decode cX9_fondest 76 = .ok (.ireturn, 1) := by decide +kernel
theorem dX9_admirer_0 : decode cX9_admirer 0 = .ok (.aload_n 0, 1) := by decide +kernel
theorem dX9_admirer_1 : decode cX9_admirer 1 = .ok (.iload_n 1, 1) := by decide +kernel
theorem dX9_admirer_2 : decode cX9_admirer 2 = .ok (.invokevirtual 109, 3) := by decide +kernel
theorem dX9_admirer_5 : decode cX9_admirer 5 = .ok (.ifCond .ne 10, 3) := by decide +kernel
theorem dX9_admirer_8 : decode cX9_admirer 8 = .ok (.aload_n 0, 1) := by decide +kernel
theorem dX9_admirer_9 : decode cX9_admirer 9 = .ok (.bipush (-2), 2) := by decide +kernel
theorem dX9_admirer_11 : decode cX9_admirer 11 = .ok (.invokevirtual 95, 3) := by decide +kernel
theorem dX9_admirer_14 : decode cX9_admirer 14 = .ok (.ireturn, 1) := by decide +kernel
theorem dX9_admirer_15 : decode cX9_admirer 15 = .ok (.iconst (-1), 1) := by decide +kernel
theorem dX9_admirer_16 : decode cX9_admirer 16 = .ok (.istore_n 2, 1) := by decide +kernel
theorem dX9_admirer_17 : decode cX9_admirer 17 = .ok (.iconst 0, 1) := by decide +kernel
theorem dX9_admirer_18 : decode cX9_admirer 18 = .ok (.istore_n 3, 1) := by decide +kernel
theorem dX9_admirer_19 : decode cX9_admirer 19 = .ok (.iload_n 3, 1) := by decide +kernel
theorem dX9_admirer_20 : decode cX9_admirer 20 = .ok (.aload_n 0, 1) := by decide +kernel
theorem dX9_admirer_21 : decode cX9_admirer 21 = .ok (.getfield 82, 3) := by decide +kernel
theorem dX9_admirer_24 : decode cX9_admirer 24 = .ok (.if_icmp .ge 44, 3) := by decide +kernel
theorem dX9_admirer_27 : decode cX9_admirer 27 = .ok (.aload_n 0, 1) := by decide +kernel
theorem dX9_admirer_28 : decode cX9_admirer 28 = .ok (.iload_n 3, 1) := by decide +kernel
theorem dX9_admirer_29 : decode cX9_admirer 29 = .ok (.invokevirtual 234, 3) := by decide +kernel
theorem dX9_admirer_32 : decode cX9_admirer 32 = .ok (.iload_n 1, 1) := by decide +kernel
theorem dX9_admirer_33 : decode cX9_admirer 33 = .ok (.ishr, 1) := by decide +kernel
theorem dX9_admirer_34 : decode cX9_admirer 34 = .ok (.iconst 1, 1) := by decide +kernel
theorem dX9_admirer_35 : decode cX9_admirer 35 = .ok (.iand, 1) := by decide +kernel
theorem dX9_admirer_36 : decode cX9_admirer 36 = .ok (.iconst 1, 1) := by decide +kernel
theorem dX9_admirer_37 : decode cX9_admirer 37 = .ok (.if_icmp .ne 25, 3) := by decide +kernel
theorem dX9_admirer_40 : decode cX9_admirer 40 = .ok (.iload_n 2, 1) := by decide +kernel
theorem dX9_admirer_41 : decode cX9_admirer 41 = .ok (.iconst (-1), 1) := by decide +kernel
theorem dX9_admirer_42 : decode cX9_admirer 42 = .ok (.if_icmp .eq 18, 3) := by decide +kernel
theorem dX9_admirer_45 : decode cX9_admirer 45 = .ok (.aload_n 0, 1) := by decide +kernel
theorem dX9_admirer_46 : decode cX9_admirer 46 = .ok (.iload_n 3, 1) := by decide +kernel
theorem dX9_admirer_47 : decode cX9_admirer 47 = .ok (.iload_n 1, 1) := by decide +kernel
theorem dX9_admirer_48 : decode cX9_admirer 48 = .ok (.invokevirtual 246, 3) := by decide +kernel
theorem dX9_admirer_51 : decode cX9_admirer 51 = .ok (.aload_n 0, 1) := by decide +kernel
theorem dX9_admirer_52 : decode cX9_admirer 52 = .ok (.iload_n 2, 1) := by decide +kernel
theorem dX9_admirer_53 : decode cX9_admirer 53 = .ok (.iload_n 1, 1) := by decide +kernel
theorem dX9_admirer_54 : decode cX9_admirer 54 = .ok (.invokevirtual 246, 3) := by decide +kernel
theorem dX9_admirer_57 : decode cX9_admirer 57 = .ok (.if_icmp .le 5, 3) := by decide +kernel
theorem dX9_admirer_60 : decode cX9_admirer 60 = .ok (.iload_n 3, 1) := by decide +kernel
theorem dX9_admirer_61 : decode cX9_admirer 61 = .ok (.istore_n 2, 1) := by decide +kernel
theorem dX9_admirer_62 : decode cX9_admirer 62 = .ok (.iinc 3 1, 3) := by decide +kernel
theorem dX9_admirer_65 : decode cX9_admirer 65 = .ok (.goto (-46), 3) := by decide +kernel
theorem dX9_admirer_68 : decode cX9_admirer 68 = .ok (.iload_n 2, 1) := by decide +kernel
theorem dX9_admirer_69 : decode cX9_admirer 69 = .ok (.ireturn, 1) := by decide +kernel
theorem dX9_reached_0 : decode cX9_reached 0 = .ok (.aload_n 0, 1) := by decide +kernel
theorem dX9_reached_1 : decode cX9_reached 1 = .ok (.iload_n 1, 1) := by decide +kernel
theorem dX9_reached_2 : decode cX9_reached 2 = .ok (.invokevirtual 120, 3) := by decide +kernel
theorem dX9_reached_5 : decode cX9_reached 5 = .ok (.ifCond .ne 10, 3) := by decide +kernel
theorem dX9_reached_8 : decode cX9_reached 8 = .ok (.aload_n 0, 1) := by decide +kernel
theorem dX9_reached_9 : decode cX9_reached 9 = .ok (.bipush (-2), 2) := by decide +kernel
theorem dX9_reached_11 : decode cX9_reached 11 = .ok (.invokevirtual 95, 3) := by decide +kernel
theorem dX9_reached_14 : decode cX9_reached 14 = .ok (.ireturn, 1) := by decide +kernel
theorem dX9_reached_15 : decode cX9_reached 15 = .ok (.iconst 0, 1) := by decide +kernel
theorem dX9_reached_16 : decode cX9_reached 16 = .ok (.istore_n 2, 1) := by decide +kernel
theorem dX9_reached_17 : decode cX9_reached 17 = .ok (.iconst 0, 1) := by decide +kernel
theorem dX9_reached_18 : decode cX9_reached 18 = .ok (.istore_n 3, 1) := by decide +kernel
theorem dX9_reached_19 : decode cX9_reached 19 = .ok (.iload_n 3, 1) := by decide +kernel
theorem dX9_reached_20 : decode cX9_reached 20 = .ok (.aload_n 0, 1) := by decide +kernel
theorem dX9_reached_21 : decode cX9_reached 21 = .ok (.getfield 85, 3) := by decide +kernel
theorem dX9_reached_24 : decode cX9_reached 24 = .ok (.if_icmp .ge 29, 3) := by decide +kernel
theorem dX9_reached_27 : decode cX9_reached 27 = .ok (.aload_n 0, 1) := by decide +kernel
theorem dX9_reached_28 : decode cX9_reached 28 = .ok (.iload_n 3, 1) := by decide +kernel
theorem dX9_reached_29 : decode cX9_reached 29 = .ok (.iload_n 1, 1) := by decide +kernel
theorem dX9_reached_30 : decode cX9_reached 30 = .ok (.invokevirtual 218, 3) := by decide +kernel
theorem dX9_reached_33 : decode cX9_reached 33 = .ok (.aload_n 0, 1) := by decide +kernel
theorem dX9_reached_34 : decode cX9_reached 34 = .ok (.iload_n 3, 1) := by decide +kernel
theorem dX9_reached_35 : decode cX9_reached 35 = .ok (.invokevirtual 204, 3) := by decide +kernel
theorem dX9_reached_38 : decode cX9_reached 38 = .ok (.if_icmp .gt 9, 3) := by decide +kernel
theorem dX9_reached_41 : decode cX9_reached 41 = .ok (.iload_n 2, 1) := by decide +kernel
theorem dX9_reached_42 : decode cX9_reached 42 = .ok (.iconst 1, 1) := by decide +kernel
theorem dX9_reached_43 : decode cX9_reached 43 = .ok (.iload_n 3, 1) := by decide +kernel
theorem dX9_reached_44 : decode cX9_reached 44 = .ok (.ishl, 1) := by decide +kernel
theorem dX9_reached_45 : decode cX9_reached 45 = .ok (.ior, 1) := by decide +kernel
theorem dX9_reached_46 : decode cX9_reached 46 = .ok (.istore_n 2, 1) := by decide +kernel
theorem dX9_reached_47 : decode cX9_reached 47 = .ok (.iinc 3 1, 3) := by decide +kernel
theorem dX9_reached_50 : decode cX9_reached 50 = .ok (.goto (-31), 3) := by decide +kernel
theorem dX9_reached_53 : decode cX9_reached 53 = .ok (.iload_n 2, 1) := by decide +kernel
theorem dX9_reached_54 : decode cX9_reached 54 = .ok (.ireturn, 1) := by decide +kernel
theorem dX9_late_0 : decode cX9_late 0 = .ok (.aload_n 0, 1) := by decide +kernel
theorem dX9_late_1 : decode cX9_late 1 = .ok (.iload_n 1, 1) := by decide +kernel
theorem dX9_late_2 : decode cX9_late 2 = .ok (.invokevirtual 109, 3) := by decide +kernel
theorem dX9_late_5 : decode cX9_late 5 = .ok (.ifCond .ne 10, 3) := by decide +kernel
theorem dX9_late_8 : decode cX9_late 8 = .ok (.aload_n 0, 1) := by decide +kernel
theorem dX9_late_9 : decode cX9_late 9 = .ok (.bipush (-2), 2) := by decide +kernel
theorem dX9_late_11 : decode cX9_late 11 = .ok (.invokevirtual 95, 3) := by decide +kernel
theorem dX9_late_14 : decode cX9_late 14 = .ok (.ireturn, 1) := by decide +kernel
theorem dX9_late_15 : decode cX9_late 15 = .ok (.iconst 0, 1) := by decide +kernel
theorem dX9_late_16 : decode cX9_late 16 = .ok (.istore_n 2, 1) := by decide +kernel
theorem dX9_late_17 : decode cX9_late 17 = .ok (.iconst 0, 1) := by decide +kernel
theorem dX9_late_18 : decode cX9_late 18 = .ok (.istore_n 3, 1) := by decide +kernel
theorem dX9_late_19 : decode cX9_late 19 = .ok (.iload_n 3, 1) := by decide +kernel
theorem dX9_late_20 : decode cX9_late 20 = .ok (.aload_n 0, 1) := by decide +kernel
theorem dX9_late_21 : decode cX9_late 21 = .ok (.getfield 82, 3) := by decide +kernel
theorem dX9_late_24 : decode cX9_late 24 = .ok (.if_icmp .ge 24, 3) := by decide +kernel
theorem dX9_late_27 : decode cX9_late 27 = .ok (.aload_n 0, 1) := by decide +kernel
theorem dX9_late_28 : decode cX9_late 28 = .ok (.iload_n 1, 1) := by decide +kernel
theorem dX9_late_29 : decode cX9_late 29 = .ok (.iload_n 3, 1) := by decide +kernel
theorem dX9_late_30 : decode cX9_late 30 = .ok (.invokevirtual 231, 3) := by decide +kernel
theorem dX9_late_33 : decode cX9_late 33 = .ok (.ifCond .ne 9, 3) := by decide +kernel
theorem dX9_late_36 : decode cX9_late 36 = .ok (.iload_n 2, 1) := by decide +kernel
theorem dX9_late_37 : decode cX9_late 37 = .ok (.iconst 1, 1) := by decide +kernel
theorem dX9_late_38 : decode cX9_late 38 = .ok (.iload_n 3, 1) := by decide +kernel
theorem dX9_late_39 : decode cX9_late 39 = .ok (.ishl, 1) := by decide +kernel
theorem dX9_late_40 : decode cX9_late 40 = .ok (.ior, 1) := by decide +kernel
theorem dX9_late_41 : decode cX9_late 41 = .ok (.istore_n 2, 1) := by decide +kernel
theorem dX9_late_42 : decode cX9_late 42 = .ok (.iinc 3 1, 3) := by decide +kernel
theorem dX9_late_45 : decode cX9_late 45 = .ok (.goto (-26), 3) := by decide +kernel
theorem dX9_late_48 : decode cX9_late 48 = .ok (.iload_n 2, 1) := by decide +kernel
theorem dX9_late_49 : decode cX9_late 49 = .ok (.ireturn, 1) := by decide +kernel
theorem dX9_ofKind_0 : decode cX9_ofKind 0 = .ok (.iload_n 1, 1) := by decide +kernel
theorem dX9_ofKind_1 : decode cX9_ofKind 1 = .ok (.iconst 0, 1) := by decide +kernel
theorem dX9_ofKind_2 : decode cX9_ofKind 2 = .ok (.iconst 5, 1) := by decide +kernel
theorem dX9_ofKind_3 : decode cX9_ofKind 3 = .ok (.invokestatic 78, 3) := by decide +kernel
theorem dX9_ofKind_6 : decode cX9_ofKind 6 = .ok (.ifCond .ne 10, 3) := by decide +kernel
theorem dX9_ofKind_9 : decode cX9_ofKind 9 = .ok (.aload_n 0, 1) := by decide +kernel
theorem dX9_ofKind_10 : decode cX9_ofKind 10 = .ok (.bipush (-2), 2) := by decide +kernel
theorem dX9_ofKind_12 : decode cX9_ofKind 12 = .ok (.invokevirtual 95, 3) := by decide +kernel
theorem dX9_ofKind_15 : decode cX9_ofKind 15 = .ok (.ireturn, 1) := by decide +kernel
theorem dX9_ofKind_16 : decode cX9_ofKind 16 = .ok (.iconst 0, 1) := by decide +kernel
theorem dX9_ofKind_17 : decode cX9_ofKind 17 = .ok (.istore_n 2, 1) := by decide +kernel
theorem dX9_ofKind_18 : decode cX9_ofKind 18 = .ok (.iconst 0, 1) := by decide +kernel
theorem dX9_ofKind_19 : decode cX9_ofKind 19 = .ok (.istore_n 3, 1) := by decide +kernel
theorem dX9_ofKind_20 : decode cX9_ofKind 20 = .ok (.iload_n 3, 1) := by decide +kernel
theorem dX9_ofKind_21 : decode cX9_ofKind 21 = .ok (.aload_n 0, 1) := by decide +kernel
theorem dX9_ofKind_22 : decode cX9_ofKind 22 = .ok (.getfield 85, 3) := by decide +kernel
theorem dX9_ofKind_25 : decode cX9_ofKind 25 = .ok (.if_icmp .ge 22, 3) := by decide +kernel
theorem dX9_ofKind_28 : decode cX9_ofKind 28 = .ok (.aload_n 0, 1) := by decide +kernel
theorem dX9_ofKind_29 : decode cX9_ofKind 29 = .ok (.getfield 22, 3) := by decide +kernel
theorem dX9_ofKind_32 : decode cX9_ofKind 32 = .ok (.iload_n 3, 1) := by decide +kernel
theorem dX9_ofKind_33 : decode cX9_ofKind 33 = .ok (.iaload, 1) := by decide +kernel
theorem dX9_ofKind_34 : decode cX9_ofKind 34 = .ok (.iload_n 1, 1) := by decide +kernel
theorem dX9_ofKind_35 : decode cX9_ofKind 35 = .ok (.if_icmp .ne 6, 3) := by decide +kernel
theorem dX9_ofKind_38 : decode cX9_ofKind 38 = .ok (.iinc 2 1, 3) := by decide +kernel
theorem dX9_ofKind_41 : decode cX9_ofKind 41 = .ok (.iinc 3 1, 3) := by decide +kernel
theorem dX9_ofKind_44 : decode cX9_ofKind 44 = .ok (.goto (-24), 3) := by decide +kernel
theorem dX9_ofKind_47 : decode cX9_ofKind 47 = .ok (.iload_n 2, 1) := by decide +kernel
theorem dX9_ofKind_48 : decode cX9_ofKind 48 = .ok (.ireturn, 1) := by decide +kernel
theorem dX9_wrong_0 : decode cX9_wrong 0 = .ok (.iconst 0, 1) := by decide +kernel
theorem dX9_wrong_1 : decode cX9_wrong 1 = .ok (.istore_n 3, 1) := by decide +kernel
theorem dX9_wrong_2 : decode cX9_wrong 2 = .ok (.iload_n 3, 1) := by decide +kernel
theorem dX9_wrong_3 : decode cX9_wrong 3 = .ok (.iload_n 2, 1) := by decide +kernel
theorem dX9_wrong_4 : decode cX9_wrong 4 = .ok (.if_icmp .ge 24, 3) := by decide +kernel
theorem dX9_wrong_7 : decode cX9_wrong 7 = .ok (.aload_n 0, 1) := by decide +kernel
theorem dX9_wrong_8 : decode cX9_wrong 8 = .ok (.aload_n 0, 1) := by decide +kernel
theorem dX9_wrong_9 : decode cX9_wrong 9 = .ok (.iload_n 1, 1) := by decide +kernel
theorem dX9_wrong_10 : decode cX9_wrong 10 = .ok (.iload_n 3, 1) := by decide +kernel
theorem dX9_wrong_11 : decode cX9_wrong 11 = .ok (.invokevirtual 265, 3) := by decide +kernel
theorem dX9_wrong_14 : decode cX9_wrong 14 = .ok (.invokevirtual 269, 3) := by decide +kernel
theorem dX9_wrong_17 : decode cX9_wrong 17 = .ok (.ifCond .ne 5, 3) := by decide +kernel
theorem dX9_wrong_20 : decode cX9_wrong 20 = .ok (.iload_n 3, 1) := by decide +kernel
theorem dX9_wrong_21 : decode cX9_wrong 21 = .ok (.ireturn, 1) := by decide +kernel
theorem dX9_wrong_22 : decode cX9_wrong 22 = .ok (.iinc 3 1, 3) := by decide +kernel
theorem dX9_wrong_25 : decode cX9_wrong 25 = .ok (.goto (-23), 3) := by decide +kernel
theorem dX9_wrong_28 : decode cX9_wrong 28 = .ok (.iconst (-1), 1) := by decide +kernel
theorem dX9_wrong_29 : decode cX9_wrong 29 = .ok (.ireturn, 1) := by decide +kernel
theorem dX9_judge_0 : decode cX9_judge 0 = .ok (.iload_n 1, 1) := by decide +kernel
theorem dX9_judge_1 : decode cX9_judge 1 = .ok (.invokestatic 92, 3) := by decide +kernel
theorem dX9_judge_4 : decode cX9_judge 4 = .ok (.ifCond .eq 13, 3) := by decide +kernel
theorem dX9_judge_7 : decode cX9_judge 7 = .ok (.iload_n 2, 1) := by decide +kernel
theorem dX9_judge_8 : decode cX9_judge 8 = .ok (.iconst 0, 1) := by decide +kernel
theorem dX9_judge_9 : decode cX9_judge 9 = .ok (.bipush 40, 2) := by decide +kernel
theorem dX9_judge_11 : decode cX9_judge 11 = .ok (.invokestatic 78, 3) := by decide +kernel
theorem dX9_judge_14 : decode cX9_judge 14 = .ok (.ifCond .ne 10, 3) := by decide +kernel
theorem dX9_judge_17 : decode cX9_judge 17 = .ok (.aload_n 0, 1) := by decide +kernel
theorem dX9_judge_18 : decode cX9_judge 18 = .ok (.bipush (-2), 2) := by decide +kernel
theorem dX9_judge_20 : decode cX9_judge 20 = .ok (.invokevirtual 95, 3) := by decide +kernel
theorem dX9_judge_23 : decode cX9_judge 23 = .ok (.ireturn, 1) := by decide +kernel
theorem dX9_judge_24 : decode cX9_judge 24 = .ok (.aload_n 0, 1) := by decide +kernel
theorem dX9_judge_25 : decode cX9_judge 25 = .ok (.iload_n 1, 1) := by decide +kernel
theorem dX9_judge_26 : decode cX9_judge 26 = .ok (.iload_n 2, 1) := by decide +kernel
theorem dX9_judge_27 : decode cX9_judge 27 = .ok (.invokevirtual 262, 3) := by decide +kernel
theorem dX9_judge_30 : decode cX9_judge 30 = .ok (.istore_n 3, 1) := by decide +kernel
theorem dX9_judge_31 : decode cX9_judge 31 = .ok (.iload_n 3, 1) := by decide +kernel
theorem dX9_judge_32 : decode cX9_judge 32 = .ok (.ifCond .ge 11, 3) := by decide +kernel
theorem dX9_judge_35 : decode cX9_judge 35 = .ok (.aload_n 0, 1) := by decide +kernel
theorem dX9_judge_36 : decode cX9_judge 36 = .ok (.iload_n 3, 1) := by decide +kernel
theorem dX9_judge_37 : decode cX9_judge 37 = .ok (.invokevirtual 95, 3) := by decide +kernel
theorem dX9_judge_40 : decode cX9_judge 40 = .ok (.goto 9, 3) := by decide +kernel
theorem dX9_judge_43 : decode cX9_judge 43 = .ok (.aload_n 0, 1) := by decide +kernel
theorem dX9_judge_44 : decode cX9_judge 44 = .ok (.iload_n 1, 1) := by decide +kernel
theorem dX9_judge_45 : decode cX9_judge 45 = .ok (.iload_n 2, 1) := by decide +kernel
theorem dX9_judge_46 : decode cX9_judge 46 = .ok (.invokevirtual 302, 3) := by decide +kernel
theorem dX9_judge_49 : decode cX9_judge 49 = .ok (.ireturn, 1) := by decide +kernel
theorem dX9_behind_0 : decode cX9_behind 0 = .ok (.iload_n 1, 1) := by decide +kernel
theorem dX9_behind_1 : decode cX9_behind 1 = .ok (.invokestatic 92, 3) := by decide +kernel
theorem dX9_behind_4 : decode cX9_behind 4 = .ok (.ifCond .eq 22, 3) := by decide +kernel
theorem dX9_behind_7 : decode cX9_behind 7 = .ok (.iload_n 2, 1) := by decide +kernel
theorem dX9_behind_8 : decode cX9_behind 8 = .ok (.iconst 0, 1) := by decide +kernel
theorem dX9_behind_9 : decode cX9_behind 9 = .ok (.bipush 40, 2) := by decide +kernel
theorem dX9_behind_11 : decode cX9_behind 11 = .ok (.invokestatic 78, 3) := by decide +kernel
theorem dX9_behind_14 : decode cX9_behind 14 = .ok (.ifCond .eq 12, 3) := by decide +kernel
theorem dX9_behind_17 : decode cX9_behind 17 = .ok (.iload_n 3, 1) := by decide +kernel
theorem dX9_behind_18 : decode cX9_behind 18 = .ok (.iconst 0, 1) := by decide +kernel
theorem dX9_behind_19 : decode cX9_behind 19 = .ok (.iconst 3, 1) := by decide +kernel
theorem dX9_behind_20 : decode cX9_behind 20 = .ok (.invokestatic 78, 3) := by decide +kernel
theorem dX9_behind_23 : decode cX9_behind 23 = .ok (.ifCond .ne 10, 3) := by decide +kernel
theorem dX9_behind_26 : decode cX9_behind 26 = .ok (.aload_n 0, 1) := by decide +kernel
theorem dX9_behind_27 : decode cX9_behind 27 = .ok (.bipush (-2), 2) := by decide +kernel
theorem dX9_behind_29 : decode cX9_behind 29 = .ok (.invokevirtual 95, 3) := by decide +kernel
theorem dX9_behind_32 : decode cX9_behind 32 = .ok (.ireturn, 1) := by decide +kernel
theorem dX9_behind_33 : decode cX9_behind 33 = .ok (.aload_n 0, 1) := by decide +kernel
theorem dX9_behind_34 : decode cX9_behind 34 = .ok (.iload_n 1, 1) := by decide +kernel
theorem dX9_behind_35 : decode cX9_behind 35 = .ok (.iload_n 2, 1) := by decide +kernel
theorem dX9_behind_36 : decode cX9_behind 36 = .ok (.invokevirtual 262, 3) := by decide +kernel
theorem dX9_behind_39 : decode cX9_behind 39 = .ok (.istore 4, 2) := by decide +kernel
theorem dX9_behind_41 : decode cX9_behind 41 = .ok (.iload 4, 2) := by decide +kernel
theorem dX9_behind_43 : decode cX9_behind 43 = .ok (.ifCond .ge 10, 3) := by decide +kernel
theorem dX9_behind_46 : decode cX9_behind 46 = .ok (.aload_n 0, 1) := by decide +kernel
theorem dX9_behind_47 : decode cX9_behind 47 = .ok (.iload 4, 2) := by decide +kernel
theorem dX9_behind_49 : decode cX9_behind 49 = .ok (.invokevirtual 95, 3) := by decide +kernel
theorem dX9_behind_52 : decode cX9_behind 52 = .ok (.ireturn, 1) := by decide +kernel
theorem dX9_behind_53 : decode cX9_behind 53 = .ok (.aload_n 0, 1) := by decide +kernel
theorem dX9_behind_54 : decode cX9_behind 54 = .ok (.iload_n 1, 1) := by decide +kernel
theorem dX9_behind_55 : decode cX9_behind 55 = .ok (.iload_n 2, 1) := by decide +kernel
theorem dX9_behind_56 : decode cX9_behind 56 = .ok (.invokevirtual 302, 3) := by decide +kernel
theorem dX9_behind_59 : decode cX9_behind 59 = .ok (.iconst (-1), 1) := by decide +kernel
theorem dX9_behind_60 : decode cX9_behind 60 = .ok (.if_icmp .eq 10, 3) := by decide +kernel
theorem dX9_behind_63 : decode cX9_behind 63 = .ok (.aload_n 0, 1) := by decide +kernel
theorem dX9_behind_64 : decode cX9_behind 64 = .ok (.bipush (-5), 2) := by decide +kernel
theorem dX9_behind_66 : decode cX9_behind 66 = .ok (.invokevirtual 95, 3) := by decide +kernel
theorem dX9_behind_69 : decode cX9_behind 69 = .ok (.ireturn, 1) := by decide +kernel
theorem dX9_behind_70 : decode cX9_behind 70 = .ok (.aload_n 0, 1) := by decide +kernel
theorem dX9_behind_71 : decode cX9_behind 71 = .ok (.aload_n 0, 1) := by decide +kernel
theorem dX9_behind_72 : decode cX9_behind 72 = .ok (.getfield 56, 3) := by decide +kernel
theorem dX9_behind_75 : decode cX9_behind 75 = .ok (.invokevirtual 194, 3) := by decide +kernel
theorem dX9_behind_78 : decode cX9_behind 78 = .ok (.iconst 0, 1) := by decide +kernel
theorem dX9_behind_79 : decode cX9_behind 79 = .ok (.istore 5, 2) := by decide +kernel
theorem dX9_behind_81 : decode cX9_behind 81 = .ok (.iconst 0, 1) := by decide +kernel
theorem dX9_behind_82 : decode cX9_behind 82 = .ok (.istore 6, 2) := by decide +kernel
theorem dX9_behind_84 : decode cX9_behind 84 = .ok (.iconst 0, 1) := by decide +kernel
theorem dX9_behind_85 : decode cX9_behind 85 = .ok (.istore 7, 2) := by decide +kernel
theorem dX9_behind_87 : decode cX9_behind 87 = .ok (.iconst 0, 1) := by decide +kernel
theorem dX9_behind_88 : decode cX9_behind 88 = .ok (.istore 8, 2) := by decide +kernel
theorem dX9_behind_90 : decode cX9_behind 90 = .ok (.iload 8, 2) := by decide +kernel
theorem dX9_behind_92 : decode cX9_behind 92 = .ok (.iload_n 2, 1) := by decide +kernel
theorem dX9_behind_93 : decode cX9_behind 93 = .ok (.if_icmp .ge 76, 3) := by decide +kernel
theorem dX9_behind_96 : decode cX9_behind 96 = .ok (.aload_n 0, 1) := by decide +kernel
theorem dX9_behind_97 : decode cX9_behind 97 = .ok (.aload_n 0, 1) := by decide +kernel
theorem dX9_behind_98 : decode cX9_behind 98 = .ok (.iload_n 1, 1) := by decide +kernel
theorem dX9_behind_99 : decode cX9_behind 99 = .ok (.iload 8, 2) := by decide +kernel
theorem dX9_behind_101 : decode cX9_behind 101 = .ok (.invokevirtual 265, 3) := by decide +kernel
theorem dX9_behind_104 : decode cX9_behind 104 = .ok (.invokevirtual 273, 3) := by decide +kernel
theorem dX9_behind_107 : decode cX9_behind 107 = .ok (.istore 9, 2) := by decide +kernel
theorem dX9_behind_109 : decode cX9_behind 109 = .ok (.aload_n 0, 1) := by decide +kernel
theorem dX9_behind_110 : decode cX9_behind 110 = .ok (.iload 9, 2) := by decide +kernel
theorem dX9_behind_112 : decode cX9_behind 112 = .ok (.iconst (-1), 1) := by decide +kernel
theorem dX9_behind_113 : decode cX9_behind 113 = .ok (.invokevirtual 225, 3) := by decide +kernel
theorem dX9_behind_116 : decode cX9_behind 116 = .ok (.istore 10, 2) := by decide +kernel
theorem dX9_behind_118 : decode cX9_behind 118 = .ok (.iload 9, 2) := by decide +kernel
theorem dX9_behind_120 : decode cX9_behind 120 = .ok (.iconst (-1), 1) := by decide +kernel
theorem dX9_behind_121 : decode cX9_behind 121 = .ok (.if_icmp .ne 9, 3) := by decide +kernel
theorem dX9_behind_124 : decode cX9_behind 124 = .ok (.iinc 7 1, 3) := by decide +kernel
theorem dX9_behind_127 : decode cX9_behind 127 = .ok (.goto 36, 3) := by decide +kernel
theorem dX9_behind_130 : decode cX9_behind 130 = .ok (.iload 10, 2) := by decide +kernel
theorem dX9_behind_132 : decode cX9_behind 132 = .ok (.iconst (-1), 1) := by decide +kernel
theorem dX9_behind_133 : decode cX9_behind 133 = .ok (.if_icmp .ne 9, 3) := by decide +kernel
theorem dX9_behind_136 : decode cX9_behind 136 = .ok (.iinc 6 1, 3) := by decide +kernel
theorem dX9_behind_139 : decode cX9_behind 139 = .ok (.goto 24, 3) := by decide +kernel
theorem dX9_behind_142 : decode cX9_behind 142 = .ok (.iinc 5 1, 3) := by decide +kernel
theorem dX9_behind_145 : decode cX9_behind 145 = .ok (.aload_n 0, 1) := by decide +kernel
theorem dX9_behind_146 : decode cX9_behind 146 = .ok (.getfield 31, 3) := by decide +kernel
theorem dX9_behind_149 : decode cX9_behind 149 = .ok (.iload 10, 2) := by decide +kernel
theorem dX9_behind_151 : decode cX9_behind 151 = .ok (.aload_n 0, 1) := by decide +kernel
theorem dX9_behind_152 : decode cX9_behind 152 = .ok (.iload_n 1, 1) := by decide +kernel
theorem dX9_behind_153 : decode cX9_behind 153 = .ok (.iload 8, 2) := by decide +kernel
theorem dX9_behind_155 : decode cX9_behind 155 = .ok (.invokevirtual 265, 3) := by decide +kernel
theorem dX9_behind_158 : decode cX9_behind 158 = .ok (.l2i, 1) := by decide +kernel
theorem dX9_behind_159 : decode cX9_behind 159 = .ok (.bipush 100, 2) := by decide +kernel
theorem dX9_behind_161 : decode cX9_behind 161 = .ok (.idiv, 1) := by decide +kernel
theorem dX9_behind_162 : decode cX9_behind 162 = .ok (.iastore, 1) := by decide +kernel
theorem dX9_behind_163 : decode cX9_behind 163 = .ok (.iinc 8 1, 3) := by decide +kernel
theorem dX9_behind_166 : decode cX9_behind 166 = .ok (.goto (-76), 3) := by decide +kernel
theorem dX9_behind_169 : decode cX9_behind 169 = .ok (.iconst 0, 1) := by decide +kernel
theorem dX9_behind_170 : decode cX9_behind 170 = .ok (.istore 8, 2) := by decide +kernel
theorem dX9_behind_172 : decode cX9_behind 172 = .ok (.iconst 0, 1) := by decide +kernel
theorem dX9_behind_173 : decode cX9_behind 173 = .ok (.istore 9, 2) := by decide +kernel
theorem dX9_behind_175 : decode cX9_behind 175 = .ok (.iload 9, 2) := by decide +kernel
theorem dX9_behind_177 : decode cX9_behind 177 = .ok (.aload_n 0, 1) := by decide +kernel
theorem dX9_behind_178 : decode cX9_behind 178 = .ok (.getfield 85, 3) := by decide +kernel
theorem dX9_behind_181 : decode cX9_behind 181 = .ok (.if_icmp .ge 29, 3) := by decide +kernel
theorem dX9_behind_184 : decode cX9_behind 184 = .ok (.aload_n 0, 1) := by decide +kernel
theorem dX9_behind_185 : decode cX9_behind 185 = .ok (.getfield 31, 3) := by decide +kernel
theorem dX9_behind_188 : decode cX9_behind 188 = .ok (.iload 9, 2) := by decide +kernel
theorem dX9_behind_190 : decode cX9_behind 190 = .ok (.iaload, 1) := by decide +kernel
theorem dX9_behind_191 : decode cX9_behind 191 = .ok (.iconst (-1), 1) := by decide +kernel
theorem dX9_behind_192 : decode cX9_behind 192 = .ok (.if_icmp .eq 12, 3) := by decide +kernel
theorem dX9_behind_195 : decode cX9_behind 195 = .ok (.iload 8, 2) := by decide +kernel
theorem dX9_behind_197 : decode cX9_behind 197 = .ok (.iconst 1, 1) := by decide +kernel
theorem dX9_behind_198 : decode cX9_behind 198 = .ok (.iload 9, 2) := by decide +kernel
theorem dX9_behind_200 : decode cX9_behind 200 = .ok (.ishl, 1) := by decide +kernel
theorem dX9_behind_201 : decode cX9_behind 201 = .ok (.ior, 1) := by decide +kernel
theorem dX9_behind_202 : decode cX9_behind 202 = .ok (.istore 8, 2) := by decide +kernel
theorem dX9_behind_204 : decode cX9_behind 204 = .ok (.iinc 9 1, 3) := by decide +kernel
theorem dX9_behind_207 : decode cX9_behind 207 = .ok (.goto (-32), 3) := by decide +kernel
theorem dX9_behind_210 : decode cX9_behind 210 = .ok (.aload_n 0, 1) := by decide +kernel
theorem dX9_behind_211 : decode cX9_behind 211 = .ok (.aload_n 0, 1) := by decide +kernel
theorem dX9_behind_212 : decode cX9_behind 212 = .ok (.getfield 56, 3) := by decide +kernel
theorem dX9_behind_215 : decode cX9_behind 215 = .ok (.invokevirtual 201, 3) := by decide +kernel
theorem dX9_behind_218 : decode cX9_behind 218 = .ok (.iload_n 3, 1) := by decide +kernel
theorem dX9_behind_219 : decode cX9_behind 219 = .ok (.ifCond .ne 8, 3) := by decide +kernel
theorem dX9_behind_222 : decode cX9_behind 222 = .ok (.iload 8, 2) := by decide +kernel
theorem dX9_behind_224 : decode cX9_behind 224 = .ok (.goto 25, 3) := by decide +kernel
theorem dX9_behind_227 : decode cX9_behind 227 = .ok (.iload_n 3, 1) := by decide +kernel
theorem dX9_behind_228 : decode cX9_behind 228 = .ok (.iconst 1, 1) := by decide +kernel
theorem dX9_behind_229 : decode cX9_behind 229 = .ok (.if_icmp .ne 8, 3) := by decide +kernel
theorem dX9_behind_232 : decode cX9_behind 232 = .ok (.iload 5, 2) := by decide +kernel
theorem dX9_behind_234 : decode cX9_behind 234 = .ok (.goto 15, 3) := by decide +kernel
theorem dX9_behind_237 : decode cX9_behind 237 = .ok (.iload_n 3, 1) := by decide +kernel
theorem dX9_behind_238 : decode cX9_behind 238 = .ok (.iconst 2, 1) := by decide +kernel
theorem dX9_behind_239 : decode cX9_behind 239 = .ok (.if_icmp .ne 8, 3) := by decide +kernel
theorem dX9_behind_242 : decode cX9_behind 242 = .ok (.iload 6, 2) := by decide +kernel
theorem dX9_behind_244 : decode cX9_behind 244 = .ok (.goto 5, 3) := by decide +kernel
theorem dX9_behind_247 : decode cX9_behind 247 = .ok (.iload 7, 2) := by decide +kernel
theorem dX9_behind_249 : decode cX9_behind 249 = .ok (.ireturn, 1) := by decide +kernel
theorem dX9_throwsOne_0 : decode cX9_throwsOne 0 = .ok (.aload_n 0, 1) := by decide +kernel
theorem dX9_throwsOne_1 : decode cX9_throwsOne 1 = .ok (.iload_n 1, 1) := by decide +kernel
theorem dX9_throwsOne_2 : decode cX9_throwsOne 2 = .ok (.iload_n 2, 1) := by decide +kernel
theorem dX9_throwsOne_3 : decode cX9_throwsOne 3 = .ok (.iload_n 3, 1) := by decide +kernel
theorem dX9_throwsOne_4 : decode cX9_throwsOne 4 = .ok (.invokevirtual 228, 3) := by decide +kernel
theorem dX9_throwsOne_7 : decode cX9_throwsOne 7 = .ok (.istore 4, 2) := by decide +kernel
theorem dX9_throwsOne_9 : decode cX9_throwsOne 9 = .ok (.iload 4, 2) := by decide +kernel
theorem dX9_throwsOne_11 : decode cX9_throwsOne 11 = .ok (.iconst (-1), 1) := by decide +kernel
theorem dX9_throwsOne_12 : decode cX9_throwsOne 12 = .ok (.if_icmp .ne 5, 3) := by decide +kernel
theorem dX9_throwsOne_15 : decode cX9_throwsOne 15 = .ok (.iconst (-1), 1) := by decide +kernel
theorem dX9_throwsOne_16 : decode cX9_throwsOne 16 = .ok (.ireturn, 1) := by decide +kernel
theorem dX9_throwsOne_17 : decode cX9_throwsOne 17 = .ok (.aload_n 0, 1) := by decide +kernel
theorem dX9_throwsOne_18 : decode cX9_throwsOne 18 = .ok (.getfield 31, 3) := by decide +kernel
theorem dX9_throwsOne_21 : decode cX9_throwsOne 21 = .ok (.iload 4, 2) := by decide +kernel
theorem dX9_throwsOne_23 : decode cX9_throwsOne 23 = .ok (.iload_n 1, 1) := by decide +kernel
theorem dX9_throwsOne_24 : decode cX9_throwsOne 24 = .ok (.iastore, 1) := by decide +kernel
theorem dX9_throwsOne_25 : decode cX9_throwsOne 25 = .ok (.aload_n 0, 1) := by decide +kernel
theorem dX9_throwsOne_26 : decode cX9_throwsOne 26 = .ok (.getfield 34, 3) := by decide +kernel
theorem dX9_throwsOne_29 : decode cX9_throwsOne 29 = .ok (.iload 4, 2) := by decide +kernel
theorem dX9_throwsOne_31 : decode cX9_throwsOne 31 = .ok (.aload_n 0, 1) := by decide +kernel
theorem dX9_throwsOne_32 : decode cX9_throwsOne 32 = .ok (.iload 4, 2) := by decide +kernel
theorem dX9_throwsOne_34 : decode cX9_throwsOne 34 = .ok (.iload_n 1, 1) := by decide +kernel
theorem dX9_throwsOne_35 : decode cX9_throwsOne 35 = .ok (.invokevirtual 231, 3) := by decide +kernel
theorem dX9_throwsOne_38 : decode cX9_throwsOne 38 = .ok (.ifCond .eq 25, 3) := by decide +kernel
theorem dX9_throwsOne_41 : decode cX9_throwsOne 41 = .ok (.aload_n 0, 1) := by decide +kernel
theorem dX9_throwsOne_42 : decode cX9_throwsOne 42 = .ok (.getfield 7, 3) := by decide +kernel
theorem dX9_throwsOne_45 : decode cX9_throwsOne 45 = .ok (.iconst 1, 1) := by decide +kernel
theorem dX9_throwsOne_46 : decode cX9_throwsOne 46 = .ok (.iaload, 1) := by decide +kernel
theorem dX9_throwsOne_47 : decode cX9_throwsOne 47 = .ok (.aload_n 0, 1) := by decide +kernel
theorem dX9_throwsOne_48 : decode cX9_throwsOne 48 = .ok (.iload 4, 2) := by decide +kernel
theorem dX9_throwsOne_50 : decode cX9_throwsOne 50 = .ok (.aload_n 0, 1) := by decide +kernel
theorem dX9_throwsOne_51 : decode cX9_throwsOne 51 = .ok (.getfield 16, 3) := by decide +kernel
theorem dX9_throwsOne_54 : decode cX9_throwsOne 54 = .ok (.iload_n 1, 1) := by decide +kernel
theorem dX9_throwsOne_55 : decode cX9_throwsOne 55 = .ok (.iaload, 1) := by decide +kernel
theorem dX9_throwsOne_56 : decode cX9_throwsOne 56 = .ok (.invokevirtual 116, 3) := by decide +kernel
theorem dX9_throwsOne_59 : decode cX9_throwsOne 59 = .ok (.iadd, 1) := by decide +kernel
theorem dX9_throwsOne_60 : decode cX9_throwsOne 60 = .ok (.goto 4, 3) := by decide +kernel
theorem dX9_throwsOne_63 : decode cX9_throwsOne 63 = .ok (.iconst (-1), 1) := by decide +kernel
theorem dX9_throwsOne_64 : decode cX9_throwsOne 64 = .ok (.iastore, 1) := by decide +kernel
theorem dX9_throwsOne_65 : decode cX9_throwsOne 65 = .ok (.iload 4, 2) := by decide +kernel
theorem dX9_throwsOne_67 : decode cX9_throwsOne 67 = .ok (.ireturn, 1) := by decide +kernel
theorem dX9_thrown_0 : decode cX9_thrown 0 = .ok (.aload_n 0, 1) := by decide +kernel
theorem dX9_thrown_1 : decode cX9_thrown 1 = .ok (.iload_n 1, 1) := by decide +kernel
theorem dX9_thrown_2 : decode cX9_thrown 2 = .ok (.iload_n 2, 1) := by decide +kernel
theorem dX9_thrown_3 : decode cX9_thrown 3 = .ok (.iload_n 3, 1) := by decide +kernel
theorem dX9_thrown_4 : decode cX9_thrown 4 = .ok (.invokevirtual 207, 3) := by decide +kernel
theorem dX9_thrown_7 : decode cX9_thrown 7 = .ok (.ifCond .eq 13, 3) := by decide +kernel
theorem dX9_thrown_10 : decode cX9_thrown 10 = .ok (.aload_n 0, 1) := by decide +kernel
theorem dX9_thrown_11 : decode cX9_thrown 11 = .ok (.iload_n 1, 1) := by decide +kernel
theorem dX9_thrown_12 : decode cX9_thrown 12 = .ok (.iload_n 2, 1) := by decide +kernel
theorem dX9_thrown_13 : decode cX9_thrown 13 = .ok (.iload_n 3, 1) := by decide +kernel
theorem dX9_thrown_14 : decode cX9_thrown 14 = .ok (.invokevirtual 305, 3) := by decide +kernel
theorem dX9_thrown_17 : decode cX9_thrown 17 = .ok (.goto 9, 3) := by decide +kernel
theorem dX9_thrown_20 : decode cX9_thrown 20 = .ok (.aload_n 0, 1) := by decide +kernel
theorem dX9_thrown_21 : decode cX9_thrown 21 = .ok (.bipush (-2), 2) := by decide +kernel
theorem dX9_thrown_23 : decode cX9_thrown 23 = .ok (.invokevirtual 95, 3) := by decide +kernel
theorem dX9_thrown_26 : decode cX9_thrown 26 = .ok (.ireturn, 1) := by decide +kernel
theorem dX9_passes_0 : decode cX9_passes 0 = .ok (.aload_n 0, 1) := by decide +kernel
theorem dX9_passes_1 : decode cX9_passes 1 = .ok (.getfield 7, 3) := by decide +kernel
theorem dX9_passes_4 : decode cX9_passes 4 = .ok (.iconst 1, 1) := by decide +kernel
theorem dX9_passes_5 : decode cX9_passes 5 = .ok (.iaload, 1) := by decide +kernel
theorem dX9_passes_6 : decode cX9_passes 6 = .ok (.sipush 999, 3) := by decide +kernel
theorem dX9_passes_9 : decode cX9_passes 9 = .ok (.if_icmp .ge 13, 3) := by decide +kernel
theorem dX9_passes_12 : decode cX9_passes 12 = .ok (.aload_n 0, 1) := by decide +kernel
theorem dX9_passes_13 : decode cX9_passes 13 = .ok (.getfield 7, 3) := by decide +kernel
theorem dX9_passes_16 : decode cX9_passes 16 = .ok (.iconst 1, 1) := by decide +kernel
theorem dX9_passes_17 : decode cX9_passes 17 = .ok (.dup2, 1) := by decide +kernel
theorem dX9_passes_18 : decode cX9_passes 18 = .ok (.iaload, 1) := by decide +kernel
theorem dX9_passes_19 : decode cX9_passes 19 = .ok (.iconst 1, 1) := by decide +kernel
theorem dX9_passes_20 : decode cX9_passes 20 = .ok (.iadd, 1) := by decide +kernel
theorem dX9_passes_21 : decode cX9_passes 21 = .ok (.iastore, 1) := by decide +kernel
theorem dX9_passes_22 : decode cX9_passes 22 = .ok (.iconst 0, 1) := by decide +kernel
theorem dX9_passes_23 : decode cX9_passes 23 = .ok (.istore_n 1, 1) := by decide +kernel
theorem dX9_passes_24 : decode cX9_passes 24 = .ok (.iload_n 1, 1) := by decide +kernel
theorem dX9_passes_25 : decode cX9_passes 25 = .ok (.aload_n 0, 1) := by decide +kernel
theorem dX9_passes_26 : decode cX9_passes 26 = .ok (.getfield 85, 3) := by decide +kernel
theorem dX9_passes_29 : decode cX9_passes 29 = .ok (.if_icmp .ge 61, 3) := by decide +kernel
theorem dX9_passes_32 : decode cX9_passes 32 = .ok (.aload_n 0, 1) := by decide +kernel
theorem dX9_passes_33 : decode cX9_passes 33 = .ok (.getfield 34, 3) := by decide +kernel
theorem dX9_passes_36 : decode cX9_passes 36 = .ok (.iload_n 1, 1) := by decide +kernel
theorem dX9_passes_37 : decode cX9_passes 37 = .ok (.iaload, 1) := by decide +kernel
theorem dX9_passes_38 : decode cX9_passes 38 = .ok (.iconst (-1), 1) := by decide +kernel
theorem dX9_passes_39 : decode cX9_passes 39 = .ok (.if_icmp .eq 45, 3) := by decide +kernel
theorem dX9_passes_42 : decode cX9_passes 42 = .ok (.aload_n 0, 1) := by decide +kernel
theorem dX9_passes_43 : decode cX9_passes 43 = .ok (.getfield 34, 3) := by decide +kernel
theorem dX9_passes_46 : decode cX9_passes 46 = .ok (.iload_n 1, 1) := by decide +kernel
theorem dX9_passes_47 : decode cX9_passes 47 = .ok (.iaload, 1) := by decide +kernel
theorem dX9_passes_48 : decode cX9_passes 48 = .ok (.aload_n 0, 1) := by decide +kernel
theorem dX9_passes_49 : decode cX9_passes 49 = .ok (.getfield 7, 3) := by decide +kernel
theorem dX9_passes_52 : decode cX9_passes 52 = .ok (.iconst 1, 1) := by decide +kernel
theorem dX9_passes_53 : decode cX9_passes 53 = .ok (.iaload, 1) := by decide +kernel
theorem dX9_passes_54 : decode cX9_passes 54 = .ok (.if_icmp .le 6, 3) := by decide +kernel
theorem dX9_passes_57 : decode cX9_passes 57 = .ok (.goto 27, 3) := by decide +kernel
theorem dX9_passes_60 : decode cX9_passes 60 = .ok (.aload_n 0, 1) := by decide +kernel
theorem dX9_passes_61 : decode cX9_passes 61 = .ok (.getfield 31, 3) := by decide +kernel
theorem dX9_passes_64 : decode cX9_passes 64 = .ok (.iload_n 1, 1) := by decide +kernel
theorem dX9_passes_65 : decode cX9_passes 65 = .ok (.iconst (-1), 1) := by decide +kernel
theorem dX9_passes_66 : decode cX9_passes 66 = .ok (.iastore, 1) := by decide +kernel
theorem dX9_passes_67 : decode cX9_passes 67 = .ok (.aload_n 0, 1) := by decide +kernel
theorem dX9_passes_68 : decode cX9_passes 68 = .ok (.getfield 34, 3) := by decide +kernel
theorem dX9_passes_71 : decode cX9_passes 71 = .ok (.iload_n 1, 1) := by decide +kernel
theorem dX9_passes_72 : decode cX9_passes 72 = .ok (.iconst (-1), 1) := by decide +kernel
theorem dX9_passes_73 : decode cX9_passes 73 = .ok (.iastore, 1) := by decide +kernel
theorem dX9_passes_74 : decode cX9_passes 74 = .ok (.aload_n 0, 1) := by decide +kernel
theorem dX9_passes_75 : decode cX9_passes 75 = .ok (.dup, 1) := by decide +kernel
theorem dX9_passes_76 : decode cX9_passes 76 = .ok (.getfield 308, 3) := by decide +kernel
theorem dX9_passes_79 : decode cX9_passes 79 = .ok (.iconst 1, 1) := by decide +kernel
theorem dX9_passes_80 : decode cX9_passes 80 = .ok (.iadd, 1) := by decide +kernel
theorem dX9_passes_81 : decode cX9_passes 81 = .ok (.putfield 308, 3) := by decide +kernel
theorem dX9_passes_84 : decode cX9_passes 84 = .ok (.iinc 1 1, 3) := by decide +kernel
theorem dX9_passes_87 : decode cX9_passes 87 = .ok (.goto (-63), 3) := by decide +kernel
theorem dX9_passes_90 : decode cX9_passes 90 = .ok (.return_, 1) := by decide +kernel
theorem dX9_days_0 : decode cX9_days 0 = .ok (.iload_n 1, 1) := by decide +kernel
theorem dX9_days_1 : decode cX9_days 1 = .ok (.iconst 1, 1) := by decide +kernel
theorem dX9_days_2 : decode cX9_days 2 = .ok (.bipush 60, 2) := by decide +kernel
theorem dX9_days_4 : decode cX9_days 4 = .ok (.invokestatic 78, 3) := by decide +kernel
theorem dX9_days_7 : decode cX9_days 7 = .ok (.ifCond .ne 10, 3) := by decide +kernel
theorem dX9_days_10 : decode cX9_days 10 = .ok (.aload_n 0, 1) := by decide +kernel
theorem dX9_days_11 : decode cX9_days 11 = .ok (.bipush (-2), 2) := by decide +kernel
theorem dX9_days_13 : decode cX9_days 13 = .ok (.invokevirtual 95, 3) := by decide +kernel
theorem dX9_days_16 : decode cX9_days 16 = .ok (.ireturn, 1) := by decide +kernel
theorem dX9_days_17 : decode cX9_days 17 = .ok (.iconst 0, 1) := by decide +kernel
theorem dX9_days_18 : decode cX9_days 18 = .ok (.istore_n 2, 1) := by decide +kernel
theorem dX9_days_19 : decode cX9_days 19 = .ok (.iload_n 2, 1) := by decide +kernel
theorem dX9_days_20 : decode cX9_days 20 = .ok (.iload_n 1, 1) := by decide +kernel
theorem dX9_days_21 : decode cX9_days 21 = .ok (.if_icmp .ge 13, 3) := by decide +kernel
theorem dX9_days_24 : decode cX9_days 24 = .ok (.aload_n 0, 1) := by decide +kernel
theorem dX9_days_25 : decode cX9_days 25 = .ok (.invokevirtual 311, 3) := by decide +kernel
theorem dX9_days_28 : decode cX9_days 28 = .ok (.iinc 2 1, 3) := by decide +kernel
theorem dX9_days_31 : decode cX9_days 31 = .ok (.goto (-12), 3) := by decide +kernel
theorem dX9_days_34 : decode cX9_days 34 = .ok (.aload_n 0, 1) := by decide +kernel
theorem dX9_days_35 : decode cX9_days 35 = .ok (.getfield 308, 3) := by decide +kernel
theorem dX9_days_38 : decode cX9_days 38 = .ok (.ireturn, 1) := by decide +kernel
theorem dX9_draw_0 : decode cX9_draw 0 = .ok (.aload_n 0, 1) := by decide +kernel
theorem dX9_draw_1 : decode cX9_draw 1 = .ok (.aload_n 0, 1) := by decide +kernel
theorem dX9_draw_2 : decode cX9_draw 2 = .ok (.getfield 75, 3) := by decide +kernel
theorem dX9_draw_5 : decode cX9_draw 5 = .ok (.ldc_w 314, 3) := by decide +kernel
theorem dX9_draw_8 : decode cX9_draw 8 = .ok (.imul, 1) := by decide +kernel
theorem dX9_draw_9 : decode cX9_draw 9 = .ok (.sipush 12345, 3) := by decide +kernel
theorem dX9_draw_12 : decode cX9_draw 12 = .ok (.iadd, 1) := by decide +kernel
theorem dX9_draw_13 : decode cX9_draw 13 = .ok (.putfield 75, 3) := by decide +kernel
theorem dX9_draw_16 : decode cX9_draw 16 = .ok (.aload_n 0, 1) := by decide +kernel
theorem dX9_draw_17 : decode cX9_draw 17 = .ok (.getfield 75, 3) := by decide +kernel
theorem dX9_draw_20 : decode cX9_draw 20 = .ok (.bipush 16, 2) := by decide +kernel
theorem dX9_draw_22 : decode cX9_draw 22 = .ok (.iushr, 1) := by decide +kernel
theorem dX9_draw_23 : decode cX9_draw 23 = .ok (.iload_n 1, 1) := by decide +kernel
theorem dX9_draw_24 : decode cX9_draw 24 = .ok (.irem, 1) := by decide +kernel
theorem dX9_draw_25 : decode cX9_draw 25 = .ok (.ireturn, 1) := by decide +kernel
theorem dX9_drawn_0 : decode cX9_drawn 0 = .ok (.iload_n 1, 1) := by decide +kernel
theorem dX9_drawn_1 : decode cX9_drawn 1 = .ok (.iconst 1, 1) := by decide +kernel
theorem dX9_drawn_2 : decode cX9_drawn 2 = .ok (.bipush 40, 2) := by decide +kernel
theorem dX9_drawn_4 : decode cX9_drawn 4 = .ok (.invokestatic 78, 3) := by decide +kernel
theorem dX9_drawn_7 : decode cX9_drawn 7 = .ok (.ifCond .ne 10, 3) := by decide +kernel
theorem dX9_drawn_10 : decode cX9_drawn 10 = .ok (.aload_n 0, 1) := by decide +kernel
theorem dX9_drawn_11 : decode cX9_drawn 11 = .ok (.bipush (-2), 2) := by decide +kernel
theorem dX9_drawn_13 : decode cX9_drawn 13 = .ok (.invokevirtual 95, 3) := by decide +kernel
theorem dX9_drawn_16 : decode cX9_drawn 16 = .ok (.ireturn, 1) := by decide +kernel
theorem dX9_drawn_17 : decode cX9_drawn 17 = .ok (.aload_n 0, 1) := by decide +kernel
theorem dX9_drawn_18 : decode cX9_drawn 18 = .ok (.getfield 82, 3) := by decide +kernel
theorem dX9_drawn_21 : decode cX9_drawn 21 = .ok (.ifCond .ne 10, 3) := by decide +kernel
theorem dX9_drawn_24 : decode cX9_drawn 24 = .ok (.aload_n 0, 1) := by decide +kernel
theorem dX9_drawn_25 : decode cX9_drawn 25 = .ok (.bipush (-5), 2) := by decide +kernel
theorem dX9_drawn_27 : decode cX9_drawn 27 = .ok (.invokevirtual 95, 3) := by decide +kernel
theorem dX9_drawn_30 : decode cX9_drawn 30 = .ok (.ireturn, 1) := by decide +kernel
theorem dX9_drawn_31 : decode cX9_drawn 31 = .ok (.iconst 0, 1) := by decide +kernel
theorem dX9_drawn_32 : decode cX9_drawn 32 = .ok (.istore_n 2, 1) := by decide +kernel
theorem dX9_drawn_33 : decode cX9_drawn 33 = .ok (.iconst 0, 1) := by decide +kernel
theorem dX9_drawn_34 : decode cX9_drawn 34 = .ok (.istore_n 3, 1) := by decide +kernel
theorem dX9_drawn_35 : decode cX9_drawn 35 = .ok (.iload_n 3, 1) := by decide +kernel
theorem dX9_drawn_36 : decode cX9_drawn 36 = .ok (.iload_n 1, 1) := by decide +kernel
theorem dX9_drawn_37 : decode cX9_drawn 37 = .ok (.if_icmp .ge 63, 3) := by decide +kernel
theorem dX9_drawn_40 : decode cX9_drawn 40 = .ok (.aload_n 0, 1) := by decide +kernel
theorem dX9_drawn_41 : decode cX9_drawn 41 = .ok (.getfield 7, 3) := by decide +kernel
theorem dX9_drawn_44 : decode cX9_drawn 44 = .ok (.iconst 0, 1) := by decide +kernel
theorem dX9_drawn_45 : decode cX9_drawn 45 = .ok (.aload_n 0, 1) := by decide +kernel
theorem dX9_drawn_46 : decode cX9_drawn 46 = .ok (.bipush 11, 2) := by decide +kernel
theorem dX9_drawn_48 : decode cX9_drawn 48 = .ok (.invokevirtual 315, 3) := by decide +kernel
theorem dX9_drawn_51 : decode cX9_drawn 51 = .ok (.iastore, 1) := by decide +kernel
theorem dX9_drawn_52 : decode cX9_drawn 52 = .ok (.aload_n 0, 1) := by decide +kernel
theorem dX9_drawn_53 : decode cX9_drawn 53 = .ok (.aload_n 0, 1) := by decide +kernel
theorem dX9_drawn_54 : decode cX9_drawn 54 = .ok (.getfield 82, 3) := by decide +kernel
theorem dX9_drawn_57 : decode cX9_drawn 57 = .ok (.invokevirtual 315, 3) := by decide +kernel
theorem dX9_drawn_60 : decode cX9_drawn 60 = .ok (.istore 4, 2) := by decide +kernel
theorem dX9_drawn_62 : decode cX9_drawn 62 = .ok (.aload_n 0, 1) := by decide +kernel
theorem dX9_drawn_63 : decode cX9_drawn 63 = .ok (.bipush 10, 2) := by decide +kernel
theorem dX9_drawn_65 : decode cX9_drawn 65 = .ok (.invokevirtual 315, 3) := by decide +kernel
theorem dX9_drawn_68 : decode cX9_drawn 68 = .ok (.istore 5, 2) := by decide +kernel
theorem dX9_drawn_70 : decode cX9_drawn 70 = .ok (.aload_n 0, 1) := by decide +kernel
theorem dX9_drawn_71 : decode cX9_drawn 71 = .ok (.iload 4, 2) := by decide +kernel
theorem dX9_drawn_73 : decode cX9_drawn 73 = .ok (.iload 5, 2) := by decide +kernel
theorem dX9_drawn_75 : decode cX9_drawn 75 = .ok (.aload_n 0, 1) := by decide +kernel
theorem dX9_drawn_76 : decode cX9_drawn 76 = .ok (.iconst 3, 1) := by decide +kernel
theorem dX9_drawn_77 : decode cX9_drawn 77 = .ok (.invokevirtual 315, 3) := by decide +kernel
theorem dX9_drawn_80 : decode cX9_drawn 80 = .ok (.invokevirtual 305, 3) := by decide +kernel
theorem dX9_drawn_83 : decode cX9_drawn 83 = .ok (.iconst (-1), 1) := by decide +kernel
theorem dX9_drawn_84 : decode cX9_drawn 84 = .ok (.if_icmp .eq 6, 3) := by decide +kernel
theorem dX9_drawn_87 : decode cX9_drawn 87 = .ok (.iinc 2 1, 3) := by decide +kernel
theorem dX9_drawn_90 : decode cX9_drawn 90 = .ok (.aload_n 0, 1) := by decide +kernel
theorem dX9_drawn_91 : decode cX9_drawn 91 = .ok (.invokevirtual 311, 3) := by decide +kernel
theorem dX9_drawn_94 : decode cX9_drawn 94 = .ok (.iinc 3 1, 3) := by decide +kernel
theorem dX9_drawn_97 : decode cX9_drawn 97 = .ok (.goto (-62), 3) := by decide +kernel
theorem dX9_drawn_100 : decode cX9_drawn 100 = .ok (.iload_n 2, 1) := by decide +kernel
theorem dX9_drawn_101 : decode cX9_drawn 101 = .ok (.ireturn, 1) := by decide +kernel
theorem dX9_seed_0 : decode cX9_seed 0 = .ok (.aload_n 0, 1) := by decide +kernel
theorem dX9_seed_1 : decode cX9_seed 1 = .ok (.getfield 75, 3) := by decide +kernel
theorem dX9_seed_4 : decode cX9_seed 4 = .ok (.istore_n 2, 1) := by decide +kernel
theorem dX9_seed_5 : decode cX9_seed 5 = .ok (.aload_n 0, 1) := by decide +kernel
theorem dX9_seed_6 : decode cX9_seed 6 = .ok (.iload_n 1, 1) := by decide +kernel
theorem dX9_seed_7 : decode cX9_seed 7 = .ok (.putfield 75, 3) := by decide +kernel
theorem dX9_seed_10 : decode cX9_seed 10 = .ok (.iload_n 2, 1) := by decide +kernel
theorem dX9_seed_11 : decode cX9_seed 11 = .ok (.ireturn, 1) := by decide +kernel
theorem dX9_keep_0 : decode cX9_keep 0 = .ok (.iconst 0, 1) := by decide +kernel
theorem dX9_keep_1 : decode cX9_keep 1 = .ok (.istore_n 2, 1) := by decide +kernel
theorem dX9_keep_2 : decode cX9_keep 2 = .ok (.iload_n 2, 1) := by decide +kernel
theorem dX9_keep_3 : decode cX9_keep 3 = .ok (.bipush 8, 2) := by decide +kernel
theorem dX9_keep_5 : decode cX9_keep 5 = .ok (.if_icmp .ge 102, 3) := by decide +kernel
theorem dX9_keep_8 : decode cX9_keep 8 = .ok (.aload_n 1, 1) := by decide +kernel
theorem dX9_keep_9 : decode cX9_keep 9 = .ok (.iload_n 2, 1) := by decide +kernel
theorem dX9_keep_10 : decode cX9_keep 10 = .ok (.aload_n 0, 1) := by decide +kernel
theorem dX9_keep_11 : decode cX9_keep 11 = .ok (.getfield 13, 3) := by decide +kernel
theorem dX9_keep_14 : decode cX9_keep 14 = .ok (.iload_n 2, 1) := by decide +kernel
theorem dX9_keep_15 : decode cX9_keep 15 = .ok (.iaload, 1) := by decide +kernel
theorem dX9_keep_16 : decode cX9_keep 16 = .ok (.iastore, 1) := by decide +kernel
theorem dX9_keep_17 : decode cX9_keep 17 = .ok (.aload_n 1, 1) := by decide +kernel
theorem dX9_keep_18 : decode cX9_keep 18 = .ok (.bipush 8, 2) := by decide +kernel
theorem dX9_keep_20 : decode cX9_keep 20 = .ok (.iload_n 2, 1) := by decide +kernel
theorem dX9_keep_21 : decode cX9_keep 21 = .ok (.iadd, 1) := by decide +kernel
theorem dX9_keep_22 : decode cX9_keep 22 = .ok (.aload_n 0, 1) := by decide +kernel
theorem dX9_keep_23 : decode cX9_keep 23 = .ok (.getfield 16, 3) := by decide +kernel
theorem dX9_keep_26 : decode cX9_keep 26 = .ok (.iload_n 2, 1) := by decide +kernel
theorem dX9_keep_27 : decode cX9_keep 27 = .ok (.iaload, 1) := by decide +kernel
theorem dX9_keep_28 : decode cX9_keep 28 = .ok (.iastore, 1) := by decide +kernel
theorem dX9_keep_29 : decode cX9_keep 29 = .ok (.aload_n 1, 1) := by decide +kernel
theorem dX9_keep_30 : decode cX9_keep 30 = .ok (.bipush 16, 2) := by decide +kernel
theorem dX9_keep_32 : decode cX9_keep 32 = .ok (.iload_n 2, 1) := by decide +kernel
theorem dX9_keep_33 : decode cX9_keep 33 = .ok (.iadd, 1) := by decide +kernel
theorem dX9_keep_34 : decode cX9_keep 34 = .ok (.aload_n 0, 1) := by decide +kernel
theorem dX9_keep_35 : decode cX9_keep 35 = .ok (.getfield 19, 3) := by decide +kernel
theorem dX9_keep_38 : decode cX9_keep 38 = .ok (.iload_n 2, 1) := by decide +kernel
theorem dX9_keep_39 : decode cX9_keep 39 = .ok (.iaload, 1) := by decide +kernel
theorem dX9_keep_40 : decode cX9_keep 40 = .ok (.iastore, 1) := by decide +kernel
theorem dX9_keep_41 : decode cX9_keep 41 = .ok (.aload_n 1, 1) := by decide +kernel
theorem dX9_keep_42 : decode cX9_keep 42 = .ok (.bipush 24, 2) := by decide +kernel
theorem dX9_keep_44 : decode cX9_keep 44 = .ok (.iload_n 2, 1) := by decide +kernel
theorem dX9_keep_45 : decode cX9_keep 45 = .ok (.iadd, 1) := by decide +kernel
theorem dX9_keep_46 : decode cX9_keep 46 = .ok (.aload_n 0, 1) := by decide +kernel
theorem dX9_keep_47 : decode cX9_keep 47 = .ok (.getfield 22, 3) := by decide +kernel
theorem dX9_keep_50 : decode cX9_keep 50 = .ok (.iload_n 2, 1) := by decide +kernel
theorem dX9_keep_51 : decode cX9_keep 51 = .ok (.iaload, 1) := by decide +kernel
theorem dX9_keep_52 : decode cX9_keep 52 = .ok (.iastore, 1) := by decide +kernel
theorem dX9_keep_53 : decode cX9_keep 53 = .ok (.aload_n 1, 1) := by decide +kernel
theorem dX9_keep_54 : decode cX9_keep 54 = .ok (.bipush 32, 2) := by decide +kernel
theorem dX9_keep_56 : decode cX9_keep 56 = .ok (.iload_n 2, 1) := by decide +kernel
theorem dX9_keep_57 : decode cX9_keep 57 = .ok (.iadd, 1) := by decide +kernel
theorem dX9_keep_58 : decode cX9_keep 58 = .ok (.aload_n 0, 1) := by decide +kernel
theorem dX9_keep_59 : decode cX9_keep 59 = .ok (.getfield 25, 3) := by decide +kernel
theorem dX9_keep_62 : decode cX9_keep 62 = .ok (.iload_n 2, 1) := by decide +kernel
theorem dX9_keep_63 : decode cX9_keep 63 = .ok (.iaload, 1) := by decide +kernel
theorem dX9_keep_64 : decode cX9_keep 64 = .ok (.iastore, 1) := by decide +kernel
theorem dX9_keep_65 : decode cX9_keep 65 = .ok (.aload_n 1, 1) := by decide +kernel
theorem dX9_keep_66 : decode cX9_keep 66 = .ok (.bipush 40, 2) := by decide +kernel
theorem dX9_keep_68 : decode cX9_keep 68 = .ok (.iload_n 2, 1) := by decide +kernel
theorem dX9_keep_69 : decode cX9_keep 69 = .ok (.iadd, 1) := by decide +kernel
theorem dX9_keep_70 : decode cX9_keep 70 = .ok (.aload_n 0, 1) := by decide +kernel
theorem dX9_keep_71 : decode cX9_keep 71 = .ok (.getfield 28, 3) := by decide +kernel
theorem dX9_keep_74 : decode cX9_keep 74 = .ok (.iload_n 2, 1) := by decide +kernel
theorem dX9_keep_75 : decode cX9_keep 75 = .ok (.iaload, 1) := by decide +kernel
theorem dX9_keep_76 : decode cX9_keep 76 = .ok (.iastore, 1) := by decide +kernel
theorem dX9_keep_77 : decode cX9_keep 77 = .ok (.aload_n 1, 1) := by decide +kernel
theorem dX9_keep_78 : decode cX9_keep 78 = .ok (.bipush 48, 2) := by decide +kernel
theorem dX9_keep_80 : decode cX9_keep 80 = .ok (.iload_n 2, 1) := by decide +kernel
theorem dX9_keep_81 : decode cX9_keep 81 = .ok (.iadd, 1) := by decide +kernel
theorem dX9_keep_82 : decode cX9_keep 82 = .ok (.aload_n 0, 1) := by decide +kernel
theorem dX9_keep_83 : decode cX9_keep 83 = .ok (.getfield 31, 3) := by decide +kernel
theorem dX9_keep_86 : decode cX9_keep 86 = .ok (.iload_n 2, 1) := by decide +kernel
theorem dX9_keep_87 : decode cX9_keep 87 = .ok (.iaload, 1) := by decide +kernel
theorem dX9_keep_88 : decode cX9_keep 88 = .ok (.iastore, 1) := by decide +kernel
theorem dX9_keep_89 : decode cX9_keep 89 = .ok (.aload_n 1, 1) := by decide +kernel
theorem dX9_keep_90 : decode cX9_keep 90 = .ok (.bipush 56, 2) := by decide +kernel
theorem dX9_keep_92 : decode cX9_keep 92 = .ok (.iload_n 2, 1) := by decide +kernel
theorem dX9_keep_93 : decode cX9_keep 93 = .ok (.iadd, 1) := by decide +kernel
theorem dX9_keep_94 : decode cX9_keep 94 = .ok (.aload_n 0, 1) := by decide +kernel
theorem dX9_keep_95 : decode cX9_keep 95 = .ok (.getfield 34, 3) := by decide +kernel
theorem dX9_keep_98 : decode cX9_keep 98 = .ok (.iload_n 2, 1) := by decide +kernel
theorem dX9_keep_99 : decode cX9_keep 99 = .ok (.iaload, 1) := by decide +kernel
theorem dX9_keep_100 : decode cX9_keep 100 = .ok (.iastore, 1) := by decide +kernel
theorem dX9_keep_101 : decode cX9_keep 101 = .ok (.iinc 2 1, 3) := by decide +kernel
theorem dX9_keep_104 : decode cX9_keep 104 = .ok (.goto (-102), 3) := by decide +kernel
theorem dX9_keep_107 : decode cX9_keep 107 = .ok (.iconst 0, 1) := by decide +kernel
theorem dX9_keep_108 : decode cX9_keep 108 = .ok (.istore_n 2, 1) := by decide +kernel
theorem dX9_keep_109 : decode cX9_keep 109 = .ok (.iload_n 2, 1) := by decide +kernel
theorem dX9_keep_110 : decode cX9_keep 110 = .ok (.iconst 3, 1) := by decide +kernel
theorem dX9_keep_111 : decode cX9_keep 111 = .ok (.if_icmp .ge 21, 3) := by decide +kernel
theorem dX9_keep_114 : decode cX9_keep 114 = .ok (.aload_n 1, 1) := by decide +kernel
theorem dX9_keep_115 : decode cX9_keep 115 = .ok (.bipush 64, 2) := by decide +kernel
theorem dX9_keep_117 : decode cX9_keep 117 = .ok (.iload_n 2, 1) := by decide +kernel
theorem dX9_keep_118 : decode cX9_keep 118 = .ok (.iadd, 1) := by decide +kernel
theorem dX9_keep_119 : decode cX9_keep 119 = .ok (.aload_n 0, 1) := by decide +kernel
theorem dX9_keep_120 : decode cX9_keep 120 = .ok (.getfield 7, 3) := by decide +kernel
theorem dX9_keep_123 : decode cX9_keep 123 = .ok (.iload_n 2, 1) := by decide +kernel
theorem dX9_keep_124 : decode cX9_keep 124 = .ok (.iaload, 1) := by decide +kernel
theorem dX9_keep_125 : decode cX9_keep 125 = .ok (.iastore, 1) := by decide +kernel
theorem dX9_keep_126 : decode cX9_keep 126 = .ok (.iinc 2 1, 3) := by decide +kernel
theorem dX9_keep_129 : decode cX9_keep 129 = .ok (.goto (-20), 3) := by decide +kernel
theorem dX9_keep_132 : decode cX9_keep 132 = .ok (.aload_n 1, 1) := by decide +kernel
theorem dX9_keep_133 : decode cX9_keep 133 = .ok (.bipush 67, 2) := by decide +kernel
theorem dX9_keep_135 : decode cX9_keep 135 = .ok (.aload_n 0, 1) := by decide +kernel
theorem dX9_keep_136 : decode cX9_keep 136 = .ok (.getfield 71, 3) := by decide +kernel
theorem dX9_keep_139 : decode cX9_keep 139 = .ok (.iastore, 1) := by decide +kernel
theorem dX9_keep_140 : decode cX9_keep 140 = .ok (.aload_n 1, 1) := by decide +kernel
theorem dX9_keep_141 : decode cX9_keep 141 = .ok (.bipush 68, 2) := by decide +kernel
theorem dX9_keep_143 : decode cX9_keep 143 = .ok (.aload_n 0, 1) := by decide +kernel
theorem dX9_keep_144 : decode cX9_keep 144 = .ok (.getfield 308, 3) := by decide +kernel
theorem dX9_keep_147 : decode cX9_keep 147 = .ok (.iastore, 1) := by decide +kernel
theorem dX9_keep_148 : decode cX9_keep 148 = .ok (.aload_n 1, 1) := by decide +kernel
theorem dX9_keep_149 : decode cX9_keep 149 = .ok (.bipush 69, 2) := by decide +kernel
theorem dX9_keep_151 : decode cX9_keep 151 = .ok (.aload_n 0, 1) := by decide +kernel
theorem dX9_keep_152 : decode cX9_keep 152 = .ok (.getfield 82, 3) := by decide +kernel
theorem dX9_keep_155 : decode cX9_keep 155 = .ok (.iastore, 1) := by decide +kernel
theorem dX9_keep_156 : decode cX9_keep 156 = .ok (.aload_n 1, 1) := by decide +kernel
theorem dX9_keep_157 : decode cX9_keep 157 = .ok (.bipush 70, 2) := by decide +kernel
theorem dX9_keep_159 : decode cX9_keep 159 = .ok (.aload_n 0, 1) := by decide +kernel
theorem dX9_keep_160 : decode cX9_keep 160 = .ok (.getfield 85, 3) := by decide +kernel
theorem dX9_keep_163 : decode cX9_keep 163 = .ok (.iastore, 1) := by decide +kernel
theorem dX9_keep_164 : decode cX9_keep 164 = .ok (.aload_n 1, 1) := by decide +kernel
theorem dX9_keep_165 : decode cX9_keep 165 = .ok (.bipush 71, 2) := by decide +kernel
theorem dX9_keep_167 : decode cX9_keep 167 = .ok (.aload_n 0, 1) := by decide +kernel
theorem dX9_keep_168 : decode cX9_keep 168 = .ok (.getfield 75, 3) := by decide +kernel
theorem dX9_keep_171 : decode cX9_keep 171 = .ok (.iastore, 1) := by decide +kernel
theorem dX9_keep_172 : decode cX9_keep 172 = .ok (.return_, 1) := by decide +kernel
theorem dX9_again_0 : decode cX9_again 0 = .ok (.iconst 0, 1) := by decide +kernel
theorem dX9_again_1 : decode cX9_again 1 = .ok (.istore_n 2, 1) := by decide +kernel
theorem dX9_again_2 : decode cX9_again 2 = .ok (.iload_n 2, 1) := by decide +kernel
theorem dX9_again_3 : decode cX9_again 3 = .ok (.bipush 8, 2) := by decide +kernel
theorem dX9_again_5 : decode cX9_again 5 = .ok (.if_icmp .ge 102, 3) := by decide +kernel
theorem dX9_again_8 : decode cX9_again 8 = .ok (.aload_n 0, 1) := by decide +kernel
theorem dX9_again_9 : decode cX9_again 9 = .ok (.getfield 13, 3) := by decide +kernel
theorem dX9_again_12 : decode cX9_again 12 = .ok (.iload_n 2, 1) := by decide +kernel
theorem dX9_again_13 : decode cX9_again 13 = .ok (.aload_n 1, 1) := by decide +kernel
theorem dX9_again_14 : decode cX9_again 14 = .ok (.iload_n 2, 1) := by decide +kernel
theorem dX9_again_15 : decode cX9_again 15 = .ok (.iaload, 1) := by decide +kernel
theorem dX9_again_16 : decode cX9_again 16 = .ok (.iastore, 1) := by decide +kernel
theorem dX9_again_17 : decode cX9_again 17 = .ok (.aload_n 0, 1) := by decide +kernel
theorem dX9_again_18 : decode cX9_again 18 = .ok (.getfield 16, 3) := by decide +kernel
theorem dX9_again_21 : decode cX9_again 21 = .ok (.iload_n 2, 1) := by decide +kernel
theorem dX9_again_22 : decode cX9_again 22 = .ok (.aload_n 1, 1) := by decide +kernel
theorem dX9_again_23 : decode cX9_again 23 = .ok (.bipush 8, 2) := by decide +kernel
theorem dX9_again_25 : decode cX9_again 25 = .ok (.iload_n 2, 1) := by decide +kernel
theorem dX9_again_26 : decode cX9_again 26 = .ok (.iadd, 1) := by decide +kernel
theorem dX9_again_27 : decode cX9_again 27 = .ok (.iaload, 1) := by decide +kernel
theorem dX9_again_28 : decode cX9_again 28 = .ok (.iastore, 1) := by decide +kernel
theorem dX9_again_29 : decode cX9_again 29 = .ok (.aload_n 0, 1) := by decide +kernel
theorem dX9_again_30 : decode cX9_again 30 = .ok (.getfield 19, 3) := by decide +kernel
theorem dX9_again_33 : decode cX9_again 33 = .ok (.iload_n 2, 1) := by decide +kernel
theorem dX9_again_34 : decode cX9_again 34 = .ok (.aload_n 1, 1) := by decide +kernel
theorem dX9_again_35 : decode cX9_again 35 = .ok (.bipush 16, 2) := by decide +kernel
theorem dX9_again_37 : decode cX9_again 37 = .ok (.iload_n 2, 1) := by decide +kernel
theorem dX9_again_38 : decode cX9_again 38 = .ok (.iadd, 1) := by decide +kernel
theorem dX9_again_39 : decode cX9_again 39 = .ok (.iaload, 1) := by decide +kernel
theorem dX9_again_40 : decode cX9_again 40 = .ok (.iastore, 1) := by decide +kernel
theorem dX9_again_41 : decode cX9_again 41 = .ok (.aload_n 0, 1) := by decide +kernel
theorem dX9_again_42 : decode cX9_again 42 = .ok (.getfield 22, 3) := by decide +kernel
theorem dX9_again_45 : decode cX9_again 45 = .ok (.iload_n 2, 1) := by decide +kernel
theorem dX9_again_46 : decode cX9_again 46 = .ok (.aload_n 1, 1) := by decide +kernel
theorem dX9_again_47 : decode cX9_again 47 = .ok (.bipush 24, 2) := by decide +kernel
theorem dX9_again_49 : decode cX9_again 49 = .ok (.iload_n 2, 1) := by decide +kernel
theorem dX9_again_50 : decode cX9_again 50 = .ok (.iadd, 1) := by decide +kernel
theorem dX9_again_51 : decode cX9_again 51 = .ok (.iaload, 1) := by decide +kernel
theorem dX9_again_52 : decode cX9_again 52 = .ok (.iastore, 1) := by decide +kernel
theorem dX9_again_53 : decode cX9_again 53 = .ok (.aload_n 0, 1) := by decide +kernel
theorem dX9_again_54 : decode cX9_again 54 = .ok (.getfield 25, 3) := by decide +kernel
theorem dX9_again_57 : decode cX9_again 57 = .ok (.iload_n 2, 1) := by decide +kernel
theorem dX9_again_58 : decode cX9_again 58 = .ok (.aload_n 1, 1) := by decide +kernel
theorem dX9_again_59 : decode cX9_again 59 = .ok (.bipush 32, 2) := by decide +kernel
theorem dX9_again_61 : decode cX9_again 61 = .ok (.iload_n 2, 1) := by decide +kernel
theorem dX9_again_62 : decode cX9_again 62 = .ok (.iadd, 1) := by decide +kernel
theorem dX9_again_63 : decode cX9_again 63 = .ok (.iaload, 1) := by decide +kernel
theorem dX9_again_64 : decode cX9_again 64 = .ok (.iastore, 1) := by decide +kernel
theorem dX9_again_65 : decode cX9_again 65 = .ok (.aload_n 0, 1) := by decide +kernel
theorem dX9_again_66 : decode cX9_again 66 = .ok (.getfield 28, 3) := by decide +kernel
theorem dX9_again_69 : decode cX9_again 69 = .ok (.iload_n 2, 1) := by decide +kernel
theorem dX9_again_70 : decode cX9_again 70 = .ok (.aload_n 1, 1) := by decide +kernel
theorem dX9_again_71 : decode cX9_again 71 = .ok (.bipush 40, 2) := by decide +kernel
theorem dX9_again_73 : decode cX9_again 73 = .ok (.iload_n 2, 1) := by decide +kernel
theorem dX9_again_74 : decode cX9_again 74 = .ok (.iadd, 1) := by decide +kernel
theorem dX9_again_75 : decode cX9_again 75 = .ok (.iaload, 1) := by decide +kernel
theorem dX9_again_76 : decode cX9_again 76 = .ok (.iastore, 1) := by decide +kernel
theorem dX9_again_77 : decode cX9_again 77 = .ok (.aload_n 0, 1) := by decide +kernel
theorem dX9_again_78 : decode cX9_again 78 = .ok (.getfield 31, 3) := by decide +kernel
theorem dX9_again_81 : decode cX9_again 81 = .ok (.iload_n 2, 1) := by decide +kernel
theorem dX9_again_82 : decode cX9_again 82 = .ok (.aload_n 1, 1) := by decide +kernel
theorem dX9_again_83 : decode cX9_again 83 = .ok (.bipush 48, 2) := by decide +kernel
theorem dX9_again_85 : decode cX9_again 85 = .ok (.iload_n 2, 1) := by decide +kernel
theorem dX9_again_86 : decode cX9_again 86 = .ok (.iadd, 1) := by decide +kernel
theorem dX9_again_87 : decode cX9_again 87 = .ok (.iaload, 1) := by decide +kernel
theorem dX9_again_88 : decode cX9_again 88 = .ok (.iastore, 1) := by decide +kernel
theorem dX9_again_89 : decode cX9_again 89 = .ok (.aload_n 0, 1) := by decide +kernel
theorem dX9_again_90 : decode cX9_again 90 = .ok (.getfield 34, 3) := by decide +kernel
theorem dX9_again_93 : decode cX9_again 93 = .ok (.iload_n 2, 1) := by decide +kernel
theorem dX9_again_94 : decode cX9_again 94 = .ok (.aload_n 1, 1) := by decide +kernel
theorem dX9_again_95 : decode cX9_again 95 = .ok (.bipush 56, 2) := by decide +kernel
theorem dX9_again_97 : decode cX9_again 97 = .ok (.iload_n 2, 1) := by decide +kernel
theorem dX9_again_98 : decode cX9_again 98 = .ok (.iadd, 1) := by decide +kernel
theorem dX9_again_99 : decode cX9_again 99 = .ok (.iaload, 1) := by decide +kernel
theorem dX9_again_100 : decode cX9_again 100 = .ok (.iastore, 1) := by decide +kernel
theorem dX9_again_101 : decode cX9_again 101 = .ok (.iinc 2 1, 3) := by decide +kernel
theorem dX9_again_104 : decode cX9_again 104 = .ok (.goto (-102), 3) := by decide +kernel
theorem dX9_again_107 : decode cX9_again 107 = .ok (.iconst 0, 1) := by decide +kernel
theorem dX9_again_108 : decode cX9_again 108 = .ok (.istore_n 2, 1) := by decide +kernel
theorem dX9_again_109 : decode cX9_again 109 = .ok (.iload_n 2, 1) := by decide +kernel
theorem dX9_again_110 : decode cX9_again 110 = .ok (.iconst 3, 1) := by decide +kernel
theorem dX9_again_111 : decode cX9_again 111 = .ok (.if_icmp .ge 21, 3) := by decide +kernel
theorem dX9_again_114 : decode cX9_again 114 = .ok (.aload_n 0, 1) := by decide +kernel
theorem dX9_again_115 : decode cX9_again 115 = .ok (.getfield 7, 3) := by decide +kernel
theorem dX9_again_118 : decode cX9_again 118 = .ok (.iload_n 2, 1) := by decide +kernel
theorem dX9_again_119 : decode cX9_again 119 = .ok (.aload_n 1, 1) := by decide +kernel
theorem dX9_again_120 : decode cX9_again 120 = .ok (.bipush 64, 2) := by decide +kernel
theorem dX9_again_122 : decode cX9_again 122 = .ok (.iload_n 2, 1) := by decide +kernel
theorem dX9_again_123 : decode cX9_again 123 = .ok (.iadd, 1) := by decide +kernel
theorem dX9_again_124 : decode cX9_again 124 = .ok (.iaload, 1) := by decide +kernel
theorem dX9_again_125 : decode cX9_again 125 = .ok (.iastore, 1) := by decide +kernel
theorem dX9_again_126 : decode cX9_again 126 = .ok (.iinc 2 1, 3) := by decide +kernel
theorem dX9_again_129 : decode cX9_again 129 = .ok (.goto (-20), 3) := by decide +kernel
theorem dX9_again_132 : decode cX9_again 132 = .ok (.aload_n 0, 1) := by decide +kernel
theorem dX9_again_133 : decode cX9_again 133 = .ok (.aload_n 1, 1) := by decide +kernel
theorem dX9_again_134 : decode cX9_again 134 = .ok (.bipush 67, 2) := by decide +kernel
theorem dX9_again_136 : decode cX9_again 136 = .ok (.iaload, 1) := by decide +kernel
theorem dX9_again_137 : decode cX9_again 137 = .ok (.putfield 71, 3) := by decide +kernel
theorem dX9_again_140 : decode cX9_again 140 = .ok (.aload_n 0, 1) := by decide +kernel
theorem dX9_again_141 : decode cX9_again 141 = .ok (.aload_n 1, 1) := by decide +kernel
theorem dX9_again_142 : decode cX9_again 142 = .ok (.bipush 68, 2) := by decide +kernel
theorem dX9_again_144 : decode cX9_again 144 = .ok (.iaload, 1) := by decide +kernel
theorem dX9_again_145 : decode cX9_again 145 = .ok (.putfield 308, 3) := by decide +kernel
theorem dX9_again_148 : decode cX9_again 148 = .ok (.aload_n 0, 1) := by decide +kernel
theorem dX9_again_149 : decode cX9_again 149 = .ok (.aload_n 1, 1) := by decide +kernel
theorem dX9_again_150 : decode cX9_again 150 = .ok (.bipush 69, 2) := by decide +kernel
theorem dX9_again_152 : decode cX9_again 152 = .ok (.iaload, 1) := by decide +kernel
theorem dX9_again_153 : decode cX9_again 153 = .ok (.putfield 82, 3) := by decide +kernel
theorem dX9_again_156 : decode cX9_again 156 = .ok (.aload_n 0, 1) := by decide +kernel
theorem dX9_again_157 : decode cX9_again 157 = .ok (.aload_n 1, 1) := by decide +kernel
theorem dX9_again_158 : decode cX9_again 158 = .ok (.bipush 70, 2) := by decide +kernel
theorem dX9_again_160 : decode cX9_again 160 = .ok (.iaload, 1) := by decide +kernel
theorem dX9_again_161 : decode cX9_again 161 = .ok (.putfield 85, 3) := by decide +kernel
theorem dX9_again_164 : decode cX9_again 164 = .ok (.aload_n 0, 1) := by decide +kernel
theorem dX9_again_165 : decode cX9_again 165 = .ok (.aload_n 1, 1) := by decide +kernel
theorem dX9_again_166 : decode cX9_again 166 = .ok (.bipush 71, 2) := by decide +kernel
theorem dX9_again_168 : decode cX9_again 168 = .ok (.iaload, 1) := by decide +kernel
theorem dX9_again_169 : decode cX9_again 169 = .ok (.putfield 75, 3) := by decide +kernel
theorem dX9_again_172 : decode cX9_again 172 = .ok (.return_, 1) := by decide +kernel
theorem dX9_image_0 : decode cX9_image 0 = .ok (.aload_n 0, 1) := by decide +kernel
theorem dX9_image_1 : decode cX9_image 1 = .ok (.iconst 1, 1) := by decide +kernel
theorem dX9_image_2 : decode cX9_image 2 = .ok (.putfield 318, 3) := by decide +kernel
theorem dX9_image_5 : decode cX9_image 5 = .ok (.aload_n 0, 1) := by decide +kernel
theorem dX9_image_6 : decode cX9_image 6 = .ok (.aload_n 0, 1) := by decide +kernel
theorem dX9_image_7 : decode cX9_image 7 = .ok (.getfield 53, 3) := by decide +kernel
theorem dX9_image_10 : decode cX9_image 10 = .ok (.invokevirtual 194, 3) := by decide +kernel
theorem dX9_image_13 : decode cX9_image 13 = .ok (.iconst 1, 1) := by decide +kernel
theorem dX9_image_14 : decode cX9_image 14 = .ok (.ireturn, 1) := by decide +kernel
theorem dX9_back_0 : decode cX9_back 0 = .ok (.aload_n 0, 1) := by decide +kernel
theorem dX9_back_1 : decode cX9_back 1 = .ok (.getfield 318, 3) := by decide +kernel
theorem dX9_back_4 : decode cX9_back 4 = .ok (.ifCond .ne 10, 3) := by decide +kernel
theorem dX9_back_7 : decode cX9_back 7 = .ok (.aload_n 0, 1) := by decide +kernel
theorem dX9_back_8 : decode cX9_back 8 = .ok (.bipush (-5), 2) := by decide +kernel
theorem dX9_back_10 : decode cX9_back 10 = .ok (.invokevirtual 95, 3) := by decide +kernel
theorem dX9_back_13 : decode cX9_back 13 = .ok (.ireturn, 1) := by decide +kernel
theorem dX9_back_14 : decode cX9_back 14 = .ok (.aload_n 0, 1) := by decide +kernel
theorem dX9_back_15 : decode cX9_back 15 = .ok (.aload_n 0, 1) := by decide +kernel
theorem dX9_back_16 : decode cX9_back 16 = .ok (.getfield 53, 3) := by decide +kernel
theorem dX9_back_19 : decode cX9_back 19 = .ok (.invokevirtual 201, 3) := by decide +kernel
theorem dX9_back_22 : decode cX9_back 22 = .ok (.iconst 0, 1) := by decide +kernel
theorem dX9_back_23 : decode cX9_back 23 = .ok (.istore_n 1, 1) := by decide +kernel
theorem dX9_back_24 : decode cX9_back 24 = .ok (.iload_n 1, 1) := by decide +kernel
theorem dX9_back_25 : decode cX9_back 25 = .ok (.bipush 8, 2) := by decide +kernel
theorem dX9_back_27 : decode cX9_back 27 = .ok (.if_icmp .ge 32, 3) := by decide +kernel
theorem dX9_back_30 : decode cX9_back 30 = .ok (.aload_n 0, 1) := by decide +kernel
theorem dX9_back_31 : decode cX9_back 31 = .ok (.getfield 40, 3) := by decide +kernel
theorem dX9_back_34 : decode cX9_back 34 = .ok (.iload_n 1, 1) := by decide +kernel
theorem dX9_back_35 : decode cX9_back 35 = .ok (.iaload, 1) := by decide +kernel
theorem dX9_back_36 : decode cX9_back 36 = .ok (.bipush 10, 2) := by decide +kernel
theorem dX9_back_38 : decode cX9_back 38 = .ok (.aload_n 0, 1) := by decide +kernel
theorem dX9_back_39 : decode cX9_back 39 = .ok (.getfield 85, 3) := by decide +kernel
theorem dX9_back_42 : decode cX9_back 42 = .ok (.iadd, 1) := by decide +kernel
theorem dX9_back_43 : decode cX9_back 43 = .ok (.if_icmp .lt 10, 3) := by decide +kernel
theorem dX9_back_46 : decode cX9_back 46 = .ok (.aload_n 0, 1) := by decide +kernel
theorem dX9_back_47 : decode cX9_back 47 = .ok (.getfield 40, 3) := by decide +kernel
theorem dX9_back_50 : decode cX9_back 50 = .ok (.iload_n 1, 1) := by decide +kernel
theorem dX9_back_51 : decode cX9_back 51 = .ok (.iconst (-1), 1) := by decide +kernel
theorem dX9_back_52 : decode cX9_back 52 = .ok (.iastore, 1) := by decide +kernel
theorem dX9_back_53 : decode cX9_back 53 = .ok (.iinc 1 1, 3) := by decide +kernel
theorem dX9_back_56 : decode cX9_back 56 = .ok (.goto (-32), 3) := by decide +kernel
theorem dX9_back_59 : decode cX9_back 59 = .ok (.iconst 1, 1) := by decide +kernel
theorem dX9_back_60 : decode cX9_back 60 = .ok (.ireturn, 1) := by decide +kernel
theorem dX9_status_0 : decode cX9_status 0 = .ok (.iconst 0, 1) := by decide +kernel
theorem dX9_status_1 : decode cX9_status 1 = .ok (.istore_n 2, 1) := by decide +kernel
theorem dX9_status_2 : decode cX9_status 2 = .ok (.iload_n 1, 1) := by decide +kernel
theorem dX9_status_3 : decode cX9_status 3 = .ok (.tableswitch 156 0 10 #[57, 62, 67, 72, 72, 72, 81, 86, 117, 122, 127], 57) := by decide +kernel
theorem dX9_status_60 : decode cX9_status 60 = .ok (.aload_n 0, 1) := by decide +kernel
theorem dX9_status_61 : decode cX9_status 61 = .ok (.getfield 85, 3) := by decide +kernel
theorem dX9_status_64 : decode cX9_status 64 = .ok (.ireturn, 1) := by decide +kernel
theorem dX9_status_65 : decode cX9_status 65 = .ok (.aload_n 0, 1) := by decide +kernel
theorem dX9_status_66 : decode cX9_status 66 = .ok (.getfield 82, 3) := by decide +kernel
theorem dX9_status_69 : decode cX9_status 69 = .ok (.ireturn, 1) := by decide +kernel
theorem dX9_status_70 : decode cX9_status 70 = .ok (.aload_n 0, 1) := by decide +kernel
theorem dX9_status_71 : decode cX9_status 71 = .ok (.getfield 71, 3) := by decide +kernel
theorem dX9_status_74 : decode cX9_status 74 = .ok (.ireturn, 1) := by decide +kernel
theorem dX9_status_75 : decode cX9_status 75 = .ok (.aload_n 0, 1) := by decide +kernel
theorem dX9_status_76 : decode cX9_status 76 = .ok (.getfield 7, 3) := by decide +kernel
theorem dX9_status_79 : decode cX9_status 79 = .ok (.iload_n 1, 1) := by decide +kernel
theorem dX9_status_80 : decode cX9_status 80 = .ok (.iconst 3, 1) := by decide +kernel
theorem dX9_status_81 : decode cX9_status 81 = .ok (.isub, 1) := by decide +kernel
theorem dX9_status_82 : decode cX9_status 82 = .ok (.iaload, 1) := by decide +kernel
theorem dX9_status_83 : decode cX9_status 83 = .ok (.ireturn, 1) := by decide +kernel
theorem dX9_status_84 : decode cX9_status 84 = .ok (.aload_n 0, 1) := by decide +kernel
theorem dX9_status_85 : decode cX9_status 85 = .ok (.getfield 308, 3) := by decide +kernel
theorem dX9_status_88 : decode cX9_status 88 = .ok (.ireturn, 1) := by decide +kernel
theorem dX9_status_89 : decode cX9_status 89 = .ok (.iconst 0, 1) := by decide +kernel
theorem dX9_status_90 : decode cX9_status 90 = .ok (.istore_n 3, 1) := by decide +kernel
theorem dX9_status_91 : decode cX9_status 91 = .ok (.iload_n 3, 1) := by decide +kernel
theorem dX9_status_92 : decode cX9_status 92 = .ok (.aload_n 0, 1) := by decide +kernel
theorem dX9_status_93 : decode cX9_status 93 = .ok (.getfield 85, 3) := by decide +kernel
theorem dX9_status_96 : decode cX9_status 96 = .ok (.if_icmp .ge 22, 3) := by decide +kernel
theorem dX9_status_99 : decode cX9_status 99 = .ok (.aload_n 0, 1) := by decide +kernel
theorem dX9_status_100 : decode cX9_status 100 = .ok (.getfield 31, 3) := by decide +kernel
theorem dX9_status_103 : decode cX9_status 103 = .ok (.iload_n 3, 1) := by decide +kernel
theorem dX9_status_104 : decode cX9_status 104 = .ok (.iaload, 1) := by decide +kernel
theorem dX9_status_105 : decode cX9_status 105 = .ok (.iconst (-1), 1) := by decide +kernel
theorem dX9_status_106 : decode cX9_status 106 = .ok (.if_icmp .eq 6, 3) := by decide +kernel
theorem dX9_status_109 : decode cX9_status 109 = .ok (.iinc 2 1, 3) := by decide +kernel
theorem dX9_status_112 : decode cX9_status 112 = .ok (.iinc 3 1, 3) := by decide +kernel
theorem dX9_status_115 : decode cX9_status 115 = .ok (.goto (-24), 3) := by decide +kernel
theorem dX9_status_118 : decode cX9_status 118 = .ok (.iload_n 2, 1) := by decide +kernel
theorem dX9_status_119 : decode cX9_status 119 = .ok (.ireturn, 1) := by decide +kernel
theorem dX9_status_120 : decode cX9_status 120 = .ok (.aload_n 0, 1) := by decide +kernel
theorem dX9_status_121 : decode cX9_status 121 = .ok (.getfield 130, 3) := by decide +kernel
theorem dX9_status_124 : decode cX9_status 124 = .ok (.ireturn, 1) := by decide +kernel
theorem dX9_status_125 : decode cX9_status 125 = .ok (.aload_n 0, 1) := by decide +kernel
theorem dX9_status_126 : decode cX9_status 126 = .ok (.getfield 75, 3) := by decide +kernel
theorem dX9_status_129 : decode cX9_status 129 = .ok (.ireturn, 1) := by decide +kernel
theorem dX9_status_130 : decode cX9_status 130 = .ok (.iconst 0, 1) := by decide +kernel
theorem dX9_status_131 : decode cX9_status 131 = .ok (.istore_n 3, 1) := by decide +kernel
theorem dX9_status_132 : decode cX9_status 132 = .ok (.iload_n 3, 1) := by decide +kernel
theorem dX9_status_133 : decode cX9_status 133 = .ok (.bipush 8, 2) := by decide +kernel
theorem dX9_status_135 : decode cX9_status 135 = .ok (.if_icmp .ge 22, 3) := by decide +kernel
theorem dX9_status_138 : decode cX9_status 138 = .ok (.aload_n 0, 1) := by decide +kernel
theorem dX9_status_139 : decode cX9_status 139 = .ok (.getfield 40, 3) := by decide +kernel
theorem dX9_status_142 : decode cX9_status 142 = .ok (.iload_n 3, 1) := by decide +kernel
theorem dX9_status_143 : decode cX9_status 143 = .ok (.iaload, 1) := by decide +kernel
theorem dX9_status_144 : decode cX9_status 144 = .ok (.iconst (-1), 1) := by decide +kernel
theorem dX9_status_145 : decode cX9_status 145 = .ok (.if_icmp .eq 6, 3) := by decide +kernel
theorem dX9_status_148 : decode cX9_status 148 = .ok (.iinc 2 1, 3) := by decide +kernel
theorem dX9_status_151 : decode cX9_status 151 = .ok (.iinc 3 1, 3) := by decide +kernel
theorem dX9_status_154 : decode cX9_status 154 = .ok (.goto (-22), 3) := by decide +kernel
theorem dX9_status_157 : decode cX9_status 157 = .ok (.iload_n 2, 1) := by decide +kernel
theorem dX9_status_158 : decode cX9_status 158 = .ok (.ireturn, 1) := by decide +kernel
theorem dX9_status_159 : decode cX9_status 159 = .ok (.iload_n 1, 1) := by decide +kernel
theorem dX9_status_160 : decode cX9_status 160 = .ok (.bipush 12, 2) := by decide +kernel
theorem dX9_status_162 : decode cX9_status 162 = .ok (.bipush 16, 2) := by decide +kernel
theorem dX9_status_164 : decode cX9_status 164 = .ok (.invokestatic 78, 3) := by decide +kernel
theorem dX9_status_167 : decode cX9_status 167 = .ok (.ifCond .eq 15, 3) := by decide +kernel
theorem dX9_status_170 : decode cX9_status 170 = .ok (.aload_n 0, 1) := by decide +kernel
theorem dX9_status_171 : decode cX9_status 171 = .ok (.getfield 50, 3) := by decide +kernel
theorem dX9_status_174 : decode cX9_status 174 = .ok (.iload_n 1, 1) := by decide +kernel
theorem dX9_status_175 : decode cX9_status 175 = .ok (.bipush 10, 2) := by decide +kernel
theorem dX9_status_177 : decode cX9_status 177 = .ok (.isub, 1) := by decide +kernel
theorem dX9_status_178 : decode cX9_status 178 = .ok (.iaload, 1) := by decide +kernel
theorem dX9_status_179 : decode cX9_status 179 = .ok (.goto 4, 3) := by decide +kernel
theorem dX9_status_182 : decode cX9_status 182 = .ok (.iconst (-1), 1) := by decide +kernel
theorem dX9_status_183 : decode cX9_status 183 = .ok (.ireturn, 1) := by decide +kernel
