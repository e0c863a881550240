theorem dX5_workOf_112 : decode cX5_workOf 112 = .ok (.iconst 1, 1) := by decide +kernel
theorem dX5_workOf_113 : decode cX5_workOf 113 = .ok (.if_icmp .ne 8, 3) := by decide +kernel
theorem dX5_workOf_116 : decode cX5_workOf 116 = .ok (.bipush (-6), 2) := by decide +kernel
theorem dX5_workOf_118 : decode cX5_workOf 118 = .ok (.goto 4, 3) := by decide +kernel
theorem dX5_workOf_121 : decode cX5_workOf 121 = .ok (.iconst 0, 1) := by decide +kernel
theorem dX5_workOf_122 : decode cX5_workOf 122 = .ok (.ireturn, 1) := by decide +kernel
theorem dX5_workOf_123 : decode cX5_workOf 123 = .ok (.iload_n 1, 1) := by decide +kernel
theorem dX5_workOf_124 : decode cX5_workOf 124 = .ok (.iconst 2, 1) := by decide +kernel
theorem dX5_workOf_125 : decode cX5_workOf 125 = .ok (.if_icmp .ne 8, 3) := by decide +kernel
theorem dX5_workOf_128 : decode cX5_workOf 128 = .ok (.bipush (-7), 2) := by decide +kernel
theorem dX5_workOf_130 : decode cX5_workOf 130 = .ok (.goto 4, 3) := by decide +kernel
theorem dX5_workOf_133 : decode cX5_workOf 133 = .ok (.iconst 0, 1) := by decide +kernel
theorem dX5_workOf_134 : decode cX5_workOf 134 = .ok (.ireturn, 1) := by decide +kernel
theorem dX5_workOf_135 : decode cX5_workOf 135 = .ok (.iload_n 1, 1) := by decide +kernel
theorem dX5_workOf_136 : decode cX5_workOf 136 = .ok (.iconst 2, 1) := by decide +kernel
theorem dX5_workOf_137 : decode cX5_workOf 137 = .ok (.if_icmp .ne 8, 3) := by decide +kernel
theorem dX5_workOf_140 : decode cX5_workOf 140 = .ok (.bipush (-8), 2) := by decide +kernel
theorem dX5_workOf_142 : decode cX5_workOf 142 = .ok (.goto 4, 3) := by decide +kernel
theorem dX5_workOf_145 : decode cX5_workOf 145 = .ok (.iconst 0, 1) := by decide +kernel
theorem dX5_workOf_146 : decode cX5_workOf 146 = .ok (.ireturn, 1) := by decide +kernel
theorem dX5_workOf_147 : decode cX5_workOf 147 = .ok (.iload_n 1, 1) := by decide +kernel
theorem dX5_workOf_148 : decode cX5_workOf 148 = .ok (.iconst 2, 1) := by decide +kernel
theorem dX5_workOf_149 : decode cX5_workOf 149 = .ok (.if_icmp .ne 8, 3) := by decide +kernel
theorem dX5_workOf_152 : decode cX5_workOf 152 = .ok (.bipush (-9), 2) := by decide +kernel
theorem dX5_workOf_154 : decode cX5_workOf 154 = .ok (.goto 4, 3) := by decide +kernel
theorem dX5_workOf_157 : decode cX5_workOf 157 = .ok (.iconst 0, 1) := by decide +kernel
theorem dX5_workOf_158 : decode cX5_workOf 158 = .ok (.ireturn, 1) := by decide +kernel
theorem dX5_workOf_159 : decode cX5_workOf 159 = .ok (.iload_n 1, 1) := by decide +kernel
theorem dX5_workOf_160 : decode cX5_workOf 160 = .ok (.iconst 3, 1) := by decide +kernel
theorem dX5_workOf_161 : decode cX5_workOf 161 = .ok (.if_icmp .ne 8, 3) := by decide +kernel
theorem dX5_workOf_164 : decode cX5_workOf 164 = .ok (.bipush (-10), 2) := by decide +kernel
theorem dX5_workOf_166 : decode cX5_workOf 166 = .ok (.goto 4, 3) := by decide +kernel
theorem dX5_workOf_169 : decode cX5_workOf 169 = .ok (.iconst 0, 1) := by decide +kernel
theorem dX5_workOf_170 : decode cX5_workOf 170 = .ok (.ireturn, 1) := by decide +kernel
theorem dX5_workOf_171 : decode cX5_workOf 171 = .ok (.iload_n 1, 1) := by decide +kernel
theorem dX5_workOf_172 : decode cX5_workOf 172 = .ok (.iconst 3, 1) := by decide +kernel
theorem dX5_workOf_173 : decode cX5_workOf 173 = .ok (.if_icmp .ne 8, 3) := by decide +kernel
theorem dX5_workOf_176 : decode cX5_workOf 176 = .ok (.bipush (-11), 2) := by decide +kernel
theorem dX5_workOf_178 : decode cX5_workOf 178 = .ok (.goto 4, 3) := by decide +kernel
theorem dX5_workOf_181 : decode cX5_workOf 181 = .ok (.iconst 0, 1) := by decide +kernel
theorem dX5_workOf_182 : decode cX5_workOf 182 = .ok (.ireturn, 1) := by decide +kernel
theorem dX5_workOf_183 : decode cX5_workOf 183 = .ok (.iload_n 1, 1) := by decide +kernel
theorem dX5_workOf_184 : decode cX5_workOf 184 = .ok (.iconst 4, 1) := by decide +kernel
theorem dX5_workOf_185 : decode cX5_workOf 185 = .ok (.if_icmp .ne 8, 3) := by decide +kernel
theorem dX5_workOf_188 : decode cX5_workOf 188 = .ok (.bipush (-12), 2) := by decide +kernel
theorem dX5_workOf_190 : decode cX5_workOf 190 = .ok (.goto 4, 3) := by decide +kernel
theorem dX5_workOf_193 : decode cX5_workOf 193 = .ok (.iconst 0, 1) := by decide +kernel
theorem dX5_workOf_194 : decode cX5_workOf 194 = .ok (.ireturn, 1) := by decide +kernel
theorem dX5_workOf_195 : decode cX5_workOf 195 = .ok (.iload_n 1, 1) := by decide +kernel
theorem dX5_workOf_196 : decode cX5_workOf 196 = .ok (.iconst 4, 1) := by decide +kernel
theorem dX5_workOf_197 : decode cX5_workOf 197 = .ok (.if_icmp .ne 8, 3) := by decide +kernel
theorem dX5_workOf_200 : decode cX5_workOf 200 = .ok (.bipush (-13), 2) := by decide +kernel
theorem dX5_workOf_202 : decode cX5_workOf 202 = .ok (.goto 4, 3) := by decide +kernel
theorem dX5_workOf_205 : decode cX5_workOf 205 = .ok (.iconst 0, 1) := by decide +kernel
theorem dX5_workOf_206 : decode cX5_workOf 206 = .ok (.ireturn, 1) := by decide +kernel
theorem dX5_workOf_207 : decode cX5_workOf 207 = .ok (.iconst 0, 1) := by decide +kernel
theorem dX5_workOf_208 : decode cX5_workOf 208 = .ok (.ireturn, 1) := by decide +kernel
theorem dX5_readPiece_0 : decode cX5_readPiece 0 = .ok (.aload_n 0, 1) := by decide +kernel
theorem dX5_readPiece_1 : decode cX5_readPiece 1 = .ok (.getfield 22, 3) := by decide +kernel
theorem dX5_readPiece_4 : decode cX5_readPiece 4 = .ok (.iconst 2, 1) := by decide +kernel
theorem dX5_readPiece_5 : decode cX5_readPiece 5 = .ok (.if_icmp .eq 11, 3) := by decide +kernel
theorem dX5_readPiece_8 : decode cX5_readPiece 8 = .ok (.aload_n 0, 1) := by decide +kernel
theorem dX5_readPiece_9 : decode cX5_readPiece 9 = .ok (.getfield 22, 3) := by decide +kernel
theorem dX5_readPiece_12 : decode cX5_readPiece 12 = .ok (.iconst 1, 1) := by decide +kernel
theorem dX5_readPiece_13 : decode cX5_readPiece 13 = .ok (.if_icmp .ne 8, 3) := by decide +kernel
theorem dX5_readPiece_16 : decode cX5_readPiece 16 = .ok (.aload_n 0, 1) := by decide +kernel
theorem dX5_readPiece_17 : decode cX5_readPiece 17 = .ok (.invokevirtual 95, 3) := by decide +kernel
theorem dX5_readPiece_20 : decode cX5_readPiece 20 = .ok (.ireturn, 1) := by decide +kernel
theorem dX5_readPiece_21 : decode cX5_readPiece 21 = .ok (.aload_n 0, 1) := by decide +kernel
theorem dX5_readPiece_22 : decode cX5_readPiece 22 = .ok (.bipush 33, 2) := by decide +kernel
theorem dX5_readPiece_24 : decode cX5_readPiece 24 = .ok (.invokevirtual 99, 3) := by decide +kernel
theorem dX5_readPiece_27 : decode cX5_readPiece 27 = .ok (.ifCond .eq 34, 3) := by decide +kernel
theorem dX5_readPiece_30 : decode cX5_readPiece 30 = .ok (.iload_n 2, 1) := by decide +kernel
theorem dX5_readPiece_31 : decode cX5_readPiece 31 = .ok (.bipush 8, 2) := by decide +kernel
theorem dX5_readPiece_33 : decode cX5_readPiece 33 = .ok (.if_icmp .ge 28, 3) := by decide +kernel
theorem dX5_readPiece_36 : decode cX5_readPiece 36 = .ok (.aload_n 0, 1) := by decide +kernel
theorem dX5_readPiece_37 : decode cX5_readPiece 37 = .ok (.invokevirtual 34, 3) := by decide +kernel
theorem dX5_readPiece_40 : decode cX5_readPiece 40 = .ok (.aload_n 0, 1) := by decide +kernel
theorem dX5_readPiece_41 : decode cX5_readPiece 41 = .ok (.iload_n 1, 1) := by decide +kernel
theorem dX5_readPiece_42 : decode cX5_readPiece 42 = .ok (.iload_n 2, 1) := by decide +kernel
theorem dX5_readPiece_43 : decode cX5_readPiece 43 = .ok (.iconst 1, 1) := by decide +kernel
theorem dX5_readPiece_44 : decode cX5_readPiece 44 = .ok (.iadd, 1) := by decide +kernel
theorem dX5_readPiece_45 : decode cX5_readPiece 45 = .ok (.invokevirtual 84, 3) := by decide +kernel
theorem dX5_readPiece_48 : decode cX5_readPiece 48 = .ok (.ifCond .ne 5, 3) := by decide +kernel
theorem dX5_readPiece_51 : decode cX5_readPiece 51 = .ok (.iconst 0, 1) := by decide +kernel
theorem dX5_readPiece_52 : decode cX5_readPiece 52 = .ok (.ireturn, 1) := by decide +kernel
theorem dX5_readPiece_53 : decode cX5_readPiece 53 = .ok (.aload_n 0, 1) := by decide +kernel
theorem dX5_readPiece_54 : decode cX5_readPiece 54 = .ok (.bipush (-4), 2) := by decide +kernel
theorem dX5_readPiece_56 : decode cX5_readPiece 56 = .ok (.invokevirtual 91, 3) := by decide +kernel
theorem dX5_readPiece_59 : decode cX5_readPiece 59 = .ok (.iconst 1, 1) := by decide +kernel
theorem dX5_readPiece_60 : decode cX5_readPiece 60 = .ok (.ireturn, 1) := by decide +kernel
theorem dX5_readPiece_61 : decode cX5_readPiece 61 = .ok (.aload_n 0, 1) := by decide +kernel
theorem dX5_readPiece_62 : decode cX5_readPiece 62 = .ok (.bipush 40, 2) := by decide +kernel
theorem dX5_readPiece_64 : decode cX5_readPiece 64 = .ok (.invokevirtual 99, 3) := by decide +kernel
theorem dX5_readPiece_67 : decode cX5_readPiece 67 = .ok (.ifCond .eq 42, 3) := by decide +kernel
theorem dX5_readPiece_70 : decode cX5_readPiece 70 = .ok (.iload_n 1, 1) := by decide +kernel
theorem dX5_readPiece_71 : decode cX5_readPiece 71 = .ok (.bipush 8, 2) := by decide +kernel
theorem dX5_readPiece_73 : decode cX5_readPiece 73 = .ok (.if_icmp .ge 36, 3) := by decide +kernel
theorem dX5_readPiece_76 : decode cX5_readPiece 76 = .ok (.aload_n 0, 1) := by decide +kernel
theorem dX5_readPiece_77 : decode cX5_readPiece 77 = .ok (.invokevirtual 34, 3) := by decide +kernel
theorem dX5_readPiece_80 : decode cX5_readPiece 80 = .ok (.aload_n 0, 1) := by decide +kernel
theorem dX5_readPiece_81 : decode cX5_readPiece 81 = .ok (.iconst 0, 1) := by decide +kernel
theorem dX5_readPiece_82 : decode cX5_readPiece 82 = .ok (.iload_n 1, 1) := by decide +kernel
theorem dX5_readPiece_83 : decode cX5_readPiece 83 = .ok (.iconst 1, 1) := by decide +kernel
theorem dX5_readPiece_84 : decode cX5_readPiece 84 = .ok (.iadd, 1) := by decide +kernel
theorem dX5_readPiece_85 : decode cX5_readPiece 85 = .ok (.iload_n 2, 1) := by decide +kernel
theorem dX5_readPiece_86 : decode cX5_readPiece 86 = .ok (.invokevirtual 44, 3) := by decide +kernel
theorem dX5_readPiece_89 : decode cX5_readPiece 89 = .ok (.ifCond .eq 12, 3) := by decide +kernel
theorem dX5_readPiece_92 : decode cX5_readPiece 92 = .ok (.aload_n 0, 1) := by decide +kernel
theorem dX5_readPiece_93 : decode cX5_readPiece 93 = .ok (.bipush 41, 2) := by decide +kernel
theorem dX5_readPiece_95 : decode cX5_readPiece 95 = .ok (.invokevirtual 99, 3) := by decide +kernel
theorem dX5_readPiece_98 : decode cX5_readPiece 98 = .ok (.ifCond .ne 5, 3) := by decide +kernel
theorem dX5_readPiece_101 : decode cX5_readPiece 101 = .ok (.iconst 0, 1) := by decide +kernel
theorem dX5_readPiece_102 : decode cX5_readPiece 102 = .ok (.ireturn, 1) := by decide +kernel
theorem dX5_readPiece_103 : decode cX5_readPiece 103 = .ok (.aload_n 0, 1) := by decide +kernel
theorem dX5_readPiece_104 : decode cX5_readPiece 104 = .ok (.invokevirtual 34, 3) := by decide +kernel
theorem dX5_readPiece_107 : decode cX5_readPiece 107 = .ok (.iconst 1, 1) := by decide +kernel
theorem dX5_readPiece_108 : decode cX5_readPiece 108 = .ok (.ireturn, 1) := by decide +kernel
theorem dX5_readPiece_109 : decode cX5_readPiece 109 = .ok (.iconst 0, 1) := by decide +kernel
theorem dX5_readPiece_110 : decode cX5_readPiece 110 = .ok (.ireturn, 1) := by decide +kernel
theorem dX5_readOperand_0 : decode cX5_readOperand 0 = .ok (.aload_n 0, 1) := by decide +kernel
theorem dX5_readOperand_1 : decode cX5_readOperand 1 = .ok (.getfield 22, 3) := by decide +kernel
theorem dX5_readOperand_4 : decode cX5_readOperand 4 = .ok (.iconst 2, 1) := by decide +kernel
theorem dX5_readOperand_5 : decode cX5_readOperand 5 = .ok (.if_icmp .ne 10, 3) := by decide +kernel
theorem dX5_readOperand_8 : decode cX5_readOperand 8 = .ok (.aload_n 0, 1) := by decide +kernel
theorem dX5_readOperand_9 : decode cX5_readOperand 9 = .ok (.invokevirtual 103, 3) := by decide +kernel
theorem dX5_readOperand_12 : decode cX5_readOperand 12 = .ok (.goto 7, 3) := by decide +kernel
theorem dX5_readOperand_15 : decode cX5_readOperand 15 = .ok (.aload_n 0, 1) := by decide +kernel
theorem dX5_readOperand_16 : decode cX5_readOperand 16 = .ok (.invokevirtual 106, 3) := by decide +kernel
theorem dX5_readOperand_19 : decode cX5_readOperand 19 = .ok (.istore_n 1, 1) := by decide +kernel
theorem dX5_readOperand_20 : decode cX5_readOperand 20 = .ok (.iload_n 1, 1) := by decide +kernel
theorem dX5_readOperand_21 : decode cX5_readOperand 21 = .ok (.bipush (-3), 2) := by decide +kernel
theorem dX5_readOperand_23 : decode cX5_readOperand 23 = .ok (.if_icmp .ge 5, 3) := by decide +kernel
theorem dX5_readOperand_26 : decode cX5_readOperand 26 = .ok (.iconst 0, 1) := by decide +kernel
theorem dX5_readOperand_27 : decode cX5_readOperand 27 = .ok (.ireturn, 1) := by decide +kernel
theorem dX5_readOperand_28 : decode cX5_readOperand 28 = .ok (.aload_n 0, 1) := by decide +kernel
theorem dX5_readOperand_29 : decode cX5_readOperand 29 = .ok (.dup, 1) := by decide +kernel
theorem dX5_readOperand_30 : decode cX5_readOperand 30 = .ok (.getfield 28, 3) := by decide +kernel
theorem dX5_readOperand_33 : decode cX5_readOperand 33 = .ok (.iconst 1, 1) := by decide +kernel
theorem dX5_readOperand_34 : decode cX5_readOperand 34 = .ok (.iadd, 1) := by decide +kernel
theorem dX5_readOperand_35 : decode cX5_readOperand 35 = .ok (.putfield 28, 3) := by decide +kernel
theorem dX5_readOperand_38 : decode cX5_readOperand 38 = .ok (.aload_n 0, 1) := by decide +kernel
theorem dX5_readOperand_39 : decode cX5_readOperand 39 = .ok (.iload_n 1, 1) := by decide +kernel
theorem dX5_readOperand_40 : decode cX5_readOperand 40 = .ok (.invokevirtual 91, 3) := by decide +kernel
theorem dX5_readOperand_43 : decode cX5_readOperand 43 = .ok (.aload_n 0, 1) := by decide +kernel
theorem dX5_readOperand_44 : decode cX5_readOperand 44 = .ok (.invokevirtual 34, 3) := by decide +kernel
theorem dX5_readOperand_47 : decode cX5_readOperand 47 = .ok (.iconst 1, 1) := by decide +kernel
theorem dX5_readOperand_48 : decode cX5_readOperand 48 = .ok (.ireturn, 1) := by decide +kernel
theorem dX5_numberHere_0 : decode cX5_numberHere 0 = .ok (.iconst 0, 1) := by decide +kernel
theorem dX5_numberHere_1 : decode cX5_numberHere 1 = .ok (.istore_n 1, 1) := by decide +kernel
theorem dX5_numberHere_2 : decode cX5_numberHere 2 = .ok (.aload_n 0, 1) := by decide +kernel
theorem dX5_numberHere_3 : decode cX5_numberHere 3 = .ok (.getfield 59, 3) := by decide +kernel
theorem dX5_numberHere_6 : decode cX5_numberHere 6 = .ok (.istore_n 2, 1) := by decide +kernel
theorem dX5_numberHere_7 : decode cX5_numberHere 7 = .ok (.iload_n 2, 1) := by decide +kernel
theorem dX5_numberHere_8 : decode cX5_numberHere 8 = .ok (.aload_n 0, 1) := by decide +kernel
theorem dX5_numberHere_9 : decode cX5_numberHere 9 = .ok (.getfield 25, 3) := by decide +kernel
theorem dX5_numberHere_12 : decode cX5_numberHere 12 = .ok (.if_icmp .ge 24, 3) := by decide +kernel
theorem dX5_numberHere_15 : decode cX5_numberHere 15 = .ok (.iload_n 1, 1) := by decide +kernel
theorem dX5_numberHere_16 : decode cX5_numberHere 16 = .ok (.bipush 10, 2) := by decide +kernel
theorem dX5_numberHere_18 : decode cX5_numberHere 18 = .ok (.imul, 1) := by decide +kernel
theorem dX5_numberHere_19 : decode cX5_numberHere 19 = .ok (.aload_n 0, 1) := by decide +kernel
theorem dX5_numberHere_20 : decode cX5_numberHere 20 = .ok (.getfield 9, 3) := by decide +kernel
theorem dX5_numberHere_23 : decode cX5_numberHere 23 = .ok (.iload_n 2, 1) := by decide +kernel
theorem dX5_numberHere_24 : decode cX5_numberHere 24 = .ok (.iaload, 1) := by decide +kernel
theorem dX5_numberHere_25 : decode cX5_numberHere 25 = .ok (.iadd, 1) := by decide +kernel
theorem dX5_numberHere_26 : decode cX5_numberHere 26 = .ok (.bipush 48, 2) := by decide +kernel
theorem dX5_numberHere_28 : decode cX5_numberHere 28 = .ok (.isub, 1) := by decide +kernel
theorem dX5_numberHere_29 : decode cX5_numberHere 29 = .ok (.istore_n 1, 1) := by decide +kernel
theorem dX5_numberHere_30 : decode cX5_numberHere 30 = .ok (.iinc 2 1, 3) := by decide +kernel
theorem dX5_numberHere_33 : decode cX5_numberHere 33 = .ok (.goto (-26), 3) := by decide +kernel
theorem dX5_numberHere_36 : decode cX5_numberHere 36 = .ok (.iload_n 1, 1) := by decide +kernel
theorem dX5_numberHere_37 : decode cX5_numberHere 37 = .ok (.ireturn, 1) := by decide +kernel
theorem dX5_nameHere_0 : decode cX5_nameHere 0 = .ok (.aload_n 0, 1) := by decide +kernel
theorem dX5_nameHere_1 : decode cX5_nameHere 1 = .ok (.getfield 25, 3) := by decide +kernel
theorem dX5_nameHere_4 : decode cX5_nameHere 4 = .ok (.aload_n 0, 1) := by decide +kernel
theorem dX5_nameHere_5 : decode cX5_nameHere 5 = .ok (.getfield 59, 3) := by decide +kernel
theorem dX5_nameHere_8 : decode cX5_nameHere 8 = .ok (.isub, 1) := by decide +kernel
theorem dX5_nameHere_9 : decode cX5_nameHere 9 = .ok (.iconst 1, 1) := by decide +kernel
theorem dX5_nameHere_10 : decode cX5_nameHere 10 = .ok (.if_icmp .ne 23, 3) := by decide +kernel
theorem dX5_nameHere_13 : decode cX5_nameHere 13 = .ok (.aload_n 0, 1) := by decide +kernel
theorem dX5_nameHere_14 : decode cX5_nameHere 14 = .ok (.invokevirtual 109, 3) := by decide +kernel
theorem dX5_nameHere_17 : decode cX5_nameHere 17 = .ok (.aload_n 0, 1) := by decide +kernel
theorem dX5_nameHere_18 : decode cX5_nameHere 18 = .ok (.getfield 9, 3) := by decide +kernel
theorem dX5_nameHere_21 : decode cX5_nameHere 21 = .ok (.aload_n 0, 1) := by decide +kernel
theorem dX5_nameHere_22 : decode cX5_nameHere 22 = .ok (.getfield 59, 3) := by decide +kernel
theorem dX5_nameHere_25 : decode cX5_nameHere 25 = .ok (.iaload, 1) := by decide +kernel
theorem dX5_nameHere_26 : decode cX5_nameHere 26 = .ok (.i2c, 1) := by decide +kernel
theorem dX5_nameHere_27 : decode cX5_nameHere 27 = .ok (.invokevirtual 113, 3) := by decide +kernel
theorem dX5_nameHere_30 : decode cX5_nameHere 30 = .ok (.goto 4, 3) := by decide +kernel
theorem dX5_nameHere_33 : decode cX5_nameHere 33 = .ok (.iconst (-1), 1) := by decide +kernel
theorem dX5_nameHere_34 : decode cX5_nameHere 34 = .ok (.istore_n 1, 1) := by decide +kernel
theorem dX5_nameHere_35 : decode cX5_nameHere 35 = .ok (.iload_n 1, 1) := by decide +kernel
theorem dX5_nameHere_36 : decode cX5_nameHere 36 = .ok (.ifCond .ge 8, 3) := by decide +kernel
theorem dX5_nameHere_39 : decode cX5_nameHere 39 = .ok (.ldc 116, 2) := by decide +kernel
theorem dX5_nameHere_41 : decode cX5_nameHere 41 = .ok (.goto 6, 3) := by decide +kernel
theorem dX5_nameHere_44 : decode cX5_nameHere 44 = .ok (.iconst (-1), 1) := by decide +kernel
theorem dX5_nameHere_45 : decode cX5_nameHere 45 = .ok (.iload_n 1, 1) := by decide +kernel
theorem dX5_nameHere_46 : decode cX5_nameHere 46 = .ok (.isub, 1) := by decide +kernel
theorem dX5_nameHere_47 : decode cX5_nameHere 47 = .ok (.ireturn, 1) := by decide +kernel
theorem dX5_namesOfKey_0 : decode cX5_namesOfKey 0 = .ok (.aload_n 0, 1) := by decide +kernel
theorem dX5_namesOfKey_1 : decode cX5_namesOfKey 1 = .ok (.getfield 41, 3) := by decide +kernel
theorem dX5_namesOfKey_4 : decode cX5_namesOfKey 4 = .ok (.lookupswitch 34 #[(0, 28), (1, 31)], 28) := by decide +kernel
theorem dX5_namesOfKey_32 : decode cX5_namesOfKey 32 = .ok (.ldc 117, 2) := by decide +kernel
theorem dX5_namesOfKey_34 : decode cX5_namesOfKey 34 = .ok (.areturn, 1) := by decide +kernel
theorem dX5_namesOfKey_35 : decode cX5_namesOfKey 35 = .ok (.ldc 119, 2) := by decide +kernel
theorem dX5_namesOfKey_37 : decode cX5_namesOfKey 37 = .ok (.areturn, 1) := by decide +kernel
theorem dX5_namesOfKey_38 : decode cX5_namesOfKey 38 = .ok (.ldc 121, 2) := by decide +kernel
theorem dX5_namesOfKey_40 : decode cX5_namesOfKey 40 = .ok (.areturn, 1) := by decide +kernel
theorem dX5_add_0 : decode cX5_add 0 = .ok (.aload_n 0, 1) := by decide +kernel
theorem dX5_add_1 : decode cX5_add 1 = .ok (.getfield 31, 3) := by decide +kernel
theorem dX5_add_4 : decode cX5_add 4 = .ok (.bipush 96, 2) := by decide +kernel
theorem dX5_add_6 : decode cX5_add 6 = .ok (.if_icmp .ge 23, 3) := by decide +kernel
theorem dX5_add_9 : decode cX5_add 9 = .ok (.aload_n 0, 1) := by decide +kernel
theorem dX5_add_10 : decode cX5_add 10 = .ok (.getfield 15, 3) := by decide +kernel
theorem dX5_add_13 : decode cX5_add 13 = .ok (.aload_n 0, 1) := by decide +kernel
theorem dX5_add_14 : decode cX5_add 14 = .ok (.getfield 31, 3) := by decide +kernel
theorem dX5_add_17 : decode cX5_add 17 = .ok (.iload_n 1, 1) := by decide +kernel
theorem dX5_add_18 : decode cX5_add 18 = .ok (.iastore, 1) := by decide +kernel
theorem dX5_add_19 : decode cX5_add 19 = .ok (.aload_n 0, 1) := by decide +kernel
theorem dX5_add_20 : decode cX5_add 20 = .ok (.dup, 1) := by decide +kernel
theorem dX5_add_21 : decode cX5_add 21 = .ok (.getfield 31, 3) := by decide +kernel
theorem dX5_add_24 : decode cX5_add 24 = .ok (.iconst 1, 1) := by decide +kernel
theorem dX5_add_25 : decode cX5_add 25 = .ok (.iadd, 1) := by decide +kernel
theorem dX5_add_26 : decode cX5_add 26 = .ok (.putfield 31, 3) := by decide +kernel
theorem dX5_add_29 : decode cX5_add 29 = .ok (.return_, 1) := by decide +kernel
theorem dX6_init_0 : decode cX6_init 0 = .ok (.aload_n 0, 1) := by decide +kernel
theorem dX6_init_1 : decode cX6_init 1 = .ok (.invokespecial 1, 3) := by decide +kernel
theorem dX6_init_4 : decode cX6_init 4 = .ok (.aload_n 0, 1) := by decide +kernel
theorem dX6_init_5 : decode cX6_init 5 = .ok (.new 7, 3) := by decide +kernel
theorem dX6_init_8 : decode cX6_init 8 = .ok (.dup, 1) := by decide +kernel
theorem dX6_init_9 : decode cX6_init 9 = .ok (.invokespecial 9, 3) := by decide +kernel
theorem dX6_init_12 : decode cX6_init 12 = .ok (.putfield 10, 3) := by decide +kernel
theorem dX6_init_15 : decode cX6_init 15 = .ok (.aload_n 0, 1) := by decide +kernel
theorem dX6_init_16 : decode cX6_init 16 = .ok (.new 7, 3) := by decide +kernel
theorem dX6_init_19 : decode cX6_init 19 = .ok (.dup, 1) := by decide +kernel
theorem dX6_init_20 : decode cX6_init 20 = .ok (.invokespecial 9, 3) := by decide +kernel
theorem dX6_init_23 : decode cX6_init 23 = .ok (.putfield 16, 3) := by decide +kernel
theorem dX6_init_26 : decode cX6_init 26 = .ok (.aload_n 0, 1) := by decide +kernel
theorem dX6_init_27 : decode cX6_init 27 = .ok (.new 7, 3) := by decide +kernel
theorem dX6_init_30 : decode cX6_init 30 = .ok (.dup, 1) := by decide +kernel
theorem dX6_init_31 : decode cX6_init 31 = .ok (.invokespecial 9, 3) := by decide +kernel
theorem dX6_init_34 : decode cX6_init 34 = .ok (.putfield 19, 3) := by decide +kernel
theorem dX6_init_37 : decode cX6_init 37 = .ok (.aload_n 0, 1) := by decide +kernel
theorem dX6_init_38 : decode cX6_init 38 = .ok (.new 22, 3) := by decide +kernel
theorem dX6_init_41 : decode cX6_init 41 = .ok (.dup, 1) := by decide +kernel
theorem dX6_init_42 : decode cX6_init 42 = .ok (.invokespecial 24, 3) := by decide +kernel
theorem dX6_init_45 : decode cX6_init 45 = .ok (.putfield 25, 3) := by decide +kernel
theorem dX6_init_48 : decode cX6_init 48 = .ok (.aload_n 0, 1) := by decide +kernel
theorem dX6_init_49 : decode cX6_init 49 = .ok (.iconst 4, 1) := by decide +kernel
theorem dX6_init_50 : decode cX6_init 50 = .ok (.anewarray 29, 3) := by decide +kernel
theorem dX6_init_53 : decode cX6_init 53 = .ok (.putfield 31, 3) := by decide +kernel
theorem dX6_init_56 : decode cX6_init 56 = .ok (.aload_n 0, 1) := by decide +kernel
theorem dX6_init_57 : decode cX6_init 57 = .ok (.iconst 5, 1) := by decide +kernel
theorem dX6_init_58 : decode cX6_init 58 = .ok (.anewarray 35, 3) := by decide +kernel
theorem dX6_init_61 : decode cX6_init 61 = .ok (.putfield 37, 3) := by decide +kernel
theorem dX6_init_64 : decode cX6_init 64 = .ok (.aload_n 0, 1) := by decide +kernel
theorem dX6_init_65 : decode cX6_init 65 = .ok (.bipush 60, 2) := by decide +kernel
theorem dX6_init_67 : decode cX6_init 67 = .ok (.newarray .int, 2) := by decide +kernel
theorem dX6_init_69 : decode cX6_init 69 = .ok (.putfield 41, 3) := by decide +kernel
theorem dX6_init_72 : decode cX6_init 72 = .ok (.aload_n 0, 1) := by decide +kernel
theorem dX6_init_73 : decode cX6_init 73 = .ok (.bipush 10, 2) := by decide +kernel
theorem dX6_init_75 : decode cX6_init 75 = .ok (.newarray .int, 2) := by decide +kernel
theorem dX6_init_77 : decode cX6_init 77 = .ok (.putfield 45, 3) := by decide +kernel
theorem dX6_init_80 : decode cX6_init 80 = .ok (.iconst 0, 1) := by decide +kernel
theorem dX6_init_81 : decode cX6_init 81 = .ok (.istore_n 1, 1) := by decide +kernel
theorem dX6_init_82 : decode cX6_init 82 = .ok (.iload_n 1, 1) := by decide +kernel
theorem dX6_init_83 : decode cX6_init 83 = .ok (.iconst 4, 1) := by decide +kernel
theorem dX6_init_84 : decode cX6_init 84 = .ok (.if_icmp .ge 22, 3) := by decide +kernel
theorem dX6_init_87 : decode cX6_init 87 = .ok (.aload_n 0, 1) := by decide +kernel
theorem dX6_init_88 : decode cX6_init 88 = .ok (.getfield 31, 3) := by decide +kernel
theorem dX6_init_91 : decode cX6_init 91 = .ok (.iload_n 1, 1) := by decide +kernel
theorem dX6_init_92 : decode cX6_init 92 = .ok (.new 29, 3) := by decide +kernel
theorem dX6_init_95 : decode cX6_init 95 = .ok (.dup, 1) := by decide +kernel
theorem dX6_init_96 : decode cX6_init 96 = .ok (.invokespecial 48, 3) := by decide +kernel
theorem dX6_init_99 : decode cX6_init 99 = .ok (.aastore, 1) := by decide +kernel
theorem dX6_init_100 : decode cX6_init 100 = .ok (.iinc 1 1, 3) := by decide +kernel
theorem dX6_init_103 : decode cX6_init 103 = .ok (.goto (-21), 3) := by decide +kernel
theorem dX6_init_106 : decode cX6_init 106 = .ok (.iconst 0, 1) := by decide +kernel
theorem dX6_init_107 : decode cX6_init 107 = .ok (.istore_n 1, 1) := by decide +kernel
theorem dX6_init_108 : decode cX6_init 108 = .ok (.iload_n 1, 1) := by decide +kernel
theorem dX6_init_109 : decode cX6_init 109 = .ok (.iconst 5, 1) := by decide +kernel
theorem dX6_init_110 : decode cX6_init 110 = .ok (.if_icmp .ge 22, 3) := by decide +kernel
theorem dX6_init_113 : decode cX6_init 113 = .ok (.aload_n 0, 1) := by decide +kernel
theorem dX6_init_114 : decode cX6_init 114 = .ok (.getfield 37, 3) := by decide +kernel
theorem dX6_init_117 : decode cX6_init 117 = .ok (.iload_n 1, 1) := by decide +kernel
theorem dX6_init_118 : decode cX6_init 118 = .ok (.new 35, 3) := by decide +kernel
theorem dX6_init_121 : decode cX6_init 121 = .ok (.dup, 1) := by decide +kernel
theorem dX6_init_122 : decode cX6_init 122 = .ok (.invokespecial 49, 3) := by decide +kernel
theorem dX6_init_125 : decode cX6_init 125 = .ok (.aastore, 1) := by decide +kernel
theorem dX6_init_126 : decode cX6_init 126 = .ok (.iinc 1 1, 3) := by decide +kernel
theorem dX6_init_129 : decode cX6_init 129 = .ok (.goto (-21), 3) := by decide +kernel
theorem dX6_init_132 : decode cX6_init 132 = .ok (.return_, 1) := by decide +kernel
theorem dX6_lamp_0 : decode cX6_lamp 0 = .ok (.iload_n 1, 1) := by decide +kernel
theorem dX6_lamp_1 : decode cX6_lamp 1 = .ok (.invokestatic 50, 3) := by decide +kernel
theorem dX6_lamp_4 : decode cX6_lamp 4 = .ok (.ifCond .eq 35, 3) := by decide +kernel
theorem dX6_lamp_7 : decode cX6_lamp 7 = .ok (.iload_n 2, 1) := by decide +kernel
theorem dX6_lamp_8 : decode cX6_lamp 8 = .ok (.iconst 0, 1) := by decide +kernel
theorem dX6_lamp_9 : decode cX6_lamp 9 = .ok (.bipush 99, 2) := by decide +kernel
theorem dX6_lamp_11 : decode cX6_lamp 11 = .ok (.invokestatic 56, 3) := by decide +kernel
theorem dX6_lamp_14 : decode cX6_lamp 14 = .ok (.ifCond .eq 25, 3) := by decide +kernel
theorem dX6_lamp_17 : decode cX6_lamp 17 = .ok (.iload_n 3, 1) := by decide +kernel
theorem dX6_lamp_18 : decode cX6_lamp 18 = .ok (.iconst 0, 1) := by decide +kernel
theorem dX6_lamp_19 : decode cX6_lamp 19 = .ok (.sipush 999, 3) := by decide +kernel
theorem dX6_lamp_22 : decode cX6_lamp 22 = .ok (.invokestatic 56, 3) := by decide +kernel
theorem dX6_lamp_25 : decode cX6_lamp 25 = .ok (.ifCond .eq 14, 3) := by decide +kernel
theorem dX6_lamp_28 : decode cX6_lamp 28 = .ok (.iload 4, 2) := by decide +kernel
theorem dX6_lamp_30 : decode cX6_lamp 30 = .ok (.iconst 0, 1) := by decide +kernel
theorem dX6_lamp_31 : decode cX6_lamp 31 = .ok (.bipush 99, 2) := by decide +kernel
theorem dX6_lamp_33 : decode cX6_lamp 33 = .ok (.invokestatic 56, 3) := by decide +kernel
theorem dX6_lamp_36 : decode cX6_lamp 36 = .ok (.ifCond .ne 6, 3) := by decide +kernel
theorem dX6_lamp_39 : decode cX6_lamp 39 = .ok (.ldc 60, 2) := by decide +kernel
theorem dX6_lamp_41 : decode cX6_lamp 41 = .ok (.ireturn, 1) := by decide +kernel
theorem dX6_lamp_42 : decode cX6_lamp 42 = .ok (.aload_n 0, 1) := by decide +kernel
theorem dX6_lamp_43 : decode cX6_lamp 43 = .ok (.getfield 10, 3) := by decide +kernel
theorem dX6_lamp_46 : decode cX6_lamp 46 = .ok (.getfield 61, 3) := by decide +kernel
theorem dX6_lamp_49 : decode cX6_lamp 49 = .ok (.bipush 10, 2) := by decide +kernel
theorem dX6_lamp_51 : decode cX6_lamp 51 = .ok (.if_icmp .lt 6, 3) := by decide +kernel
theorem dX6_lamp_54 : decode cX6_lamp 54 = .ok (.ldc 65, 2) := by decide +kernel
theorem dX6_lamp_56 : decode cX6_lamp 56 = .ok (.ireturn, 1) := by decide +kernel
theorem dX6_lamp_57 : decode cX6_lamp 57 = .ok (.aload_n 0, 1) := by decide +kernel
theorem dX6_lamp_58 : decode cX6_lamp 58 = .ok (.getfield 10, 3) := by decide +kernel
theorem dX6_lamp_61 : decode cX6_lamp 61 = .ok (.iload_n 1, 1) := by decide +kernel
theorem dX6_lamp_62 : decode cX6_lamp 62 = .ok (.iload_n 2, 1) := by decide +kernel
theorem dX6_lamp_63 : decode cX6_lamp 63 = .ok (.iload_n 3, 1) := by decide +kernel
theorem dX6_lamp_64 : decode cX6_lamp 64 = .ok (.iload 4, 2) := by decide +kernel
theorem dX6_lamp_66 : decode cX6_lamp 66 = .ok (.invokevirtual 66, 3) := by decide +kernel
theorem dX6_lamp_69 : decode cX6_lamp 69 = .ok (.aload_n 0, 1) := by decide +kernel
theorem dX6_lamp_70 : decode cX6_lamp 70 = .ok (.getfield 10, 3) := by decide +kernel
theorem dX6_lamp_73 : decode cX6_lamp 73 = .ok (.getfield 61, 3) := by decide +kernel
theorem dX6_lamp_76 : decode cX6_lamp 76 = .ok (.iconst 1, 1) := by decide +kernel
theorem dX6_lamp_77 : decode cX6_lamp 77 = .ok (.isub, 1) := by decide +kernel
theorem dX6_lamp_78 : decode cX6_lamp 78 = .ok (.ireturn, 1) := by decide +kernel
theorem dX6_told_0 : decode cX6_told 0 = .ok (.aload_n 0, 1) := by decide +kernel
theorem dX6_told_1 : decode cX6_told 1 = .ok (.getfield 10, 3) := by decide +kernel
theorem dX6_told_4 : decode cX6_told 4 = .ok (.iload_n 1, 1) := by decide +kernel
theorem dX6_told_5 : decode cX6_told 5 = .ok (.invokevirtual 70, 3) := by decide +kernel
theorem dX6_told_8 : decode cX6_told 8 = .ok (.ifCond .ne 6, 3) := by decide +kernel
theorem dX6_told_11 : decode cX6_told 11 = .ok (.ldc 60, 2) := by decide +kernel
theorem dX6_told_13 : decode cX6_told 13 = .ok (.ireturn, 1) := by decide +kernel
theorem dX6_told_14 : decode cX6_told 14 = .ok (.aload_n 0, 1) := by decide +kernel
theorem dX6_told_15 : decode cX6_told 15 = .ok (.getfield 10, 3) := by decide +kernel
theorem dX6_told_18 : decode cX6_told 18 = .ok (.getfield 73, 3) := by decide +kernel
theorem dX6_told_21 : decode cX6_told 21 = .ok (.iload_n 1, 1) := by decide +kernel
theorem dX6_told_22 : decode cX6_told 22 = .ok (.aaload, 1) := by decide +kernel
theorem dX6_told_23 : decode cX6_told 23 = .ok (.astore_n 3, 1) := by decide +kernel
theorem dX6_told_24 : decode cX6_told 24 = .ok (.iload_n 2, 1) := by decide +kernel
theorem dX6_told_25 : decode cX6_told 25 = .ok (.lookupswitch 45 #[(7, 27), (8, 40)], 27) := by decide +kernel
theorem dX6_told_52 : decode cX6_told 52 = .ok (.aload_n 3, 1) := by decide +kernel
theorem dX6_told_53 : decode cX6_told 53 = .ok (.aload_n 0, 1) := by decide +kernel
theorem dX6_told_54 : decode cX6_told 54 = .ok (.getfield 10, 3) := by decide +kernel
theorem dX6_told_57 : decode cX6_told 57 = .ok (.aload_n 3, 1) := by decide +kernel
theorem dX6_told_58 : decode cX6_told 58 = .ok (.invokevirtual 77, 3) := by decide +kernel
theorem dX6_told_61 : decode cX6_told 61 = .ok (.invokevirtual 81, 3) := by decide +kernel
theorem dX6_told_64 : decode cX6_told 64 = .ok (.ireturn, 1) := by decide +kernel
theorem dX6_told_65 : decode cX6_told 65 = .ok (.aload_n 3, 1) := by decide +kernel
theorem dX6_told_66 : decode cX6_told 66 = .ok (.invokevirtual 85, 3) := by decide +kernel
theorem dX6_told_69 : decode cX6_told 69 = .ok (.ireturn, 1) := by decide +kernel
theorem dX6_told_70 : decode cX6_told 70 = .ok (.iload_n 2, 1) := by decide +kernel
theorem dX6_told_71 : decode cX6_told 71 = .ok (.iconst 0, 1) := by decide +kernel
theorem dX6_told_72 : decode cX6_told 72 = .ok (.bipush 6, 2) := by decide +kernel
theorem dX6_told_74 : decode cX6_told 74 = .ok (.invokestatic 56, 3) := by decide +kernel
theorem dX6_told_77 : decode cX6_told 77 = .ok (.ifCond .eq 11, 3) := by decide +kernel
theorem dX6_told_80 : decode cX6_told 80 = .ok (.aload_n 3, 1) := by decide +kernel
theorem dX6_told_81 : decode cX6_told 81 = .ok (.iload_n 2, 1) := by decide +kernel
theorem dX6_told_82 : decode cX6_told 82 = .ok (.invokevirtual 89, 3) := by decide +kernel
theorem dX6_told_85 : decode cX6_told 85 = .ok (.goto 5, 3) := by decide +kernel
theorem dX6_told_88 : decode cX6_told 88 = .ok (.ldc 60, 2) := by decide +kernel
theorem dX6_told_90 : decode cX6_told 90 = .ok (.ireturn, 1) := by decide +kernel
theorem dX6_drinks_0 : decode cX6_drinks 0 = .ok (.aload_n 0, 1) := by decide +kernel
theorem dX6_drinks_1 : decode cX6_drinks 1 = .ok (.getfield 10, 3) := by decide +kernel
theorem dX6_drinks_4 : decode cX6_drinks 4 = .ok (.iload_n 1, 1) := by decide +kernel
theorem dX6_drinks_5 : decode cX6_drinks 5 = .ok (.invokevirtual 70, 3) := by decide +kernel
theorem dX6_drinks_8 : decode cX6_drinks 8 = .ok (.ifCond .eq 30, 3) := by decide +kernel
theorem dX6_drinks_11 : decode cX6_drinks 11 = .ok (.iload_n 2, 1) := by decide +kernel
theorem dX6_drinks_12 : decode cX6_drinks 12 = .ok (.iconst 0, 1) := by decide +kernel
theorem dX6_drinks_13 : decode cX6_drinks 13 = .ok (.sipush 999, 3) := by decide +kernel
theorem dX6_drinks_16 : decode cX6_drinks 16 = .ok (.invokestatic 56, 3) := by decide +kernel
theorem dX6_drinks_19 : decode cX6_drinks 19 = .ok (.ifCond .eq 19, 3) := by decide +kernel
theorem dX6_drinks_22 : decode cX6_drinks 22 = .ok (.aload_n 0, 1) := by decide +kernel
theorem dX6_drinks_23 : decode cX6_drinks 23 = .ok (.getfield 10, 3) := by decide +kernel
theorem dX6_drinks_26 : decode cX6_drinks 26 = .ok (.getfield 73, 3) := by decide +kernel
theorem dX6_drinks_29 : decode cX6_drinks 29 = .ok (.iload_n 1, 1) := by decide +kernel
theorem dX6_drinks_30 : decode cX6_drinks 30 = .ok (.aaload, 1) := by decide +kernel
theorem dX6_drinks_31 : decode cX6_drinks 31 = .ok (.iload_n 2, 1) := by decide +kernel
theorem dX6_drinks_32 : decode cX6_drinks 32 = .ok (.invokevirtual 92, 3) := by decide +kernel
theorem dX6_drinks_35 : decode cX6_drinks 35 = .ok (.goto 5, 3) := by decide +kernel
theorem dX6_drinks_38 : decode cX6_drinks 38 = .ok (.ldc 60, 2) := by decide +kernel
theorem dX6_drinks_40 : decode cX6_drinks 40 = .ok (.ireturn, 1) := by decide +kernel
theorem dX6_as_0 : decode cX6_as 0 = .ok (.aload_n 0, 1) := by decide +kernel
theorem dX6_as_1 : decode cX6_as 1 = .ok (.getfield 10, 3) := by decide +kernel
theorem dX6_as_4 : decode cX6_as 4 = .ok (.iload_n 1, 1) := by decide +kernel
theorem dX6_as_5 : decode cX6_as 5 = .ok (.invokevirtual 70, 3) := by decide +kernel
theorem dX6_as_8 : decode cX6_as 8 = .ok (.ifCond .eq 10, 3) := by decide +kernel
theorem dX6_as_11 : decode cX6_as 11 = .ok (.iload_n 2, 1) := by decide +kernel
theorem dX6_as_12 : decode cX6_as 12 = .ok (.invokestatic 50, 3) := by decide +kernel
theorem dX6_as_15 : decode cX6_as 15 = .ok (.ifCond .ne 6, 3) := by decide +kernel
theorem dX6_as_18 : decode cX6_as 18 = .ok (.ldc 60, 2) := by decide +kernel
theorem dX6_as_20 : decode cX6_as 20 = .ok (.ireturn, 1) := by decide +kernel
theorem dX6_as_21 : decode cX6_as 21 = .ok (.aload_n 0, 1) := by decide +kernel
theorem dX6_as_22 : decode cX6_as 22 = .ok (.getfield 10, 3) := by decide +kernel
theorem dX6_as_25 : decode cX6_as 25 = .ok (.getfield 73, 3) := by decide +kernel
theorem dX6_as_28 : decode cX6_as 28 = .ok (.iload_n 1, 1) := by decide +kernel
theorem dX6_as_29 : decode cX6_as 29 = .ok (.aaload, 1) := by decide +kernel
theorem dX6_as_30 : decode cX6_as 30 = .ok (.iload_n 2, 1) := by decide +kernel
theorem dX6_as_31 : decode cX6_as 31 = .ok (.invokevirtual 95, 3) := by decide +kernel
theorem dX6_as_34 : decode cX6_as 34 = .ok (.ifCond .eq 18, 3) := by decide +kernel
theorem dX6_as_37 : decode cX6_as 37 = .ok (.aload_n 0, 1) := by decide +kernel
theorem dX6_as_38 : decode cX6_as 38 = .ok (.getfield 10, 3) := by decide +kernel
theorem dX6_as_41 : decode cX6_as 41 = .ok (.getfield 73, 3) := by decide +kernel
theorem dX6_as_44 : decode cX6_as 44 = .ok (.iload_n 1, 1) := by decide +kernel
theorem dX6_as_45 : decode cX6_as 45 = .ok (.aaload, 1) := by decide +kernel
theorem dX6_as_46 : decode cX6_as 46 = .ok (.getfield 98, 3) := by decide +kernel
theorem dX6_as_49 : decode cX6_as 49 = .ok (.goto 5, 3) := by decide +kernel
theorem dX6_as_52 : decode cX6_as 52 = .ok (.ldc 101, 2) := by decide +kernel
theorem dX6_as_54 : decode cX6_as 54 = .ok (.ireturn, 1) := by decide +kernel
theorem dX6_turns_0 : decode cX6_turns 0 = .ok (.aload_n 0, 1) := by decide +kernel
theorem dX6_turns_1 : decode cX6_turns 1 = .ok (.getfield 10, 3) := by decide +kernel
theorem dX6_turns_4 : decode cX6_turns 4 = .ok (.iload_n 1, 1) := by decide +kernel
theorem dX6_turns_5 : decode cX6_turns 5 = .ok (.invokevirtual 70, 3) := by decide +kernel
theorem dX6_turns_8 : decode cX6_turns 8 = .ok (.ifCond .eq 10, 3) := by decide +kernel
theorem dX6_turns_11 : decode cX6_turns 11 = .ok (.iload_n 2, 1) := by decide +kernel
theorem dX6_turns_12 : decode cX6_turns 12 = .ok (.invokestatic 50, 3) := by decide +kernel
theorem dX6_turns_15 : decode cX6_turns 15 = .ok (.ifCond .ne 6, 3) := by decide +kernel
theorem dX6_turns_18 : decode cX6_turns 18 = .ok (.ldc 60, 2) := by decide +kernel
theorem dX6_turns_20 : decode cX6_turns 20 = .ok (.ireturn, 1) := by decide +kernel
theorem dX6_turns_21 : decode cX6_turns 21 = .ok (.aload_n 0, 1) := by decide +kernel
theorem dX6_turns_22 : decode cX6_turns 22 = .ok (.getfield 10, 3) := by decide +kernel
theorem dX6_turns_25 : decode cX6_turns 25 = .ok (.getfield 73, 3) := by decide +kernel
theorem dX6_turns_28 : decode cX6_turns 28 = .ok (.iload_n 1, 1) := by decide +kernel
theorem dX6_turns_29 : decode cX6_turns 29 = .ok (.aaload, 1) := by decide +kernel
theorem dX6_turns_30 : decode cX6_turns 30 = .ok (.getfield 102, 3) := by decide +kernel
theorem dX6_turns_33 : decode cX6_turns 33 = .ok (.istore_n 3, 1) := by decide +kernel
theorem dX6_turns_34 : decode cX6_turns 34 = .ok (.aload_n 0, 1) := by decide +kernel
theorem dX6_turns_35 : decode cX6_turns 35 = .ok (.getfield 10, 3) := by decide +kernel
theorem dX6_turns_38 : decode cX6_turns 38 = .ok (.getfield 73, 3) := by decide +kernel
theorem dX6_turns_41 : decode cX6_turns 41 = .ok (.iload_n 1, 1) := by decide +kernel
theorem dX6_turns_42 : decode cX6_turns 42 = .ok (.aaload, 1) := by decide +kernel
theorem dX6_turns_43 : decode cX6_turns 43 = .ok (.iload_n 2, 1) := by decide +kernel
theorem dX6_turns_44 : decode cX6_turns 44 = .ok (.putfield 102, 3) := by decide +kernel
theorem dX6_turns_47 : decode cX6_turns 47 = .ok (.iload_n 3, 1) := by decide +kernel
theorem dX6_turns_48 : decode cX6_turns 48 = .ok (.ireturn, 1) := by decide +kernel
theorem dX6_set_0 : decode cX6_set 0 = .ok (.aload_n 0, 1) := by decide +kernel
theorem dX6_set_1 : decode cX6_set 1 = .ok (.getfield 10, 3) := by decide +kernel
theorem dX6_set_4 : decode cX6_set 4 = .ok (.iload_n 1, 1) := by decide +kernel
theorem dX6_set_5 : decode cX6_set 5 = .ok (.invokevirtual 70, 3) := by decide +kernel
theorem dX6_set_8 : decode cX6_set 8 = .ok (.ifCond .eq 24, 3) := by decide +kernel
theorem dX6_set_11 : decode cX6_set 11 = .ok (.iload_n 2, 1) := by decide +kernel
theorem dX6_set_12 : decode cX6_set 12 = .ok (.iconst 1, 1) := by decide +kernel
theorem dX6_set_13 : decode cX6_set 13 = .ok (.iconst 4, 1) := by decide +kernel
theorem dX6_set_14 : decode cX6_set 14 = .ok (.invokestatic 56, 3) := by decide +kernel
theorem dX6_set_17 : decode cX6_set 17 = .ok (.ifCond .eq 15, 3) := by decide +kernel
theorem dX6_set_20 : decode cX6_set 20 = .ok (.iload_n 3, 1) := by decide +kernel
theorem dX6_set_21 : decode cX6_set 21 = .ok (.iconst 0, 1) := by decide +kernel
theorem dX6_set_22 : decode cX6_set 22 = .ok (.iload_n 2, 1) := by decide +kernel
theorem dX6_set_23 : decode cX6_set 23 = .ok (.invokestatic 105, 3) := by decide +kernel
theorem dX6_set_26 : decode cX6_set 26 = .ok (.invokestatic 56, 3) := by decide +kernel
theorem dX6_set_29 : decode cX6_set 29 = .ok (.ifCond .ne 6, 3) := by decide +kernel
theorem dX6_set_32 : decode cX6_set 32 = .ok (.ldc 60, 2) := by decide +kernel
theorem dX6_set_34 : decode cX6_set 34 = .ok (.ireturn, 1) := by decide +kernel
theorem dX6_set_35 : decode cX6_set 35 = .ok (.aload_n 0, 1) := by decide +kernel
theorem dX6_set_36 : decode cX6_set 36 = .ok (.getfield 10, 3) := by decide +kernel
theorem dX6_set_39 : decode cX6_set 39 = .ok (.getfield 73, 3) := by decide +kernel
theorem dX6_set_42 : decode cX6_set 42 = .ok (.iload_n 1, 1) := by decide +kernel
theorem dX6_set_43 : decode cX6_set 43 = .ok (.aaload, 1) := by decide +kernel
theorem dX6_set_44 : decode cX6_set 44 = .ok (.astore 4, 2) := by decide +kernel
theorem dX6_set_46 : decode cX6_set 46 = .ok (.aload 4, 2) := by decide +kernel
theorem dX6_set_48 : decode cX6_set 48 = .ok (.iload_n 2, 1) := by decide +kernel
theorem dX6_set_49 : decode cX6_set 49 = .ok (.invokevirtual 89, 3) := by decide +kernel
theorem dX6_set_52 : decode cX6_set 52 = .ok (.istore 5, 2) := by decide +kernel
theorem dX6_set_54 : decode cX6_set 54 = .ok (.iload_n 2, 1) := by decide +kernel
theorem dX6_set_55 : decode cX6_set 55 = .ok (.tableswitch 52 1 3 #[25, 34, 43], 25) := by decide +kernel
theorem dX6_set_80 : decode cX6_set 80 = .ok (.aload 4, 2) := by decide +kernel
theorem dX6_set_82 : decode cX6_set 82 = .ok (.iload_n 3, 1) := by decide +kernel
theorem dX6_set_83 : decode cX6_set 83 = .ok (.putfield 98, 3) := by decide +kernel
theorem dX6_set_86 : decode cX6_set 86 = .ok (.goto 27, 3) := by decide +kernel
theorem dX6_set_89 : decode cX6_set 89 = .ok (.aload 4, 2) := by decide +kernel
theorem dX6_set_91 : decode cX6_set 91 = .ok (.iload_n 3, 1) := by decide +kernel
theorem dX6_set_92 : decode cX6_set 92 = .ok (.putfield 108, 3) := by decide +kernel
theorem dX6_set_95 : decode cX6_set 95 = .ok (.goto 18, 3) := by decide +kernel
theorem dX6_set_98 : decode cX6_set 98 = .ok (.aload 4, 2) := by decide +kernel
theorem dX6_set_100 : decode cX6_set 100 = .ok (.iload_n 3, 1) := by decide +kernel
theorem dX6_set_101 : decode cX6_set 101 = .ok (.putfield 111, 3) := by decide +kernel
theorem dX6_set_104 : decode cX6_set 104 = .ok (.goto 9, 3) := by decide +kernel
theorem dX6_set_107 : decode cX6_set 107 = .ok (.aload 4, 2) := by decide +kernel
theorem dX6_set_109 : decode cX6_set 109 = .ok (.iload_n 3, 1) := by decide +kernel
theorem dX6_set_110 : decode cX6_set 110 = .ok (.putfield 114, 3) := by decide +kernel
theorem dX6_set_113 : decode cX6_set 113 = .ok (.iload 5, 2) := by decide +kernel
theorem dX6_set_115 : decode cX6_set 115 = .ok (.ireturn, 1) := by decide +kernel
theorem dX6_deal_0 : decode cX6_deal 0 = .ok (.iload_n 1, 1) := by decide +kernel
theorem dX6_deal_1 : decode cX6_deal 1 = .ok (.iconst 1, 1) := by decide +kernel
theorem dX6_deal_2 : decode cX6_deal 2 = .ok (.bipush 10, 2) := by decide +kernel
theorem dX6_deal_4 : decode cX6_deal 4 = .ok (.invokestatic 56, 3) := by decide +kernel
theorem dX6_deal_7 : decode cX6_deal 7 = .ok (.ifCond .ne 6, 3) := by decide +kernel
theorem dX6_deal_10 : decode cX6_deal 10 = .ok (.ldc 60, 2) := by decide +kernel
theorem dX6_deal_12 : decode cX6_deal 12 = .ok (.ireturn, 1) := by decide +kernel
theorem dX6_deal_13 : decode cX6_deal 13 = .ok (.iload_n 1, 1) := by decide +kernel
theorem dX6_deal_14 : decode cX6_deal 14 = .ok (.bipush 10, 2) := by decide +kernel
theorem dX6_deal_16 : decode cX6_deal 16 = .ok (.aload_n 0, 1) := by decide +kernel
theorem dX6_deal_17 : decode cX6_deal 17 = .ok (.getfield 10, 3) := by decide +kernel
theorem dX6_deal_20 : decode cX6_deal 20 = .ok (.getfield 61, 3) := by decide +kernel
theorem dX6_deal_23 : decode cX6_deal 23 = .ok (.isub, 1) := by decide +kernel
theorem dX6_deal_24 : decode cX6_deal 24 = .ok (.invokestatic 117, 3) := by decide +kernel
theorem dX6_deal_27 : decode cX6_deal 27 = .ok (.istore_n 2, 1) := by decide +kernel
theorem dX6_deal_28 : decode cX6_deal 28 = .ok (.iconst 0, 1) := by decide +kernel
theorem dX6_deal_29 : decode cX6_deal 29 = .ok (.istore_n 3, 1) := by decide +kernel
theorem dX6_deal_30 : decode cX6_deal 30 = .ok (.iload_n 3, 1) := by decide +kernel
theorem dX6_deal_31 : decode cX6_deal 31 = .ok (.iload_n 2, 1) := by decide +kernel
theorem dX6_deal_32 : decode cX6_deal 32 = .ok (.if_icmp .ge 68, 3) := by decide +kernel
theorem dX6_deal_35 : decode cX6_deal 35 = .ok (.aload_n 0, 1) := by decide +kernel
theorem dX6_deal_36 : decode cX6_deal 36 = .ok (.getfield 10, 3) := by decide +kernel
theorem dX6_deal_39 : decode cX6_deal 39 = .ok (.invokevirtual 123, 3) := by decide +kernel
theorem dX6_deal_42 : decode cX6_deal 42 = .ok (.bipush 6, 2) := by decide +kernel
theorem dX6_deal_44 : decode cX6_deal 44 = .ok (.irem, 1) := by decide +kernel
theorem dX6_deal_45 : decode cX6_deal 45 = .ok (.istore 4, 2) := by decide +kernel
theorem dX6_deal_47 : decode cX6_deal 47 = .ok (.aload_n 0, 1) := by decide +kernel
theorem dX6_deal_48 : decode cX6_deal 48 = .ok (.getfield 10, 3) := by decide +kernel
theorem dX6_deal_51 : decode cX6_deal 51 = .ok (.invokevirtual 123, 3) := by decide +kernel
theorem dX6_deal_54 : decode cX6_deal 54 = .ok (.bipush 60, 2) := by decide +kernel
theorem dX6_deal_56 : decode cX6_deal 56 = .ok (.irem, 1) := by decide +kernel
theorem dX6_deal_57 : decode cX6_deal 57 = .ok (.istore 5, 2) := by decide +kernel
theorem dX6_deal_59 : decode cX6_deal 59 = .ok (.aload_n 0, 1) := by decide +kernel
theorem dX6_deal_60 : decode cX6_deal 60 = .ok (.getfield 10, 3) := by decide +kernel
theorem dX6_deal_63 : decode cX6_deal 63 = .ok (.invokevirtual 123, 3) := by decide +kernel
theorem dX6_deal_66 : decode cX6_deal 66 = .ok (.bipush 80, 2) := by decide +kernel
theorem dX6_deal_68 : decode cX6_deal 68 = .ok (.irem, 1) := by decide +kernel
theorem dX6_deal_69 : decode cX6_deal 69 = .ok (.istore 6, 2) := by decide +kernel
theorem dX6_deal_71 : decode cX6_deal 71 = .ok (.aload_n 0, 1) := by decide +kernel
theorem dX6_deal_72 : decode cX6_deal 72 = .ok (.getfield 10, 3) := by decide +kernel
theorem dX6_deal_75 : decode cX6_deal 75 = .ok (.iload 4, 2) := by decide +kernel
theorem dX6_deal_77 : decode cX6_deal 77 = .ok (.iload 5, 2) := by decide +kernel
theorem dX6_deal_79 : decode cX6_deal 79 = .ok (.iload 6, 2) := by decide +kernel
theorem dX6_deal_81 : decode cX6_deal 81 = .ok (.aload_n 0, 1) := by decide +kernel
theorem dX6_deal_82 : decode cX6_deal 82 = .ok (.getfield 10, 3) := by decide +kernel
theorem dX6_deal_85 : decode cX6_deal 85 = .ok (.invokevirtual 123, 3) := by decide +kernel
theorem dX6_deal_88 : decode cX6_deal 88 = .ok (.bipush 40, 2) := by decide +kernel
theorem dX6_deal_90 : decode cX6_deal 90 = .ok (.irem, 1) := by decide +kernel
theorem dX6_deal_91 : decode cX6_deal 91 = .ok (.invokevirtual 66, 3) := by decide +kernel
theorem dX6_deal_94 : decode cX6_deal 94 = .ok (.iinc 3 1, 3) := by decide +kernel
theorem dX6_deal_97 : decode cX6_deal 97 = .ok (.goto (-67), 3) := by decide +kernel
theorem dX6_deal_100 : decode cX6_deal 100 = .ok (.iload_n 2, 1) := by decide +kernel
theorem dX6_deal_101 : decode cX6_deal 101 = .ok (.ireturn, 1) := by decide +kernel
theorem dX6_seed_0 : decode cX6_seed 0 = .ok (.aload_n 0, 1) := by decide +kernel
theorem dX6_seed_1 : decode cX6_seed 1 = .ok (.getfield 10, 3) := by decide +kernel
theorem dX6_seed_4 : decode cX6_seed 4 = .ok (.getfield 126, 3) := by decide +kernel
theorem dX6_seed_7 : decode cX6_seed 7 = .ok (.istore_n 2, 1) := by decide +kernel
theorem dX6_seed_8 : decode cX6_seed 8 = .ok (.aload_n 0, 1) := by decide +kernel
theorem dX6_seed_9 : decode cX6_seed 9 = .ok (.getfield 10, 3) := by decide +kernel
theorem dX6_seed_12 : decode cX6_seed 12 = .ok (.iload_n 1, 1) := by decide +kernel
theorem dX6_seed_13 : decode cX6_seed 13 = .ok (.putfield 126, 3) := by decide +kernel
theorem dX6_seed_16 : decode cX6_seed 16 = .ok (.iload_n 2, 1) := by decide +kernel
theorem dX6_seed_17 : decode cX6_seed 17 = .ok (.ireturn, 1) := by decide +kernel
theorem dX6_rule_0 : decode cX6_rule 0 = .ok (.iload_n 1, 1) := by decide +kernel
theorem dX6_rule_1 : decode cX6_rule 1 = .ok (.ifCond .ne 31, 3) := by decide +kernel
theorem dX6_rule_4 : decode cX6_rule 4 = .ok (.iload_n 2, 1) := by decide +kernel
theorem dX6_rule_5 : decode cX6_rule 5 = .ok (.iconst 0, 1) := by decide +kernel
theorem dX6_rule_6 : decode cX6_rule 6 = .ok (.iconst 2, 1) := by decide +kernel
theorem dX6_rule_7 : decode cX6_rule 7 = .ok (.invokestatic 56, 3) := by decide +kernel
theorem dX6_rule_10 : decode cX6_rule 10 = .ok (.ifCond .eq 22, 3) := by decide +kernel
theorem dX6_rule_13 : decode cX6_rule 13 = .ok (.aload_n 0, 1) := by decide +kernel
theorem dX6_rule_14 : decode cX6_rule 14 = .ok (.getfield 10, 3) := by decide +kernel
theorem dX6_rule_17 : decode cX6_rule 17 = .ok (.getfield 129, 3) := by decide +kernel
theorem dX6_rule_20 : decode cX6_rule 20 = .ok (.istore_n 3, 1) := by decide +kernel
theorem dX6_rule_21 : decode cX6_rule 21 = .ok (.aload_n 0, 1) := by decide +kernel
theorem dX6_rule_22 : decode cX6_rule 22 = .ok (.getfield 10, 3) := by decide +kernel
theorem dX6_rule_25 : decode cX6_rule 25 = .ok (.iload_n 2, 1) := by decide +kernel
theorem dX6_rule_26 : decode cX6_rule 26 = .ok (.putfield 129, 3) := by decide +kernel
theorem dX6_rule_29 : decode cX6_rule 29 = .ok (.goto 76, 3) := by decide +kernel
theorem dX6_rule_32 : decode cX6_rule 32 = .ok (.iload_n 1, 1) := by decide +kernel
theorem dX6_rule_33 : decode cX6_rule 33 = .ok (.iconst 1, 1) := by decide +kernel
theorem dX6_rule_34 : decode cX6_rule 34 = .ok (.if_icmp .ne 32, 3) := by decide +kernel
theorem dX6_rule_37 : decode cX6_rule 37 = .ok (.iload_n 2, 1) := by decide +kernel
theorem dX6_rule_38 : decode cX6_rule 38 = .ok (.iconst 0, 1) := by decide +kernel
theorem dX6_rule_39 : decode cX6_rule 39 = .ok (.bipush 9, 2) := by decide +kernel
theorem dX6_rule_41 : decode cX6_rule 41 = .ok (.invokestatic 56, 3) := by decide +kernel
theorem dX6_rule_44 : decode cX6_rule 44 = .ok (.ifCond .eq 22, 3) := by decide +kernel
theorem dX6_rule_47 : decode cX6_rule 47 = .ok (.aload_n 0, 1) := by decide +kernel
theorem dX6_rule_48 : decode cX6_rule 48 = .ok (.getfield 10, 3) := by decide +kernel
theorem dX6_rule_51 : decode cX6_rule 51 = .ok (.getfield 132, 3) := by decide +kernel
theorem dX6_rule_54 : decode cX6_rule 54 = .ok (.istore_n 3, 1) := by decide +kernel
theorem dX6_rule_55 : decode cX6_rule 55 = .ok (.aload_n 0, 1) := by decide +kernel
theorem dX6_rule_56 : decode cX6_rule 56 = .ok (.getfield 10, 3) := by decide +kernel
theorem dX6_rule_59 : decode cX6_rule 59 = .ok (.iload_n 2, 1) := by decide +kernel
theorem dX6_rule_60 : decode cX6_rule 60 = .ok (.putfield 132, 3) := by decide +kernel
theorem dX6_rule_63 : decode cX6_rule 63 = .ok (.goto 42, 3) := by decide +kernel
theorem dX6_rule_66 : decode cX6_rule 66 = .ok (.iload_n 1, 1) := by decide +kernel
theorem dX6_rule_67 : decode cX6_rule 67 = .ok (.iconst 2, 1) := by decide +kernel
theorem dX6_rule_68 : decode cX6_rule 68 = .ok (.if_icmp .ne 34, 3) := by decide +kernel
theorem dX6_rule_71 : decode cX6_rule 71 = .ok (.iload_n 2, 1) := by decide +kernel
theorem dX6_rule_72 : decode cX6_rule 72 = .ok (.bipush 60, 2) := by decide +kernel
theorem dX6_rule_74 : decode cX6_rule 74 = .ok (.sipush 999, 3) := by decide +kernel
theorem dX6_rule_77 : decode cX6_rule 77 = .ok (.invokestatic 56, 3) := by decide +kernel
theorem dX6_rule_80 : decode cX6_rule 80 = .ok (.ifCond .eq 22, 3) := by decide +kernel
theorem dX6_rule_83 : decode cX6_rule 83 = .ok (.aload_n 0, 1) := by decide +kernel
theorem dX6_rule_84 : decode cX6_rule 84 = .ok (.getfield 10, 3) := by decide +kernel
theorem dX6_rule_87 : decode cX6_rule 87 = .ok (.getfield 135, 3) := by decide +kernel
theorem dX6_rule_90 : decode cX6_rule 90 = .ok (.istore_n 3, 1) := by decide +kernel
theorem dX6_rule_91 : decode cX6_rule 91 = .ok (.aload_n 0, 1) := by decide +kernel
theorem dX6_rule_92 : decode cX6_rule 92 = .ok (.getfield 10, 3) := by decide +kernel
theorem dX6_rule_95 : decode cX6_rule 95 = .ok (.iload_n 2, 1) := by decide +kernel
theorem dX6_rule_96 : decode cX6_rule 96 = .ok (.putfield 135, 3) := by decide +kernel
theorem dX6_rule_99 : decode cX6_rule 99 = .ok (.goto 6, 3) := by decide +kernel
theorem dX6_rule_102 : decode cX6_rule 102 = .ok (.ldc 60, 2) := by decide +kernel
theorem dX6_rule_104 : decode cX6_rule 104 = .ok (.istore_n 3, 1) := by decide +kernel
theorem dX6_rule_105 : decode cX6_rule 105 = .ok (.iload_n 3, 1) := by decide +kernel
theorem dX6_rule_106 : decode cX6_rule 106 = .ok (.ireturn, 1) := by decide +kernel
theorem dX6_order_0 : decode cX6_order 0 = .ok (.aload_n 0, 1) := by decide +kernel
theorem dX6_order_1 : decode cX6_order 1 = .ok (.getfield 10, 3) := by decide +kernel
theorem dX6_order_4 : decode cX6_order 4 = .ok (.iload_n 1, 1) := by decide +kernel
theorem dX6_order_5 : decode cX6_order 5 = .ok (.invokevirtual 70, 3) := by decide +kernel
theorem dX6_order_8 : decode cX6_order 8 = .ok (.ifCond .ne 6, 3) := by decide +kernel
theorem dX6_order_11 : decode cX6_order 11 = .ok (.ldc 60, 2) := by decide +kernel
theorem dX6_order_13 : decode cX6_order 13 = .ok (.ireturn, 1) := by decide +kernel
theorem dX6_order_14 : decode cX6_order 14 = .ok (.aload_n 0, 1) := by decide +kernel
theorem dX6_order_15 : decode cX6_order 15 = .ok (.getfield 10, 3) := by decide +kernel
theorem dX6_order_18 : decode cX6_order 18 = .ok (.invokevirtual 138, 3) := by decide +kernel
theorem dX6_order_21 : decode cX6_order 21 = .ok (.aload_n 0, 1) := by decide +kernel
theorem dX6_order_22 : decode cX6_order 22 = .ok (.getfield 10, 3) := by decide +kernel
theorem dX6_order_25 : decode cX6_order 25 = .ok (.getfield 141, 3) := by decide +kernel
theorem dX6_order_28 : decode cX6_order 28 = .ok (.iload_n 1, 1) := by decide +kernel
theorem dX6_order_29 : decode cX6_order 29 = .ok (.iaload, 1) := by decide +kernel
theorem dX6_order_30 : decode cX6_order 30 = .ok (.ireturn, 1) := by decide +kernel
theorem dX6_nights_0 : decode cX6_nights 0 = .ok (.iload_n 1, 1) := by decide +kernel
theorem dX6_nights_1 : decode cX6_nights 1 = .ok (.iconst 1, 1) := by decide +kernel
theorem dX6_nights_2 : decode cX6_nights 2 = .ok (.bipush 100, 2) := by decide +kernel
theorem dX6_nights_4 : decode cX6_nights 4 = .ok (.invokestatic 56, 3) := by decide +kernel
theorem dX6_nights_7 : decode cX6_nights 7 = .ok (.ifCond .ne 6, 3) := by decide +kernel
theorem dX6_nights_10 : decode cX6_nights 10 = .ok (.ldc 60, 2) := by decide +kernel
theorem dX6_nights_12 : decode cX6_nights 12 = .ok (.ireturn, 1) := by decide +kernel
theorem dX6_nights_13 : decode cX6_nights 13 = .ok (.aload_n 0, 1) := by decide +kernel
theorem dX6_nights_14 : decode cX6_nights 14 = .ok (.getfield 10, 3) := by decide +kernel
theorem dX6_nights_17 : decode cX6_nights 17 = .ok (.getfield 144, 3) := by decide +kernel
theorem dX6_nights_20 : decode cX6_nights 20 = .ok (.istore_n 2, 1) := by decide +kernel
theorem dX6_nights_21 : decode cX6_nights 21 = .ok (.aload_n 0, 1) := by decide +kernel
theorem dX6_nights_22 : decode cX6_nights 22 = .ok (.getfield 10, 3) := by decide +kernel
theorem dX6_nights_25 : decode cX6_nights 25 = .ok (.iload_n 1, 1) := by decide +kernel
theorem dX6_nights_26 : decode cX6_nights 26 = .ok (.sipush 9999, 3) := by decide +kernel
theorem dX6_nights_29 : decode cX6_nights 29 = .ok (.aload_n 0, 1) := by decide +kernel
theorem dX6_nights_30 : decode cX6_nights 30 = .ok (.getfield 10, 3) := by decide +kernel
theorem dX6_nights_33 : decode cX6_nights 33 = .ok (.getfield 147, 3) := by decide +kernel
theorem dX6_nights_36 : decode cX6_nights 36 = .ok (.isub, 1) := by decide +kernel
theorem dX6_nights_37 : decode cX6_nights 37 = .ok (.invokestatic 117, 3) := by decide +kernel
theorem dX6_nights_40 : decode cX6_nights 40 = .ok (.iconst (-1), 1) := by decide +kernel
theorem dX6_nights_41 : decode cX6_nights 41 = .ok (.invokevirtual 150, 3) := by decide +kernel
theorem dX6_nights_44 : decode cX6_nights 44 = .ok (.aload_n 0, 1) := by decide +kernel
theorem dX6_nights_45 : decode cX6_nights 45 = .ok (.getfield 10, 3) := by decide +kernel
theorem dX6_nights_48 : decode cX6_nights 48 = .ok (.getfield 144, 3) := by decide +kernel
theorem dX6_nights_51 : decode cX6_nights 51 = .ok (.iload_n 2, 1) := by decide +kernel
theorem dX6_nights_52 : decode cX6_nights 52 = .ok (.isub, 1) := by decide +kernel
theorem dX6_nights_53 : decode cX6_nights 53 = .ok (.ireturn, 1) := by decide +kernel
theorem dX6_way_0 : decode cX6_way 0 = .ok (.aload_n 0, 1) := by decide +kernel
theorem dX6_way_1 : decode cX6_way 1 = .ok (.getfield 10, 3) := by decide +kernel
theorem dX6_way_4 : decode cX6_way 4 = .ok (.invokevirtual 154, 3) := by decide +kernel
theorem dX6_way_7 : decode cX6_way 7 = .ok (.ireturn, 1) := by decide +kernel
theorem dX6_dark_0 : decode cX6_dark 0 = .ok (.iload_n 1, 1) := by decide +kernel
theorem dX6_dark_1 : decode cX6_dark 1 = .ok (.iconst 0, 1) := by decide +kernel
theorem dX6_dark_2 : decode cX6_dark 2 = .ok (.sipush 9999, 3) := by decide +kernel
theorem dX6_dark_5 : decode cX6_dark 5 = .ok (.invokestatic 56, 3) := by decide +kernel
theorem dX6_dark_8 : decode cX6_dark 8 = .ok (.ifCond .eq 14, 3) := by decide +kernel
theorem dX6_dark_11 : decode cX6_dark 11 = .ok (.aload_n 0, 1) := by decide +kernel
theorem dX6_dark_12 : decode cX6_dark 12 = .ok (.getfield 10, 3) := by decide +kernel
theorem dX6_dark_15 : decode cX6_dark 15 = .ok (.iload_n 1, 1) := by decide +kernel
theorem dX6_dark_16 : decode cX6_dark 16 = .ok (.invokevirtual 157, 3) := by decide +kernel
theorem dX6_dark_19 : decode cX6_dark 19 = .ok (.goto 5, 3) := by decide +kernel
theorem dX6_dark_22 : decode cX6_dark 22 = .ok (.ldc 60, 2) := by decide +kernel
theorem dX6_dark_24 : decode cX6_dark 24 = .ok (.ireturn, 1) := by decide +kernel
theorem dX6_street_0 : decode cX6_street 0 = .ok (.iload_n 1, 1) := by decide +kernel
theorem dX6_street_1 : decode cX6_street 1 = .ok (.tableswitch 67 0 3 #[31, 39, 49, 58], 31) := by decide +kernel
theorem dX6_street_32 : decode cX6_street 32 = .ok (.aload_n 0, 1) := by decide +kernel
theorem dX6_street_33 : decode cX6_street 33 = .ok (.getfield 10, 3) := by decide +kernel
theorem dX6_street_36 : decode cX6_street 36 = .ok (.getfield 144, 3) := by decide +kernel
theorem dX6_street_39 : decode cX6_street 39 = .ok (.ireturn, 1) := by decide +kernel
theorem dX6_street_40 : decode cX6_street 40 = .ok (.aload_n 0, 1) := by decide +kernel
theorem dX6_street_41 : decode cX6_street 41 = .ok (.getfield 10, 3) := by decide +kernel
theorem dX6_street_44 : decode cX6_street 44 = .ok (.bipush 6, 2) := by decide +kernel
theorem dX6_street_46 : decode cX6_street 46 = .ok (.invokevirtual 160, 3) := by decide +kernel
theorem dX6_street_49 : decode cX6_street 49 = .ok (.ireturn, 1) := by decide +kernel
theorem dX6_street_50 : decode cX6_street 50 = .ok (.aload_n 0, 1) := by decide +kernel
theorem dX6_street_51 : decode cX6_street 51 = .ok (.getfield 10, 3) := by decide +kernel
theorem dX6_street_54 : decode cX6_street 54 = .ok (.iconst 2, 1) := by decide +kernel
theorem dX6_street_55 : decode cX6_street 55 = .ok (.invokevirtual 160, 3) := by decide +kernel
theorem dX6_street_58 : decode cX6_street 58 = .ok (.ireturn, 1) := by decide +kernel
theorem dX6_street_59 : decode cX6_street 59 = .ok (.aload_n 0, 1) := by decide +kernel
theorem dX6_street_60 : decode cX6_street 60 = .ok (.getfield 10, 3) := by decide +kernel
theorem dX6_street_63 : decode cX6_street 63 = .ok (.iconst 3, 1) := by decide +kernel
theorem dX6_street_64 : decode cX6_street 64 = .ok (.invokevirtual 160, 3) := by decide +kernel
theorem dX6_street_67 : decode cX6_street 67 = .ok (.ireturn, 1) := by decide +kernel
theorem dX6_street_68 : decode cX6_street 68 = .ok (.ldc 60, 2) := by decide +kernel
theorem dX6_street_70 : decode cX6_street 70 = .ok (.ireturn, 1) := by decide +kernel
theorem dX6_behind_0 : decode cX6_behind 0 = .ok (.iload_n 1, 1) := by decide +kernel
theorem dX6_behind_1 : decode cX6_behind 1 = .ok (.iconst 0, 1) := by decide +kernel
theorem dX6_behind_2 : decode cX6_behind 2 = .ok (.bipush 100, 2) := by decide +kernel
theorem dX6_behind_4 : decode cX6_behind 4 = .ok (.invokestatic 56, 3) := by decide +kernel
theorem dX6_behind_7 : decode cX6_behind 7 = .ok (.ifCond .eq 12, 3) := by decide +kernel
theorem dX6_behind_10 : decode cX6_behind 10 = .ok (.iload_n 2, 1) := by decide +kernel
theorem dX6_behind_11 : decode cX6_behind 11 = .ok (.iconst 0, 1) := by decide +kernel
theorem dX6_behind_12 : decode cX6_behind 12 = .ok (.iconst 3, 1) := by decide +kernel
theorem dX6_behind_13 : decode cX6_behind 13 = .ok (.invokestatic 56, 3) := by decide +kernel
theorem dX6_behind_16 : decode cX6_behind 16 = .ok (.ifCond .ne 6, 3) := by decide +kernel
theorem dX6_behind_19 : decode cX6_behind 19 = .ok (.ldc 60, 2) := by decide +kernel
theorem dX6_behind_21 : decode cX6_behind 21 = .ok (.ireturn, 1) := by decide +kernel
theorem dX6_behind_22 : decode cX6_behind 22 = .ok (.aload_n 0, 1) := by decide +kernel
theorem dX6_behind_23 : decode cX6_behind 23 = .ok (.getfield 19, 3) := by decide +kernel
theorem dX6_behind_26 : decode cX6_behind 26 = .ok (.aload_n 0, 1) := by decide +kernel
theorem dX6_behind_27 : decode cX6_behind 27 = .ok (.getfield 10, 3) := by decide +kernel
theorem dX6_behind_30 : decode cX6_behind 30 = .ok (.invokevirtual 163, 3) := by decide +kernel
theorem dX6_behind_33 : decode cX6_behind 33 = .ok (.aload_n 0, 1) := by decide +kernel
theorem dX6_behind_34 : decode cX6_behind 34 = .ok (.getfield 19, 3) := by decide +kernel
theorem dX6_behind_37 : decode cX6_behind 37 = .ok (.iload_n 1, 1) := by decide +kernel
theorem dX6_behind_38 : decode cX6_behind 38 = .ok (.iconst (-1), 1) := by decide +kernel
theorem dX6_behind_39 : decode cX6_behind 39 = .ok (.invokevirtual 150, 3) := by decide +kernel
theorem dX6_behind_42 : decode cX6_behind 42 = .ok (.iload_n 2, 1) := by decide +kernel
theorem dX6_behind_43 : decode cX6_behind 43 = .ok (.tableswitch 52 0 2 #[25, 33, 43], 25) := by decide +kernel
theorem dX6_behind_68 : decode cX6_behind 68 = .ok (.aload_n 0, 1) := by decide +kernel
theorem dX6_behind_69 : decode cX6_behind 69 = .ok (.getfield 19, 3) := by decide +kernel
theorem dX6_behind_72 : decode cX6_behind 72 = .ok (.getfield 144, 3) := by decide +kernel
theorem dX6_behind_75 : decode cX6_behind 75 = .ok (.ireturn, 1) := by decide +kernel
theorem dX6_behind_76 : decode cX6_behind 76 = .ok (.aload_n 0, 1) := by decide +kernel
theorem dX6_behind_77 : decode cX6_behind 77 = .ok (.getfield 19, 3) := by decide +kernel
theorem dX6_behind_80 : decode cX6_behind 80 = .ok (.bipush 6, 2) := by decide +kernel
theorem dX6_behind_82 : decode cX6_behind 82 = .ok (.invokevirtual 160, 3) := by decide +kernel
theorem dX6_behind_85 : decode cX6_behind 85 = .ok (.ireturn, 1) := by decide +kernel
theorem dX6_behind_86 : decode cX6_behind 86 = .ok (.aload_n 0, 1) := by decide +kernel
theorem dX6_behind_87 : decode cX6_behind 87 = .ok (.getfield 19, 3) := by decide +kernel
theorem dX6_behind_90 : decode cX6_behind 90 = .ok (.iconst 2, 1) := by decide +kernel
theorem dX6_behind_91 : decode cX6_behind 91 = .ok (.invokevirtual 160, 3) := by decide +kernel
theorem dX6_behind_94 : decode cX6_behind 94 = .ok (.ireturn, 1) := by decide +kernel
theorem dX6_behind_95 : decode cX6_behind 95 = .ok (.aload_n 0, 1) := by decide +kernel
theorem dX6_behind_96 : decode cX6_behind 96 = .ok (.getfield 19, 3) := by decide +kernel
theorem dX6_behind_99 : decode cX6_behind 99 = .ok (.invokevirtual 167, 3) := by decide +kernel
theorem dX6_behind_102 : decode cX6_behind 102 = .ok (.ireturn, 1) := by decide +kernel
theorem dX6_round_0 : decode cX6_round 0 = .ok (.aload_n 0, 1) := by decide +kernel
theorem dX6_round_1 : decode cX6_round 1 = .ok (.getfield 10, 3) := by decide +kernel
theorem dX6_round_4 : decode cX6_round 4 = .ok (.invokevirtual 138, 3) := by decide +kernel
theorem dX6_round_7 : decode cX6_round 7 = .ok (.aload_n 0, 1) := by decide +kernel
theorem dX6_round_8 : decode cX6_round 8 = .ok (.getfield 19, 3) := by decide +kernel
theorem dX6_round_11 : decode cX6_round 11 = .ok (.aload_n 0, 1) := by decide +kernel
theorem dX6_round_12 : decode cX6_round 12 = .ok (.getfield 10, 3) := by decide +kernel
theorem dX6_round_15 : decode cX6_round 15 = .ok (.invokevirtual 163, 3) := by decide +kernel
theorem dX6_round_18 : decode cX6_round 18 = .ok (.iconst 1, 1) := by decide +kernel
theorem dX6_round_19 : decode cX6_round 19 = .ok (.istore_n 1, 1) := by decide +kernel
theorem dX6_round_20 : decode cX6_round 20 = .ok (.iload_n 1, 1) := by decide +kernel
theorem dX6_round_21 : decode cX6_round 21 = .ok (.sipush 200, 3) := by decide +kernel
theorem dX6_round_24 : decode cX6_round 24 = .ok (.if_icmp .gt 40, 3) := by decide +kernel
theorem dX6_round_27 : decode cX6_round 27 = .ok (.aload_n 0, 1) := by decide +kernel
theorem dX6_round_28 : decode cX6_round 28 = .ok (.getfield 19, 3) := by decide +kernel
theorem dX6_round_31 : decode cX6_round 31 = .ok (.iconst (-1), 1) := by decide +kernel
theorem dX6_round_32 : decode cX6_round 32 = .ok (.invokevirtual 170, 3) := by decide +kernel
theorem dX6_round_35 : decode cX6_round 35 = .ok (.aload_n 0, 1) := by decide +kernel
theorem dX6_round_36 : decode cX6_round 36 = .ok (.getfield 19, 3) := by decide +kernel
theorem dX6_round_39 : decode cX6_round 39 = .ok (.invokevirtual 138, 3) := by decide +kernel
theorem dX6_round_42 : decode cX6_round 42 = .ok (.aload_n 0, 1) := by decide +kernel
theorem dX6_round_43 : decode cX6_round 43 = .ok (.getfield 19, 3) := by decide +kernel
theorem dX6_round_46 : decode cX6_round 46 = .ok (.aload_n 0, 1) := by decide +kernel
theorem dX6_round_47 : decode cX6_round 47 = .ok (.getfield 10, 3) := by decide +kernel
theorem dX6_round_50 : decode cX6_round 50 = .ok (.invokevirtual 174, 3) := by decide +kernel
theorem dX6_round_53 : decode cX6_round 53 = .ok (.ifCond .eq 5, 3) := by decide +kernel
theorem dX6_round_56 : decode cX6_round 56 = .ok (.iload_n 1, 1) := by decide +kernel
theorem dX6_round_57 : decode cX6_round 57 = .ok (.ireturn, 1) := by decide +kernel
theorem dX6_round_58 : decode cX6_round 58 = .ok (.iinc 1 1, 3) := by decide +kernel
theorem dX6_round_61 : decode cX6_round 61 = .ok (.goto (-41), 3) := by decide +kernel
theorem dX6_round_64 : decode cX6_round 64 = .ok (.ldc 178, 2) := by decide +kernel
theorem dX6_round_66 : decode cX6_round 66 = .ok (.ireturn, 1) := by decide +kernel
theorem dX6_first_0 : decode cX6_first 0 = .ok (.aload_n 0, 1) := by decide +kernel
theorem dX6_first_1 : decode cX6_first 1 = .ok (.getfield 10, 3) := by decide +kernel
theorem dX6_first_4 : decode cX6_first 4 = .ok (.iload_n 1, 1) := by decide +kernel
theorem dX6_first_5 : decode cX6_first 5 = .ok (.invokevirtual 70, 3) := by decide +kernel
theorem dX6_first_8 : decode cX6_first 8 = .ok (.ifCond .eq 13, 3) := by decide +kernel
theorem dX6_first_11 : decode cX6_first 11 = .ok (.iload_n 2, 1) := by decide +kernel
theorem dX6_first_12 : decode cX6_first 12 = .ok (.iconst 1, 1) := by decide +kernel
theorem dX6_first_13 : decode cX6_first 13 = .ok (.bipush 20, 2) := by decide +kernel
theorem dX6_first_15 : decode cX6_first 15 = .ok (.invokestatic 56, 3) := by decide +kernel
theorem dX6_first_18 : decode cX6_first 18 = .ok (.ifCond .ne 6, 3) := by decide +kernel
theorem dX6_first_21 : decode cX6_first 21 = .ok (.ldc 60, 2) := by decide +kernel
theorem dX6_first_23 : decode cX6_first 23 = .ok (.ireturn, 1) := by decide +kernel
theorem dX6_first_24 : decode cX6_first 24 = .ok (.iconst 0, 1) := by decide +kernel
theorem dX6_first_25 : decode cX6_first 25 = .ok (.istore_n 3, 1) := by decide +kernel
theorem dX6_first_26 : decode cX6_first 26 = .ok (.iload_n 3, 1) := by decide +kernel
theorem dX6_first_27 : decode cX6_first 27 = .ok (.bipush 99, 2) := by decide +kernel
theorem dX6_first_29 : decode cX6_first 29 = .ok (.if_icmp .gt 55, 3) := by decide +kernel
theorem dX6_first_32 : decode cX6_first 32 = .ok (.aload_n 0, 1) := by decide +kernel
theorem dX6_first_33 : decode cX6_first 33 = .ok (.getfield 19, 3) := by decide +kernel
theorem dX6_first_36 : decode cX6_first 36 = .ok (.aload_n 0, 1) := by decide +kernel
theorem dX6_first_37 : decode cX6_first 37 = .ok (.getfield 10, 3) := by decide +kernel
theorem dX6_first_40 : decode cX6_first 40 = .ok (.invokevirtual 163, 3) := by decide +kernel
theorem dX6_first_43 : decode cX6_first 43 = .ok (.aload_n 0, 1) := by decide +kernel
theorem dX6_first_44 : decode cX6_first 44 = .ok (.getfield 19, 3) := by decide +kernel
theorem dX6_first_47 : decode cX6_first 47 = .ok (.getfield 73, 3) := by decide +kernel
theorem dX6_first_50 : decode cX6_first 50 = .ok (.iload_n 1, 1) := by decide +kernel
theorem dX6_first_51 : decode cX6_first 51 = .ok (.aaload, 1) := by decide +kernel
theorem dX6_first_52 : decode cX6_first 52 = .ok (.iload_n 3, 1) := by decide +kernel
theorem dX6_first_53 : decode cX6_first 53 = .ok (.putfield 111, 3) := by decide +kernel
theorem dX6_first_56 : decode cX6_first 56 = .ok (.aload_n 0, 1) := by decide +kernel
theorem dX6_first_57 : decode cX6_first 57 = .ok (.getfield 19, 3) := by decide +kernel
theorem dX6_first_60 : decode cX6_first 60 = .ok (.iload_n 2, 1) := by decide +kernel
theorem dX6_first_61 : decode cX6_first 61 = .ok (.iconst (-1), 1) := by decide +kernel
theorem dX6_first_62 : decode cX6_first 62 = .ok (.invokevirtual 150, 3) := by decide +kernel
theorem dX6_first_65 : decode cX6_first 65 = .ok (.aload_n 0, 1) := by decide +kernel
theorem dX6_first_66 : decode cX6_first 66 = .ok (.getfield 19, 3) := by decide +kernel
theorem dX6_first_69 : decode cX6_first 69 = .ok (.invokevirtual 167, 3) := by decide +kernel
theorem dX6_first_72 : decode cX6_first 72 = .ok (.iload_n 1, 1) := by decide +kernel
theorem dX6_first_73 : decode cX6_first 73 = .ok (.if_icmp .ne 5, 3) := by decide +kernel
theorem dX6_first_76 : decode cX6_first 76 = .ok (.iload_n 3, 1) := by decide +kernel
theorem dX6_first_77 : decode cX6_first 77 = .ok (.ireturn, 1) := by decide +kernel
theorem dX6_first_78 : decode cX6_first 78 = .ok (.iinc 3 1, 3) := by decide +kernel
theorem dX6_first_81 : decode cX6_first 81 = .ok (.goto (-55), 3) := by decide +kernel
theorem dX6_first_84 : decode cX6_first 84 = .ok (.ldc 178, 2) := by decide +kernel
theorem dX6_first_86 : decode cX6_first 86 = .ok (.ireturn, 1) := by decide +kernel
theorem dX6_leastLaw_0 : decode cX6_leastLaw 0 = .ok (.iload_n 1, 1) := by decide +kernel
theorem dX6_leastLaw_1 : decode cX6_leastLaw 1 = .ok (.iconst 1, 1) := by decide +kernel
theorem dX6_leastLaw_2 : decode cX6_leastLaw 2 = .ok (.bipush 60, 2) := by decide +kernel
theorem dX6_leastLaw_4 : decode cX6_leastLaw 4 = .ok (.invokestatic 56, 3) := by decide +kernel
theorem dX6_leastLaw_7 : decode cX6_leastLaw 7 = .ok (.ifCond .eq 12, 3) := by decide +kernel
theorem dX6_leastLaw_10 : decode cX6_leastLaw 10 = .ok (.iload_n 2, 1) := by decide +kernel
theorem dX6_leastLaw_11 : decode cX6_leastLaw 11 = .ok (.iconst 0, 1) := by decide +kernel
theorem dX6_leastLaw_12 : decode cX6_leastLaw 12 = .ok (.iconst 1, 1) := by decide +kernel
theorem dX6_leastLaw_13 : decode cX6_leastLaw 13 = .ok (.invokestatic 56, 3) := by decide +kernel
theorem dX6_leastLaw_16 : decode cX6_leastLaw 16 = .ok (.ifCond .ne 6, 3) := by decide +kernel
theorem dX6_leastLaw_19 : decode cX6_leastLaw 19 = .ok (.ldc 60, 2) := by decide +kernel
theorem dX6_leastLaw_21 : decode cX6_leastLaw 21 = .ok (.ireturn, 1) := by decide +kernel
theorem dX6_leastLaw_22 : decode cX6_leastLaw 22 = .ok (.iconst 0, 1) := by decide +kernel
theorem dX6_leastLaw_23 : decode cX6_leastLaw 23 = .ok (.istore_n 3, 1) := by decide +kernel
theorem dX6_leastLaw_24 : decode cX6_leastLaw 24 = .ok (.ldc 181, 2) := by decide +kernel
theorem dX6_leastLaw_26 : decode cX6_leastLaw 26 = .ok (.istore 4, 2) := by decide +kernel
theorem dX6_leastLaw_28 : decode cX6_leastLaw 28 = .ok (.iconst 0, 1) := by decide +kernel
theorem dX6_leastLaw_29 : decode cX6_leastLaw 29 = .ok (.istore 5, 2) := by decide +kernel
theorem dX6_leastLaw_31 : decode cX6_leastLaw 31 = .ok (.iload 5, 2) := by decide +kernel
theorem dX6_leastLaw_33 : decode cX6_leastLaw 33 = .ok (.iconst 2, 1) := by decide +kernel
theorem dX6_leastLaw_34 : decode cX6_leastLaw 34 = .ok (.if_icmp .gt 62, 3) := by decide +kernel
theorem dX6_leastLaw_37 : decode cX6_leastLaw 37 = .ok (.aload_n 0, 1) := by decide +kernel
theorem dX6_leastLaw_38 : decode cX6_leastLaw 38 = .ok (.getfield 19, 3) := by decide +kernel
theorem dX6_leastLaw_41 : decode cX6_leastLaw 41 = .ok (.aload_n 0, 1) := by decide +kernel
theorem dX6_leastLaw_42 : decode cX6_leastLaw 42 = .ok (.getfield 10, 3) := by decide +kernel
theorem dX6_leastLaw_45 : decode cX6_leastLaw 45 = .ok (.invokevirtual 163, 3) := by decide +kernel
theorem dX6_leastLaw_48 : decode cX6_leastLaw 48 = .ok (.aload_n 0, 1) := by decide +kernel
theorem dX6_leastLaw_49 : decode cX6_leastLaw 49 = .ok (.getfield 19, 3) := by decide +kernel
theorem dX6_leastLaw_52 : decode cX6_leastLaw 52 = .ok (.iload 5, 2) := by decide +kernel
theorem dX6_leastLaw_54 : decode cX6_leastLaw 54 = .ok (.putfield 129, 3) := by decide +kernel
theorem dX6_leastLaw_57 : decode cX6_leastLaw 57 = .ok (.aload_n 0, 1) := by decide +kernel
theorem dX6_leastLaw_58 : decode cX6_leastLaw 58 = .ok (.getfield 19, 3) := by decide +kernel
theorem dX6_leastLaw_61 : decode cX6_leastLaw 61 = .ok (.iload_n 1, 1) := by decide +kernel
theorem dX6_leastLaw_62 : decode cX6_leastLaw 62 = .ok (.iconst (-1), 1) := by decide +kernel
theorem dX6_leastLaw_63 : decode cX6_leastLaw 63 = .ok (.invokevirtual 150, 3) := by decide +kernel
theorem dX6_leastLaw_66 : decode cX6_leastLaw 66 = .ok (.aload_n 0, 1) := by decide +kernel
theorem dX6_leastLaw_67 : decode cX6_leastLaw 67 = .ok (.getfield 19, 3) := by decide +kernel
theorem dX6_leastLaw_70 : decode cX6_leastLaw 70 = .ok (.getfield 144, 3) := by decide +kernel
theorem dX6_leastLaw_73 : decode cX6_leastLaw 73 = .ok (.iload 4, 2) := by decide +kernel
theorem dX6_leastLaw_75 : decode cX6_leastLaw 75 = .ok (.if_icmp .ge 15, 3) := by decide +kernel
theorem dX6_leastLaw_78 : decode cX6_leastLaw 78 = .ok (.iload 5, 2) := by decide +kernel
theorem dX6_leastLaw_80 : decode cX6_leastLaw 80 = .ok (.istore_n 3, 1) := by decide +kernel
theorem dX6_leastLaw_81 : decode cX6_leastLaw 81 = .ok (.aload_n 0, 1) := by decide +kernel
theorem dX6_leastLaw_82 : decode cX6_leastLaw 82 = .ok (.getfield 19, 3) := by decide +kernel
theorem dX6_leastLaw_85 : decode cX6_leastLaw 85 = .ok (.getfield 144, 3) := by decide +kernel
theorem dX6_leastLaw_88 : decode cX6_leastLaw 88 = .ok (.istore 4, 2) := by decide +kernel
theorem dX6_leastLaw_90 : decode cX6_leastLaw 90 = .ok (.iinc 5 1, 3) := by decide +kernel
theorem dX6_leastLaw_93 : decode cX6_leastLaw 93 = .ok (.goto (-62), 3) := by decide +kernel
theorem dX6_leastLaw_96 : decode cX6_leastLaw 96 = .ok (.iload_n 2, 1) := by decide +kernel
theorem dX6_leastLaw_97 : decode cX6_leastLaw 97 = .ok (.ifCond .ne 7, 3) := by decide +kernel
theorem dX6_leastLaw_100 : decode cX6_leastLaw 100 = .ok (.iload_n 3, 1) := by decide +kernel
theorem dX6_leastLaw_101 : decode cX6_leastLaw 101 = .ok (.goto 5, 3) := by decide +kernel
theorem dX6_leastLaw_104 : decode cX6_leastLaw 104 = .ok (.iload 4, 2) := by decide +kernel
theorem dX6_leastLaw_106 : decode cX6_leastLaw 106 = .ok (.ireturn, 1) := by decide +kernel
theorem dX6_spared_0 : decode cX6_spared 0 = .ok (.iload_n 1, 1) := by decide +kernel
theorem dX6_spared_1 : decode cX6_spared 1 = .ok (.iconst 1, 1) := by decide +kernel
theorem dX6_spared_2 : decode cX6_spared 2 = .ok (.bipush 60, 2) := by decide +kernel
theorem dX6_spared_4 : decode cX6_spared 4 = .ok (.invokestatic 56, 3) := by decide +kernel
theorem dX6_spared_7 : decode cX6_spared 7 = .ok (.ifCond .eq 12, 3) := by decide +kernel
theorem dX6_spared_10 : decode cX6_spared 10 = .ok (.iload_n 2, 1) := by decide +kernel
theorem dX6_spared_11 : decode cX6_spared 11 = .ok (.iconst 0, 1) := by decide +kernel
theorem dX6_spared_12 : decode cX6_spared 12 = .ok (.iconst 1, 1) := by decide +kernel
theorem dX6_spared_13 : decode cX6_spared 13 = .ok (.invokestatic 56, 3) := by decide +kernel
theorem dX6_spared_16 : decode cX6_spared 16 = .ok (.ifCond .ne 6, 3) := by decide +kernel
theorem dX6_spared_19 : decode cX6_spared 19 = .ok (.ldc 60, 2) := by decide +kernel
theorem dX6_spared_21 : decode cX6_spared 21 = .ok (.ireturn, 1) := by decide +kernel
theorem dX6_spared_22 : decode cX6_spared 22 = .ok (.aload_n 0, 1) := by decide +kernel
theorem dX6_spared_23 : decode cX6_spared 23 = .ok (.getfield 10, 3) := by decide +kernel
theorem dX6_spared_26 : decode cX6_spared 26 = .ok (.getfield 61, 3) := by decide +kernel
theorem dX6_spared_29 : decode cX6_spared 29 = .ok (.ifCond .ne 6, 3) := by decide +kernel
theorem dX6_spared_32 : decode cX6_spared 32 = .ok (.ldc 178, 2) := by decide +kernel
theorem dX6_spared_34 : decode cX6_spared 34 = .ok (.ireturn, 1) := by decide +kernel
theorem dX6_spared_35 : decode cX6_spared 35 = .ok (.iconst 0, 1) := by decide +kernel
theorem dX6_spared_36 : decode cX6_spared 36 = .ok (.istore_n 3, 1) := by decide +kernel
theorem dX6_spared_37 : decode cX6_spared 37 = .ok (.ldc 181, 2) := by decide +kernel
theorem dX6_spared_39 : decode cX6_spared 39 = .ok (.istore 4, 2) := by decide +kernel
theorem dX6_spared_41 : decode cX6_spared 41 = .ok (.iconst 0, 1) := by decide +kernel
theorem dX6_spared_42 : decode cX6_spared 42 = .ok (.istore 5, 2) := by decide +kernel
theorem dX6_spared_44 : decode cX6_spared 44 = .ok (.iload 5, 2) := by decide +kernel
theorem dX6_spared_46 : decode cX6_spared 46 = .ok (.aload_n 0, 1) := by decide +kernel
theorem dX6_spared_47 : decode cX6_spared 47 = .ok (.getfield 10, 3) := by decide +kernel
theorem dX6_spared_50 : decode cX6_spared 50 = .ok (.getfield 61, 3) := by decide +kernel
theorem dX6_spared_53 : decode cX6_spared 53 = .ok (.if_icmp .ge 54, 3) := by decide +kernel
theorem dX6_spared_56 : decode cX6_spared 56 = .ok (.aload_n 0, 1) := by decide +kernel
theorem dX6_spared_57 : decode cX6_spared 57 = .ok (.getfield 19, 3) := by decide +kernel
theorem dX6_spared_60 : decode cX6_spared 60 = .ok (.aload_n 0, 1) := by decide +kernel
theorem dX6_spared_61 : decode cX6_spared 61 = .ok (.getfield 10, 3) := by decide +kernel
theorem dX6_spared_64 : decode cX6_spared 64 = .ok (.invokevirtual 163, 3) := by decide +kernel
theorem dX6_spared_67 : decode cX6_spared 67 = .ok (.aload_n 0, 1) := by decide +kernel
theorem dX6_spared_68 : decode cX6_spared 68 = .ok (.getfield 19, 3) := by decide +kernel
theorem dX6_spared_71 : decode cX6_spared 71 = .ok (.iload_n 1, 1) := by decide +kernel
theorem dX6_spared_72 : decode cX6_spared 72 = .ok (.iload 5, 2) := by decide +kernel
theorem dX6_spared_74 : decode cX6_spared 74 = .ok (.invokevirtual 150, 3) := by decide +kernel
theorem dX6_spared_77 : decode cX6_spared 77 = .ok (.aload_n 0, 1) := by decide +kernel
theorem dX6_spared_78 : decode cX6_spared 78 = .ok (.getfield 19, 3) := by decide +kernel
theorem dX6_spared_81 : decode cX6_spared 81 = .ok (.getfield 144, 3) := by decide +kernel
theorem dX6_spared_84 : decode cX6_spared 84 = .ok (.iload 4, 2) := by decide +kernel
theorem dX6_spared_86 : decode cX6_spared 86 = .ok (.if_icmp .ge 15, 3) := by decide +kernel
theorem dX6_spared_89 : decode cX6_spared 89 = .ok (.iload 5, 2) := by decide +kernel
theorem dX6_spared_91 : decode cX6_spared 91 = .ok (.istore_n 3, 1) := by decide +kernel
theorem dX6_spared_92 : decode cX6_spared 92 = .ok (.aload_n 0, 1) := by decide +kernel
theorem dX6_spared_93 : decode cX6_spared 93 = .ok (.getfield 19, 3) := by decide +kernel
theorem dX6_spared_96 : decode cX6_spared 96 = .ok (.getfield 144, 3) := by decide +kernel
theorem dX6_spared_99 : decode cX6_spared 99 = .ok (.istore 4, 2) := by decide +kernel
theorem dX6_spared_101 : decode cX6_spared 101 = .ok (.iinc 5 1, 3) := by decide +kernel
theorem dX6_spared_104 : decode cX6_spared 104 = .ok (.goto (-60), 3) := by decide +kernel
theorem dX6_spared_107 : decode cX6_spared 107 = .ok (.iload_n 2, 1) := by decide +kernel
theorem dX6_spared_108 : decode cX6_spared 108 = .ok (.ifCond .ne 7, 3) := by decide +kernel
theorem dX6_spared_111 : decode cX6_spared 111 = .ok (.iload_n 3, 1) := by decide +kernel
theorem dX6_spared_112 : decode cX6_spared 112 = .ok (.goto 5, 3) := by decide +kernel
theorem dX6_spared_115 : decode cX6_spared 115 = .ok (.iload 4, 2) := by decide +kernel
theorem dX6_spared_117 : decode cX6_spared 117 = .ok (.ireturn, 1) := by decide +kernel
theorem dX6_last_0 : decode cX6_last 0 = .ok (.iload_n 1, 1) := by decide +kernel
theorem dX6_last_1 : decode cX6_last 1 = .ok (.iconst 1, 1) := by decide +kernel
theorem dX6_last_2 : decode cX6_last 2 = .ok (.bipush 60, 2) := by decide +kernel
theorem dX6_last_4 : decode cX6_last 4 = .ok (.invokestatic 56, 3) := by decide +kernel
theorem dX6_last_7 : decode cX6_last 7 = .ok (.ifCond .eq 12, 3) := by decide +kernel
theorem dX6_last_10 : decode cX6_last 10 = .ok (.iload_n 2, 1) := by decide +kernel
theorem dX6_last_11 : decode cX6_last 11 = .ok (.iconst 0, 1) := by decide +kernel
theorem dX6_last_12 : decode cX6_last 12 = .ok (.iconst 1, 1) := by decide +kernel
theorem dX6_last_13 : decode cX6_last 13 = .ok (.invokestatic 56, 3) := by decide +kernel
theorem dX6_last_16 : decode cX6_last 16 = .ok (.ifCond .ne 6, 3) := by decide +kernel
theorem dX6_last_19 : decode cX6_last 19 = .ok (.ldc 60, 2) := by decide +kernel
theorem dX6_last_21 : decode cX6_last 21 = .ok (.ireturn, 1) := by decide +kernel
theorem dX6_last_22 : decode cX6_last 22 = .ok (.aload_n 0, 1) := by decide +kernel
theorem dX6_last_23 : decode cX6_last 23 = .ok (.getfield 10, 3) := by decide +kernel
theorem dX6_last_26 : decode cX6_last 26 = .ok (.getfield 61, 3) := by decide +kernel
theorem dX6_last_29 : decode cX6_last 29 = .ok (.ifCond .ne 6, 3) := by decide +kernel
theorem dX6_last_32 : decode cX6_last 32 = .ok (.ldc 178, 2) := by decide +kernel
theorem dX6_last_34 : decode cX6_last 34 = .ok (.ireturn, 1) := by decide +kernel
theorem dX6_last_35 : decode cX6_last 35 = .ok (.aload_n 0, 1) := by decide +kernel
theorem dX6_last_36 : decode cX6_last 36 = .ok (.iload_n 1, 1) := by decide +kernel
theorem dX6_last_37 : decode cX6_last 37 = .ok (.invokevirtual 182, 3) := by decide +kernel
theorem dX6_last_40 : decode cX6_last 40 = .ok (.iconst 0, 1) := by decide +kernel
theorem dX6_last_41 : decode cX6_last 41 = .ok (.istore_n 3, 1) := by decide +kernel
theorem dX6_last_42 : decode cX6_last 42 = .ok (.iconst 1, 1) := by decide +kernel
theorem dX6_last_43 : decode cX6_last 43 = .ok (.istore 4, 2) := by decide +kernel
theorem dX6_last_45 : decode cX6_last 45 = .ok (.iload 4, 2) := by decide +kernel
theorem dX6_last_47 : decode cX6_last 47 = .ok (.aload_n 0, 1) := by decide +kernel
theorem dX6_last_48 : decode cX6_last 48 = .ok (.getfield 10, 3) := by decide +kernel
theorem dX6_last_51 : decode cX6_last 51 = .ok (.getfield 61, 3) := by decide +kernel
theorem dX6_last_54 : decode cX6_last 54 = .ok (.if_icmp .ge 28, 3) := by decide +kernel
theorem dX6_last_57 : decode cX6_last 57 = .ok (.aload_n 0, 1) := by decide +kernel
theorem dX6_last_58 : decode cX6_last 58 = .ok (.getfield 45, 3) := by decide +kernel
theorem dX6_last_61 : decode cX6_last 61 = .ok (.iload 4, 2) := by decide +kernel
theorem dX6_last_63 : decode cX6_last 63 = .ok (.iaload, 1) := by decide +kernel
theorem dX6_last_64 : decode cX6_last 64 = .ok (.aload_n 0, 1) := by decide +kernel
theorem dX6_last_65 : decode cX6_last 65 = .ok (.getfield 45, 3) := by decide +kernel
theorem dX6_last_68 : decode cX6_last 68 = .ok (.iload_n 3, 1) := by decide +kernel
theorem dX6_last_69 : decode cX6_last 69 = .ok (.iaload, 1) := by decide +kernel
theorem dX6_last_70 : decode cX6_last 70 = .ok (.if_icmp .le 6, 3) := by decide +kernel
theorem dX6_last_73 : decode cX6_last 73 = .ok (.iload 4, 2) := by decide +kernel
theorem dX6_last_75 : decode cX6_last 75 = .ok (.istore_n 3, 1) := by decide +kernel
theorem dX6_last_76 : decode cX6_last 76 = .ok (.iinc 4 1, 3) := by decide +kernel
theorem dX6_last_79 : decode cX6_last 79 = .ok (.goto (-34), 3) := by decide +kernel
theorem dX6_last_82 : decode cX6_last 82 = .ok (.iload_n 2, 1) := by decide +kernel
theorem dX6_last_83 : decode cX6_last 83 = .ok (.ifCond .ne 7, 3) := by decide +kernel
theorem dX6_last_86 : decode cX6_last 86 = .ok (.iload_n 3, 1) := by decide +kernel
theorem dX6_last_87 : decode cX6_last 87 = .ok (.goto 9, 3) := by decide +kernel
theorem dX6_last_90 : decode cX6_last 90 = .ok (.aload_n 0, 1) := by decide +kernel
theorem dX6_last_91 : decode cX6_last 91 = .ok (.getfield 45, 3) := by decide +kernel
theorem dX6_last_94 : decode cX6_last 94 = .ok (.iload_n 3, 1) := by decide +kernel
theorem dX6_last_95 : decode cX6_last 95 = .ok (.iaload, 1) := by decide +kernel
theorem dX6_last_96 : decode cX6_last 96 = .ok (.ireturn, 1) := by decide +kernel
theorem dX6_oiled_0 : decode cX6_oiled 0 = .ok (.iload_n 1, 1) := by decide +kernel
theorem dX6_oiled_1 : decode cX6_oiled 1 = .ok (.invokestatic 185, 3) := by decide +kernel
theorem dX6_oiled_4 : decode cX6_oiled 4 = .ok (.ifCond .eq 23, 3) := by decide +kernel
theorem dX6_oiled_7 : decode cX6_oiled 7 = .ok (.aload_n 0, 1) := by decide +kernel
theorem dX6_oiled_8 : decode cX6_oiled 8 = .ok (.getfield 10, 3) := by decide +kernel
theorem dX6_oiled_11 : decode cX6_oiled 11 = .ok (.iload_n 2, 1) := by decide +kernel
theorem dX6_oiled_12 : decode cX6_oiled 12 = .ok (.invokevirtual 70, 3) := by decide +kernel
theorem dX6_oiled_15 : decode cX6_oiled 15 = .ok (.ifCond .eq 12, 3) := by decide +kernel
theorem dX6_oiled_18 : decode cX6_oiled 18 = .ok (.iload_n 3, 1) := by decide +kernel
theorem dX6_oiled_19 : decode cX6_oiled 19 = .ok (.iconst 0, 1) := by decide +kernel
theorem dX6_oiled_20 : decode cX6_oiled 20 = .ok (.iconst 1, 1) := by decide +kernel
theorem dX6_oiled_21 : decode cX6_oiled 21 = .ok (.invokestatic 56, 3) := by decide +kernel
theorem dX6_oiled_24 : decode cX6_oiled 24 = .ok (.ifCond .ne 6, 3) := by decide +kernel
theorem dX6_oiled_27 : decode cX6_oiled 27 = .ok (.ldc 60, 2) := by decide +kernel
theorem dX6_oiled_29 : decode cX6_oiled 29 = .ok (.ireturn, 1) := by decide +kernel
theorem dX6_oiled_30 : decode cX6_oiled 30 = .ok (.aload_n 0, 1) := by decide +kernel
theorem dX6_oiled_31 : decode cX6_oiled 31 = .ok (.getfield 31, 3) := by decide +kernel
theorem dX6_oiled_34 : decode cX6_oiled 34 = .ok (.iload_n 1, 1) := by decide +kernel
theorem dX6_oiled_35 : decode cX6_oiled 35 = .ok (.aaload, 1) := by decide +kernel
theorem dX6_oiled_36 : decode cX6_oiled 36 = .ok (.invokevirtual 188, 3) := by decide +kernel
theorem dX6_oiled_39 : decode cX6_oiled 39 = .ok (.ifCond .eq 6, 3) := by decide +kernel
theorem dX6_oiled_42 : decode cX6_oiled 42 = .ok (.ldc 192, 2) := by decide +kernel
theorem dX6_oiled_44 : decode cX6_oiled 44 = .ok (.ireturn, 1) := by decide +kernel
theorem dX6_oiled_45 : decode cX6_oiled 45 = .ok (.iconst 0, 1) := by decide +kernel
theorem dX6_oiled_46 : decode cX6_oiled 46 = .ok (.istore 4, 2) := by decide +kernel
theorem dX6_oiled_48 : decode cX6_oiled 48 = .ok (.ldc 181, 2) := by decide +kernel
theorem dX6_oiled_50 : decode cX6_oiled 50 = .ok (.istore 5, 2) := by decide +kernel
theorem dX6_oiled_52 : decode cX6_oiled 52 = .ok (.iconst 0, 1) := by decide +kernel
theorem dX6_oiled_53 : decode cX6_oiled 53 = .ok (.istore 6, 2) := by decide +kernel
theorem dX6_oiled_55 : decode cX6_oiled 55 = .ok (.iload 6, 2) := by decide +kernel
theorem dX6_oiled_57 : decode cX6_oiled 57 = .ok (.bipush 99, 2) := by decide +kernel
theorem dX6_oiled_59 : decode cX6_oiled 59 = .ok (.if_icmp .gt 39, 3) := by decide +kernel
theorem dX6_oiled_62 : decode cX6_oiled 62 = .ok (.aload_n 0, 1) := by decide +kernel
theorem dX6_oiled_63 : decode cX6_oiled 63 = .ok (.aload_n 0, 1) := by decide +kernel
theorem dX6_oiled_64 : decode cX6_oiled 64 = .ok (.getfield 31, 3) := by decide +kernel
theorem dX6_oiled_67 : decode cX6_oiled 67 = .ok (.iload_n 1, 1) := by decide +kernel
theorem dX6_oiled_68 : decode cX6_oiled 68 = .ok (.aaload, 1) := by decide +kernel
theorem dX6_oiled_69 : decode cX6_oiled 69 = .ok (.iload_n 2, 1) := by decide +kernel
theorem dX6_oiled_70 : decode cX6_oiled 70 = .ok (.iload 6, 2) := by decide +kernel
theorem dX6_oiled_72 : decode cX6_oiled 72 = .ok (.invokevirtual 193, 3) := by decide +kernel
theorem dX6_oiled_75 : decode cX6_oiled 75 = .ok (.istore 7, 2) := by decide +kernel
theorem dX6_oiled_77 : decode cX6_oiled 77 = .ok (.iload 7, 2) := by decide +kernel
theorem dX6_oiled_79 : decode cX6_oiled 79 = .ok (.iload 5, 2) := by decide +kernel
theorem dX6_oiled_81 : decode cX6_oiled 81 = .ok (.if_icmp .ge 11, 3) := by decide +kernel
theorem dX6_oiled_84 : decode cX6_oiled 84 = .ok (.iload 6, 2) := by decide +kernel
theorem dX6_oiled_86 : decode cX6_oiled 86 = .ok (.istore 4, 2) := by decide +kernel
theorem dX6_oiled_88 : decode cX6_oiled 88 = .ok (.iload 7, 2) := by decide +kernel
theorem dX6_oiled_90 : decode cX6_oiled 90 = .ok (.istore 5, 2) := by decide +kernel
theorem dX6_oiled_92 : decode cX6_oiled 92 = .ok (.iinc 6 1, 3) := by decide +kernel
theorem dX6_oiled_95 : decode cX6_oiled 95 = .ok (.goto (-40), 3) := by decide +kernel
theorem dX6_oiled_98 : decode cX6_oiled 98 = .ok (.iload_n 3, 1) := by decide +kernel
theorem dX6_oiled_99 : decode cX6_oiled 99 = .ok (.ifCond .ne 8, 3) := by decide +kernel
theorem dX6_oiled_102 : decode cX6_oiled 102 = .ok (.iload 4, 2) := by decide +kernel
theorem dX6_oiled_104 : decode cX6_oiled 104 = .ok (.goto 5, 3) := by decide +kernel
theorem dX6_oiled_107 : decode cX6_oiled 107 = .ok (.iload 5, 2) := by decide +kernel
theorem dX6_oiled_109 : decode cX6_oiled 109 = .ok (.ireturn, 1) := by decide +kernel
theorem dX6_fee_0 : decode cX6_fee 0 = .ok (.aload_n 0, 1) := by decide +kernel
theorem dX6_fee_1 : decode cX6_fee 1 = .ok (.getfield 10, 3) := by decide +kernel
theorem dX6_fee_4 : decode cX6_fee 4 = .ok (.iconst 1, 1) := by decide +kernel
theorem dX6_fee_5 : decode cX6_fee 5 = .ok (.invokevirtual 199, 3) := by decide +kernel
theorem dX6_fee_8 : decode cX6_fee 8 = .ok (.astore_n 1, 1) := by decide +kernel
theorem dX6_fee_9 : decode cX6_fee 9 = .ok (.aload_n 1, 1) := by decide +kernel
theorem dX6_fee_10 : decode cX6_fee 10 = .ok (.ifnonnull 13, 3) := by decide +kernel
theorem dX6_fee_13 : decode cX6_fee 13 = .ok (.aload_n 0, 1) := by decide +kernel
theorem dX6_fee_14 : decode cX6_fee 14 = .ok (.getfield 10, 3) := by decide +kernel
theorem dX6_fee_17 : decode cX6_fee 17 = .ok (.getfield 144, 3) := by decide +kernel
theorem dX6_fee_20 : decode cX6_fee 20 = .ok (.goto 22, 3) := by decide +kernel
theorem dX6_fee_23 : decode cX6_fee 23 = .ok (.aload_n 1, 1) := by decide +kernel
theorem dX6_fee_24 : decode cX6_fee 24 = .ok (.aload_n 0, 1) := by decide +kernel
theorem dX6_fee_25 : decode cX6_fee 25 = .ok (.getfield 10, 3) := by decide +kernel
theorem dX6_fee_28 : decode cX6_fee 28 = .ok (.getfield 147, 3) := by decide +kernel
theorem dX6_fee_31 : decode cX6_fee 31 = .ok (.aload_n 0, 1) := by decide +kernel
theorem dX6_fee_32 : decode cX6_fee 32 = .ok (.getfield 10, 3) := by decide +kernel
theorem dX6_fee_35 : decode cX6_fee 35 = .ok (.getfield 144, 3) := by decide +kernel
theorem dX6_fee_38 : decode cX6_fee 38 = .ok (.iconst 0, 1) := by decide +kernel
theorem dX6_fee_39 : decode cX6_fee 39 = .ok (.invokevirtual 203, 3) := by decide +kernel
theorem dX6_fee_42 : decode cX6_fee 42 = .ok (.ireturn, 1) := by decide +kernel
theorem dX6_fine_0 : decode cX6_fine 0 = .ok (.aload_n 0, 1) := by decide +kernel
theorem dX6_fine_1 : decode cX6_fine 1 = .ok (.getfield 10, 3) := by decide +kernel
theorem dX6_fine_4 : decode cX6_fine 4 = .ok (.iload_n 1, 1) := by decide +kernel
theorem dX6_fine_5 : decode cX6_fine 5 = .ok (.invokevirtual 70, 3) := by decide +kernel
theorem dX6_fine_8 : decode cX6_fine 8 = .ok (.ifCond .ne 6, 3) := by decide +kernel
theorem dX6_fine_11 : decode cX6_fine 11 = .ok (.ldc 60, 2) := by decide +kernel
theorem dX6_fine_13 : decode cX6_fine 13 = .ok (.ireturn, 1) := by decide +kernel
theorem dX6_fine_14 : decode cX6_fine 14 = .ok (.aload_n 0, 1) := by decide +kernel
theorem dX6_fine_15 : decode cX6_fine 15 = .ok (.getfield 10, 3) := by decide +kernel
theorem dX6_fine_18 : decode cX6_fine 18 = .ok (.getfield 73, 3) := by decide +kernel
theorem dX6_fine_21 : decode cX6_fine 21 = .ok (.iload_n 1, 1) := by decide +kernel
theorem dX6_fine_22 : decode cX6_fine 22 = .ok (.aaload, 1) := by decide +kernel
theorem dX6_fine_23 : decode cX6_fine 23 = .ok (.astore_n 2, 1) := by decide +kernel
theorem dX6_fine_24 : decode cX6_fine 24 = .ok (.aload_n 0, 1) := by decide +kernel
theorem dX6_fine_25 : decode cX6_fine 25 = .ok (.getfield 10, 3) := by decide +kernel
theorem dX6_fine_28 : decode cX6_fine 28 = .ok (.iconst 2, 1) := by decide +kernel
theorem dX6_fine_29 : decode cX6_fine 29 = .ok (.invokevirtual 199, 3) := by decide +kernel
theorem dX6_fine_32 : decode cX6_fine 32 = .ok (.astore_n 3, 1) := by decide +kernel
theorem dX6_fine_33 : decode cX6_fine 33 = .ok (.aload_n 3, 1) := by decide +kernel
theorem dX6_fine_34 : decode cX6_fine 34 = .ok (.ifnonnull 10, 3) := by decide +kernel
theorem dX6_fine_37 : decode cX6_fine 37 = .ok (.aload_n 2, 1) := by decide +kernel
theorem dX6_fine_38 : decode cX6_fine 38 = .ok (.getfield 207, 3) := by decide +kernel
theorem dX6_fine_41 : decode cX6_fine 41 = .ok (.goto 16, 3) := by decide +kernel
theorem dX6_fine_44 : decode cX6_fine 44 = .ok (.aload_n 3, 1) := by decide +kernel
theorem dX6_fine_45 : decode cX6_fine 45 = .ok (.aload_n 2, 1) := by decide +kernel
theorem dX6_fine_46 : decode cX6_fine 46 = .ok (.getfield 111, 3) := by decide +kernel
theorem dX6_fine_49 : decode cX6_fine 49 = .ok (.aload_n 2, 1) := by decide +kernel
theorem dX6_fine_50 : decode cX6_fine 50 = .ok (.getfield 207, 3) := by decide +kernel
theorem dX6_fine_53 : decode cX6_fine 53 = .ok (.iconst 0, 1) := by decide +kernel
theorem dX6_fine_54 : decode cX6_fine 54 = .ok (.invokevirtual 203, 3) := by decide +kernel
theorem dX6_fine_57 : decode cX6_fine 57 = .ok (.ireturn, 1) := by decide +kernel
theorem dX6_feed_0 : decode cX6_feed 0 = .ok (.aload_n 0, 1) := by decide +kernel
theorem dX6_feed_1 : decode cX6_feed 1 = .ok (.getfield 25, 3) := by decide +kernel
theorem dX6_feed_4 : decode cX6_feed 4 = .ok (.getfield 210, 3) := by decide +kernel
theorem dX6_feed_7 : decode cX6_feed 7 = .ok (.bipush 12, 2) := by decide +kernel
theorem dX6_feed_9 : decode cX6_feed 9 = .ok (.iadd, 1) := by decide +kernel
theorem dX6_feed_10 : decode cX6_feed 10 = .ok (.bipush 96, 2) := by decide +kernel
theorem dX6_feed_12 : decode cX6_feed 12 = .ok (.if_icmp .le 6, 3) := by decide +kernel
theorem dX6_feed_15 : decode cX6_feed 15 = .ok (.ldc 65, 2) := by decide +kernel
theorem dX6_feed_17 : decode cX6_feed 17 = .ok (.ireturn, 1) := by decide +kernel
theorem dX6_feed_18 : decode cX6_feed 18 = .ok (.aload_n 0, 1) := by decide +kernel
theorem dX6_feed_19 : decode cX6_feed 19 = .ok (.getfield 25, 3) := by decide +kernel
theorem dX6_feed_22 : decode cX6_feed 22 = .ok (.iload_n 1, 1) := by decide +kernel
theorem dX6_feed_23 : decode cX6_feed 23 = .ok (.invokevirtual 213, 3) := by decide +kernel
theorem dX6_feed_26 : decode cX6_feed 26 = .ok (.aload_n 0, 1) := by decide +kernel
theorem dX6_feed_27 : decode cX6_feed 27 = .ok (.getfield 25, 3) := by decide +kernel
theorem dX6_feed_30 : decode cX6_feed 30 = .ok (.iload_n 2, 1) := by decide +kernel
theorem dX6_feed_31 : decode cX6_feed 31 = .ok (.invokevirtual 213, 3) := by decide +kernel
theorem dX6_feed_34 : decode cX6_feed 34 = .ok (.aload_n 0, 1) := by decide +kernel
theorem dX6_feed_35 : decode cX6_feed 35 = .ok (.getfield 25, 3) := by decide +kernel
theorem dX6_feed_38 : decode cX6_feed 38 = .ok (.iload_n 3, 1) := by decide +kernel
theorem dX6_feed_39 : decode cX6_feed 39 = .ok (.invokevirtual 213, 3) := by decide +kernel
theorem dX6_feed_42 : decode cX6_feed 42 = .ok (.aload_n 0, 1) := by decide +kernel
theorem dX6_feed_43 : decode cX6_feed 43 = .ok (.getfield 25, 3) := by decide +kernel
theorem dX6_feed_46 : decode cX6_feed 46 = .ok (.getfield 210, 3) := by decide +kernel
theorem dX6_feed_49 : decode cX6_feed 49 = .ok (.ireturn, 1) := by decide +kernel
theorem dX6_trim_0 : decode cX6_trim 0 = .ok (.iload_n 1, 1) := by decide +kernel
theorem dX6_trim_1 : decode cX6_trim 1 = .ok (.iconst 0, 1) := by decide +kernel
theorem dX6_trim_2 : decode cX6_trim 2 = .ok (.aload_n 0, 1) := by decide +kernel
theorem dX6_trim_3 : decode cX6_trim 3 = .ok (.getfield 25, 3) := by decide +kernel
theorem dX6_trim_6 : decode cX6_trim 6 = .ok (.getfield 210, 3) := by decide +kernel
theorem dX6_trim_9 : decode cX6_trim 9 = .ok (.invokestatic 56, 3) := by decide +kernel
theorem dX6_trim_12 : decode cX6_trim 12 = .ok (.ifCond .ne 6, 3) := by decide +kernel
theorem dX6_trim_15 : decode cX6_trim 15 = .ok (.ldc 60, 2) := by decide +kernel
theorem dX6_trim_17 : decode cX6_trim 17 = .ok (.ireturn, 1) := by decide +kernel
theorem dX6_trim_18 : decode cX6_trim 18 = .ok (.aload_n 0, 1) := by decide +kernel
theorem dX6_trim_19 : decode cX6_trim 19 = .ok (.getfield 25, 3) := by decide +kernel
theorem dX6_trim_22 : decode cX6_trim 22 = .ok (.iload_n 1, 1) := by decide +kernel
theorem dX6_trim_23 : decode cX6_trim 23 = .ok (.putfield 210, 3) := by decide +kernel
theorem dX6_trim_26 : decode cX6_trim 26 = .ok (.iload_n 1, 1) := by decide +kernel
theorem dX6_trim_27 : decode cX6_trim 27 = .ok (.ireturn, 1) := by decide +kernel
theorem dX6_text_0 : decode cX6_text 0 = .ok (.aload_n 0, 1) := by decide +kernel
theorem dX6_text_1 : decode cX6_text 1 = .ok (.getfield 25, 3) := by decide +kernel
theorem dX6_text_4 : decode cX6_text 4 = .ok (.invokevirtual 216, 3) := by decide +kernel
theorem dX6_text_7 : decode cX6_text 7 = .ok (.istore_n 1, 1) := by decide +kernel
theorem dX6_text_8 : decode cX6_text 8 = .ok (.aload_n 0, 1) := by decide +kernel
theorem dX6_text_9 : decode cX6_text 9 = .ok (.getfield 25, 3) := by decide +kernel
theorem dX6_text_12 : decode cX6_text 12 = .ok (.iconst 0, 1) := by decide +kernel
theorem dX6_text_13 : decode cX6_text 13 = .ok (.putfield 210, 3) := by decide +kernel
theorem dX6_text_16 : decode cX6_text 16 = .ok (.iload_n 1, 1) := by decide +kernel
theorem dX6_text_17 : decode cX6_text 17 = .ok (.ifCond .ne 14, 3) := by decide +kernel
theorem dX6_text_20 : decode cX6_text 20 = .ok (.bipush (-100), 2) := by decide +kernel
theorem dX6_text_22 : decode cX6_text 22 = .ok (.aload_n 0, 1) := by decide +kernel
theorem dX6_text_23 : decode cX6_text 23 = .ok (.getfield 25, 3) := by decide +kernel
theorem dX6_text_26 : decode cX6_text 26 = .ok (.getfield 219, 3) := by decide +kernel
theorem dX6_text_29 : decode cX6_text 29 = .ok (.isub, 1) := by decide +kernel
theorem dX6_text_30 : decode cX6_text 30 = .ok (.ireturn, 1) := by decide +kernel
theorem dX6_text_31 : decode cX6_text 31 = .ok (.aload_n 0, 1) := by decide +kernel
theorem dX6_text_32 : decode cX6_text 32 = .ok (.getfield 10, 3) := by decide +kernel
theorem dX6_text_35 : decode cX6_text 35 = .ok (.getfield 222, 3) := by decide +kernel
theorem dX6_text_38 : decode cX6_text 38 = .ok (.bipush 14, 2) := by decide +kernel
theorem dX6_text_40 : decode cX6_text 40 = .ok (.if_icmp .lt 6, 3) := by decide +kernel
theorem dX6_text_43 : decode cX6_text 43 = .ok (.ldc 65, 2) := by decide +kernel
theorem dX6_text_45 : decode cX6_text 45 = .ok (.ireturn, 1) := by decide +kernel
theorem dX6_text_46 : decode cX6_text 46 = .ok (.aload_n 0, 1) := by decide +kernel
theorem dX6_text_47 : decode cX6_text 47 = .ok (.getfield 10, 3) := by decide +kernel
theorem dX6_text_50 : decode cX6_text 50 = .ok (.aload_n 0, 1) := by decide +kernel
theorem dX6_text_51 : decode cX6_text 51 = .ok (.getfield 25, 3) := by decide +kernel
theorem dX6_text_54 : decode cX6_text 54 = .ok (.invokevirtual 225, 3) := by decide +kernel
theorem dX6_text_57 : decode cX6_text 57 = .ok (.invokevirtual 229, 3) := by decide +kernel
theorem dX6_text_60 : decode cX6_text 60 = .ok (.aload_n 0, 1) := by decide +kernel
theorem dX6_text_61 : decode cX6_text 61 = .ok (.getfield 10, 3) := by decide +kernel
theorem dX6_text_64 : decode cX6_text 64 = .ok (.getfield 222, 3) := by decide +kernel
theorem dX6_text_67 : decode cX6_text 67 = .ok (.iconst 1, 1) := by decide +kernel
theorem dX6_text_68 : decode cX6_text 68 = .ok (.isub, 1) := by decide +kernel
theorem dX6_text_69 : decode cX6_text 69 = .ok (.ireturn, 1) := by decide +kernel
theorem dX6_textTold_0 : decode cX6_textTold 0 = .ok (.aload_n 0, 1) := by decide +kernel
theorem dX6_textTold_1 : decode cX6_textTold 1 = .ok (.getfield 10, 3) := by decide +kernel
theorem dX6_textTold_4 : decode cX6_textTold 4 = .ok (.iload_n 1, 1) := by decide +kernel
theorem dX6_textTold_5 : decode cX6_textTold 5 = .ok (.invokevirtual 233, 3) := by decide +kernel
theorem dX6_textTold_8 : decode cX6_textTold 8 = .ok (.ifCond .eq 12, 3) := by decide +kernel
theorem dX6_textTold_11 : decode cX6_textTold 11 = .ok (.iload_n 2, 1) := by decide +kernel
theorem dX6_textTold_12 : decode cX6_textTold 12 = .ok (.iconst 0, 1) := by decide +kernel
theorem dX6_textTold_13 : decode cX6_textTold 13 = .ok (.iconst 1, 1) := by decide +kernel
theorem dX6_textTold_14 : decode cX6_textTold 14 = .ok (.invokestatic 56, 3) := by decide +kernel
theorem dX6_textTold_17 : decode cX6_textTold 17 = .ok (.ifCond .ne 6, 3) := by decide +kernel
theorem dX6_textTold_20 : decode cX6_textTold 20 = .ok (.ldc 60, 2) := by decide +kernel
theorem dX6_textTold_22 : decode cX6_textTold 22 = .ok (.ireturn, 1) := by decide +kernel
theorem dX6_textTold_23 : decode cX6_textTold 23 = .ok (.iload_n 2, 1) := by decide +kernel
theorem dX6_textTold_24 : decode cX6_textTold 24 = .ok (.ifCond .ne 18, 3) := by decide +kernel
theorem dX6_textTold_27 : decode cX6_textTold 27 = .ok (.aload_n 0, 1) := by decide +kernel
theorem dX6_textTold_28 : decode cX6_textTold 28 = .ok (.getfield 10, 3) := by decide +kernel
theorem dX6_textTold_31 : decode cX6_textTold 31 = .ok (.getfield 236, 3) := by decide +kernel
theorem dX6_textTold_34 : decode cX6_textTold 34 = .ok (.iload_n 1, 1) := by decide +kernel
theorem dX6_textTold_35 : decode cX6_textTold 35 = .ok (.aaload, 1) := by decide +kernel
theorem dX6_textTold_36 : decode cX6_textTold 36 = .ok (.getfield 240, 3) := by decide +kernel
theorem dX6_textTold_39 : decode cX6_textTold 39 = .ok (.goto 15, 3) := by decide +kernel
theorem dX6_textTold_42 : decode cX6_textTold 42 = .ok (.aload_n 0, 1) := by decide +kernel
theorem dX6_textTold_43 : decode cX6_textTold 43 = .ok (.getfield 10, 3) := by decide +kernel
theorem dX6_textTold_46 : decode cX6_textTold 46 = .ok (.getfield 236, 3) := by decide +kernel
theorem dX6_textTold_49 : decode cX6_textTold 49 = .ok (.iload_n 1, 1) := by decide +kernel
theorem dX6_textTold_50 : decode cX6_textTold 50 = .ok (.aaload, 1) := by decide +kernel
theorem dX6_textTold_51 : decode cX6_textTold 51 = .ok (.getfield 243, 3) := by decide +kernel
theorem dX6_textTold_54 : decode cX6_textTold 54 = .ok (.ireturn, 1) := by decide +kernel
theorem dX6_why_0 : decode cX6_why 0 = .ok (.iload_n 1, 1) := by decide +kernel
theorem dX6_why_1 : decode cX6_why 1 = .ok (.invokestatic 246, 3) := by decide +kernel
theorem dX6_why_4 : decode cX6_why 4 = .ok (.ifCond .eq 15, 3) := by decide +kernel
theorem dX6_why_7 : decode cX6_why 7 = .ok (.aload_n 0, 1) := by decide +kernel
theorem dX6_why_8 : decode cX6_why 8 = .ok (.getfield 10, 3) := by decide +kernel
theorem dX6_why_11 : decode cX6_why 11 = .ok (.getfield 249, 3) := by decide +kernel
theorem dX6_why_14 : decode cX6_why 14 = .ok (.iload_n 1, 1) := by decide +kernel
theorem dX6_why_15 : decode cX6_why 15 = .ok (.iaload, 1) := by decide +kernel
theorem dX6_why_16 : decode cX6_why 16 = .ok (.goto 5, 3) := by decide +kernel
theorem dX6_why_19 : decode cX6_why 19 = .ok (.ldc 60, 2) := by decide +kernel
theorem dX6_why_21 : decode cX6_why 21 = .ok (.ireturn, 1) := by decide +kernel
theorem dX6_sheet_0 : decode cX6_sheet 0 = .ok (.iload_n 1, 1) := by decide +kernel
theorem dX6_sheet_1 : decode cX6_sheet 1 = .ok (.invokestatic 185, 3) := by decide +kernel
theorem dX6_sheet_4 : decode cX6_sheet 4 = .ok (.ifCond .eq 12, 3) := by decide +kernel
theorem dX6_sheet_7 : decode cX6_sheet 7 = .ok (.iload_n 2, 1) := by decide +kernel
theorem dX6_sheet_8 : decode cX6_sheet 8 = .ok (.iconst (-1), 1) := by decide +kernel
theorem dX6_sheet_9 : decode cX6_sheet 9 = .ok (.iconst 1, 1) := by decide +kernel
theorem dX6_sheet_10 : decode cX6_sheet 10 = .ok (.invokestatic 56, 3) := by decide +kernel
theorem dX6_sheet_13 : decode cX6_sheet 13 = .ok (.ifCond .ne 6, 3) := by decide +kernel
theorem dX6_sheet_16 : decode cX6_sheet 16 = .ok (.ldc 60, 2) := by decide +kernel
theorem dX6_sheet_18 : decode cX6_sheet 18 = .ok (.ireturn, 1) := by decide +kernel
theorem dX6_sheet_19 : decode cX6_sheet 19 = .ok (.iload_n 2, 1) := by decide +kernel
theorem dX6_sheet_20 : decode cX6_sheet 20 = .ok (.iconst (-1), 1) := by decide +kernel
theorem dX6_sheet_21 : decode cX6_sheet 21 = .ok (.if_icmp .ne 16, 3) := by decide +kernel
theorem dX6_sheet_24 : decode cX6_sheet 24 = .ok (.aload_n 0, 1) := by decide +kernel
theorem dX6_sheet_25 : decode cX6_sheet 25 = .ok (.getfield 31, 3) := by decide +kernel
theorem dX6_sheet_28 : decode cX6_sheet 28 = .ok (.iload_n 1, 1) := by decide +kernel
theorem dX6_sheet_29 : decode cX6_sheet 29 = .ok (.aaload, 1) := by decide +kernel
theorem dX6_sheet_30 : decode cX6_sheet 30 = .ok (.iconst (-1), 1) := by decide +kernel
theorem dX6_sheet_31 : decode cX6_sheet 31 = .ok (.iconst 0, 1) := by decide +kernel
theorem dX6_sheet_32 : decode cX6_sheet 32 = .ok (.invokevirtual 252, 3) := by decide +kernel
theorem dX6_sheet_35 : decode cX6_sheet 35 = .ok (.iconst 0, 1) := by decide +kernel
theorem dX6_sheet_36 : decode cX6_sheet 36 = .ok (.ireturn, 1) := by decide +kernel
theorem dX6_sheet_37 : decode cX6_sheet 37 = .ok (.iload_n 3, 1) := by decide +kernel
theorem dX6_sheet_38 : decode cX6_sheet 38 = .ok (.bipush 24, 2) := by decide +kernel
theorem dX6_sheet_40 : decode cX6_sheet 40 = .ok (.if_icmp .le 6, 3) := by decide +kernel
theorem dX6_sheet_43 : decode cX6_sheet 43 = .ok (.ldc 60, 2) := by decide +kernel
theorem dX6_sheet_45 : decode cX6_sheet 45 = .ok (.ireturn, 1) := by decide +kernel
theorem dX6_sheet_46 : decode cX6_sheet 46 = .ok (.iload_n 3, 1) := by decide +kernel
theorem dX6_sheet_47 : decode cX6_sheet 47 = .ok (.ifCond .ge 6, 3) := by decide +kernel
theorem dX6_sheet_50 : decode cX6_sheet 50 = .ok (.ldc 255, 2) := by decide +kernel
theorem dX6_sheet_52 : decode cX6_sheet 52 = .ok (.ireturn, 1) := by decide +kernel
theorem dX6_sheet_53 : decode cX6_sheet 53 = .ok (.aload_n 0, 1) := by decide +kernel
theorem dX6_sheet_54 : decode cX6_sheet 54 = .ok (.getfield 31, 3) := by decide +kernel
theorem dX6_sheet_57 : decode cX6_sheet 57 = .ok (.iload_n 1, 1) := by decide +kernel
theorem dX6_sheet_58 : decode cX6_sheet 58 = .ok (.aaload, 1) := by decide +kernel
theorem dX6_sheet_59 : decode cX6_sheet 59 = .ok (.iload_n 2, 1) := by decide +kernel
theorem dX6_sheet_60 : decode cX6_sheet 60 = .ok (.iload_n 3, 1) := by decide +kernel
theorem dX6_sheet_61 : decode cX6_sheet 61 = .ok (.invokevirtual 252, 3) := by decide +kernel
theorem dX6_sheet_64 : decode cX6_sheet 64 = .ok (.iload_n 3, 1) := by decide +kernel
theorem dX6_sheet_65 : decode cX6_sheet 65 = .ok (.ireturn, 1) := by decide +kernel
theorem dX6_mark_0 : decode cX6_mark 0 = .ok (.iload_n 1, 1) := by decide +kernel
theorem dX6_mark_1 : decode cX6_mark 1 = .ok (.invokestatic 185, 3) := by decide +kernel
theorem dX6_mark_4 : decode cX6_mark 4 = .ok (.ifCond .ne 6, 3) := by decide +kernel
theorem dX6_mark_7 : decode cX6_mark 7 = .ok (.ldc 60, 2) := by decide +kernel
theorem dX6_mark_9 : decode cX6_mark 9 = .ok (.ireturn, 1) := by decide +kernel
theorem dX6_mark_10 : decode cX6_mark 10 = .ok (.aload_n 0, 1) := by decide +kernel
theorem dX6_mark_11 : decode cX6_mark 11 = .ok (.getfield 31, 3) := by decide +kernel
theorem dX6_mark_14 : decode cX6_mark 14 = .ok (.iload_n 1, 1) := by decide +kernel
theorem dX6_mark_15 : decode cX6_mark 15 = .ok (.aaload, 1) := by decide +kernel
theorem dX6_mark_16 : decode cX6_mark 16 = .ok (.astore 4, 2) := by decide +kernel
theorem dX6_mark_18 : decode cX6_mark 18 = .ok (.aload 4, 2) := by decide +kernel
theorem dX6_mark_20 : decode cX6_mark 20 = .ok (.invokevirtual 188, 3) := by decide +kernel
theorem dX6_mark_23 : decode cX6_mark 23 = .ok (.ifCond .eq 6, 3) := by decide +kernel
theorem dX6_mark_26 : decode cX6_mark 26 = .ok (.ldc 192, 2) := by decide +kernel
theorem dX6_mark_28 : decode cX6_mark 28 = .ok (.ireturn, 1) := by decide +kernel
theorem dX6_mark_29 : decode cX6_mark 29 = .ok (.aload 4, 2) := by decide +kernel
theorem dX6_mark_31 : decode cX6_mark 31 = .ok (.iload_n 2, 1) := by decide +kernel
theorem dX6_mark_32 : decode cX6_mark 32 = .ok (.invokevirtual 256, 3) := by decide +kernel
theorem dX6_mark_35 : decode cX6_mark 35 = .ok (.ifCond .ne 7, 3) := by decide +kernel
theorem dX6_mark_38 : decode cX6_mark 38 = .ok (.ldc_w 259, 3) := by decide +kernel
theorem dX6_mark_41 : decode cX6_mark 41 = .ok (.ireturn, 1) := by decide +kernel
theorem dX6_mark_42 : decode cX6_mark 42 = .ok (.aload 4, 2) := by decide +kernel
theorem dX6_mark_44 : decode cX6_mark 44 = .ok (.getfield 260, 3) := by decide +kernel
theorem dX6_mark_47 : decode cX6_mark 47 = .ok (.ifCond .ne 23, 3) := by decide +kernel
theorem dX6_mark_50 : decode cX6_mark 50 = .ok (.iload_n 3, 1) := by decide +kernel
theorem dX6_mark_51 : decode cX6_mark 51 = .ok (.ldc 178, 2) := by decide +kernel
theorem dX6_mark_53 : decode cX6_mark 53 = .ok (.if_icmp .ne 6, 3) := by decide +kernel
theorem dX6_mark_56 : decode cX6_mark 56 = .ok (.ldc 101, 2) := by decide +kernel
theorem dX6_mark_58 : decode cX6_mark 58 = .ok (.ireturn, 1) := by decide +kernel
theorem dX6_mark_59 : decode cX6_mark 59 = .ok (.aload 4, 2) := by decide +kernel
theorem dX6_mark_61 : decode cX6_mark 61 = .ok (.getfield 263, 3) := by decide +kernel
theorem dX6_mark_64 : decode cX6_mark 64 = .ok (.iload_n 2, 1) := by decide +kernel
theorem dX6_mark_65 : decode cX6_mark 65 = .ok (.iload_n 3, 1) := by decide +kernel
theorem dX6_mark_66 : decode cX6_mark 66 = .ok (.i2s, 1) := by decide +kernel
theorem dX6_mark_67 : decode cX6_mark 67 = .ok (.iastore, 1) := by decide +kernel
theorem dX6_mark_68 : decode cX6_mark 68 = .ok (.iconst 1, 1) := by decide +kernel
theorem dX6_mark_69 : decode cX6_mark 69 = .ok (.ireturn, 1) := by decide +kernel
theorem dX6_mark_70 : decode cX6_mark 70 = .ok (.iload_n 3, 1) := by decide +kernel
theorem dX6_mark_71 : decode cX6_mark 71 = .ok (.ldc 178, 2) := by decide +kernel
theorem dX6_mark_73 : decode cX6_mark 73 = .ok (.if_icmp .eq 19, 3) := by decide +kernel
theorem dX6_mark_76 : decode cX6_mark 76 = .ok (.iload_n 3, 1) := by decide +kernel
theorem dX6_mark_77 : decode cX6_mark 77 = .ok (.ldc_w 266, 3) := by decide +kernel
theorem dX6_mark_80 : decode cX6_mark 80 = .ok (.ldc_w 267, 3) := by decide +kernel
theorem dX6_mark_83 : decode cX6_mark 83 = .ok (.invokestatic 56, 3) := by decide +kernel
theorem dX6_mark_86 : decode cX6_mark 86 = .ok (.ifCond .ne 6, 3) := by decide +kernel
theorem dX6_mark_89 : decode cX6_mark 89 = .ok (.ldc 60, 2) := by decide +kernel
theorem dX6_mark_91 : decode cX6_mark 91 = .ok (.ireturn, 1) := by decide +kernel
theorem dX6_mark_92 : decode cX6_mark 92 = .ok (.aload 4, 2) := by decide +kernel
theorem dX6_mark_94 : decode cX6_mark 94 = .ok (.getfield 263, 3) := by decide +kernel
theorem dX6_mark_97 : decode cX6_mark 97 = .ok (.iload_n 2, 1) := by decide +kernel
theorem dX6_mark_98 : decode cX6_mark 98 = .ok (.iload_n 3, 1) := by decide +kernel
theorem dX6_mark_99 : decode cX6_mark 99 = .ok (.iastore, 1) := by decide +kernel
theorem dX6_mark_100 : decode cX6_mark 100 = .ok (.iconst 1, 1) := by decide +kernel
theorem dX6_mark_101 : decode cX6_mark 101 = .ok (.ireturn, 1) := by decide +kernel
theorem dX6_pour_0 : decode cX6_pour 0 = .ok (.iload_n 1, 1) := by decide +kernel
theorem dX6_pour_1 : decode cX6_pour 1 = .ok (.invokestatic 185, 3) := by decide +kernel
theorem dX6_pour_4 : decode cX6_pour 4 = .ok (.ifCond .ne 6, 3) := by decide +kernel
theorem dX6_pour_7 : decode cX6_pour 7 = .ok (.ldc 60, 2) := by decide +kernel
theorem dX6_pour_9 : decode cX6_pour 9 = .ok (.ireturn, 1) := by decide +kernel
theorem dX6_pour_10 : decode cX6_pour 10 = .ok (.aload_n 0, 1) := by decide +kernel
theorem dX6_pour_11 : decode cX6_pour 11 = .ok (.getfield 31, 3) := by decide +kernel
theorem dX6_pour_14 : decode cX6_pour 14 = .ok (.iload_n 1, 1) := by decide +kernel
theorem dX6_pour_15 : decode cX6_pour 15 = .ok (.aaload, 1) := by decide +kernel
theorem dX6_pour_16 : decode cX6_pour 16 = .ok (.astore_n 2, 1) := by decide +kernel
theorem dX6_pour_17 : decode cX6_pour 17 = .ok (.aload_n 2, 1) := by decide +kernel
theorem dX6_pour_18 : decode cX6_pour 18 = .ok (.invokevirtual 188, 3) := by decide +kernel
theorem dX6_pour_21 : decode cX6_pour 21 = .ok (.ifCond .eq 6, 3) := by decide +kernel
theorem dX6_pour_24 : decode cX6_pour 24 = .ok (.ldc 192, 2) := by decide +kernel
theorem dX6_pour_26 : decode cX6_pour 26 = .ok (.ireturn, 1) := by decide +kernel
theorem dX6_pour_27 : decode cX6_pour 27 = .ok (.iconst 0, 1) := by decide +kernel
theorem dX6_pour_28 : decode cX6_pour 28 = .ok (.istore_n 3, 1) := by decide +kernel
theorem dX6_pour_29 : decode cX6_pour 29 = .ok (.iconst 0, 1) := by decide +kernel
theorem dX6_pour_30 : decode cX6_pour 30 = .ok (.istore 4, 2) := by decide +kernel
theorem dX6_pour_32 : decode cX6_pour 32 = .ok (.iload 4, 2) := by decide +kernel
theorem dX6_pour_34 : decode cX6_pour 34 = .ok (.aload_n 0, 1) := by decide +kernel
theorem dX6_pour_35 : decode cX6_pour 35 = .ok (.getfield 10, 3) := by decide +kernel
theorem dX6_pour_38 : decode cX6_pour 38 = .ok (.getfield 61, 3) := by decide +kernel
theorem dX6_pour_41 : decode cX6_pour 41 = .ok (.if_icmp .ge 69, 3) := by decide +kernel
theorem dX6_pour_44 : decode cX6_pour 44 = .ok (.aload_n 2, 1) := by decide +kernel
theorem dX6_pour_45 : decode cX6_pour 45 = .ok (.iload 4, 2) := by decide +kernel
theorem dX6_pour_47 : decode cX6_pour 47 = .ok (.invokevirtual 268, 3) := by decide +kernel
theorem dX6_pour_50 : decode cX6_pour 50 = .ok (.ifCond .eq 54, 3) := by decide +kernel
theorem dX6_pour_53 : decode cX6_pour 53 = .ok (.aload_n 2, 1) := by decide +kernel
theorem dX6_pour_54 : decode cX6_pour 54 = .ok (.getfield 263, 3) := by decide +kernel
theorem dX6_pour_57 : decode cX6_pour 57 = .ok (.iload 4, 2) := by decide +kernel
theorem dX6_pour_59 : decode cX6_pour 59 = .ok (.iaload, 1) := by decide +kernel
theorem dX6_pour_60 : decode cX6_pour 60 = .ok (.iconst 0, 1) := by decide +kernel
theorem dX6_pour_61 : decode cX6_pour 61 = .ok (.bipush 99, 2) := by decide +kernel
theorem dX6_pour_63 : decode cX6_pour 63 = .ok (.invokestatic 271, 3) := by decide +kernel
theorem dX6_pour_66 : decode cX6_pour 66 = .ok (.istore 5, 2) := by decide +kernel
theorem dX6_pour_68 : decode cX6_pour 68 = .ok (.iload 5, 2) := by decide +kernel
theorem dX6_pour_70 : decode cX6_pour 70 = .ok (.aload_n 0, 1) := by decide +kernel
theorem dX6_pour_71 : decode cX6_pour 71 = .ok (.getfield 10, 3) := by decide +kernel
theorem dX6_pour_74 : decode cX6_pour 74 = .ok (.getfield 73, 3) := by decide +kernel
theorem dX6_pour_77 : decode cX6_pour 77 = .ok (.iload 4, 2) := by decide +kernel
theorem dX6_pour_79 : decode cX6_pour 79 = .ok (.aaload, 1) := by decide +kernel
theorem dX6_pour_80 : decode cX6_pour 80 = .ok (.getfield 111, 3) := by decide +kernel
theorem dX6_pour_83 : decode cX6_pour 83 = .ok (.if_icmp .eq 6, 3) := by decide +kernel
theorem dX6_pour_86 : decode cX6_pour 86 = .ok (.iinc 3 1, 3) := by decide +kernel
theorem dX6_pour_89 : decode cX6_pour 89 = .ok (.aload_n 0, 1) := by decide +kernel
theorem dX6_pour_90 : decode cX6_pour 90 = .ok (.getfield 10, 3) := by decide +kernel
theorem dX6_pour_93 : decode cX6_pour 93 = .ok (.getfield 73, 3) := by decide +kernel
theorem dX6_pour_96 : decode cX6_pour 96 = .ok (.iload 4, 2) := by decide +kernel
theorem dX6_pour_98 : decode cX6_pour 98 = .ok (.aaload, 1) := by decide +kernel
theorem dX6_pour_99 : decode cX6_pour 99 = .ok (.iload 5, 2) := by decide +kernel
theorem dX6_pour_101 : decode cX6_pour 101 = .ok (.putfield 111, 3) := by decide +kernel
theorem dX6_pour_104 : decode cX6_pour 104 = .ok (.iinc 4 1, 3) := by decide +kernel
theorem dX6_pour_107 : decode cX6_pour 107 = .ok (.goto (-75), 3) := by decide +kernel
theorem dX6_pour_110 : decode cX6_pour 110 = .ok (.iload_n 3, 1) := by decide +kernel
theorem dX6_pour_111 : decode cX6_pour 111 = .ok (.ireturn, 1) := by decide +kernel
theorem dX6_reads_0 : decode cX6_reads 0 = .ok (.iload_n 1, 1) := by decide +kernel
theorem dX6_reads_1 : decode cX6_reads 1 = .ok (.invokestatic 185, 3) := by decide +kernel
theorem dX6_reads_4 : decode cX6_reads 4 = .ok (.ifCond .ne 6, 3) := by decide +kernel
theorem dX6_reads_7 : decode cX6_reads 7 = .ok (.ldc 60, 2) := by decide +kernel
theorem dX6_reads_9 : decode cX6_reads 9 = .ok (.ireturn, 1) := by decide +kernel
theorem dX6_reads_10 : decode cX6_reads 10 = .ok (.aload_n 0, 1) := by decide +kernel
theorem dX6_reads_11 : decode cX6_reads 11 = .ok (.getfield 31, 3) := by decide +kernel
theorem dX6_reads_14 : decode cX6_reads 14 = .ok (.iload_n 1, 1) := by decide +kernel
theorem dX6_reads_15 : decode cX6_reads 15 = .ok (.aaload, 1) := by decide +kernel
theorem dX6_reads_16 : decode cX6_reads 16 = .ok (.astore_n 2, 1) := by decide +kernel
theorem dX6_reads_17 : decode cX6_reads 17 = .ok (.aload_n 2, 1) := by decide +kernel
theorem dX6_reads_18 : decode cX6_reads 18 = .ok (.invokevirtual 188, 3) := by decide +kernel
theorem dX6_reads_21 : decode cX6_reads 21 = .ok (.ifCond .eq 6, 3) := by decide +kernel
theorem dX6_reads_24 : decode cX6_reads 24 = .ok (.ldc 192, 2) := by decide +kernel
theorem dX6_reads_26 : decode cX6_reads 26 = .ok (.ireturn, 1) := by decide +kernel
theorem dX6_reads_27 : decode cX6_reads 27 = .ok (.aload_n 0, 1) := by decide +kernel
theorem dX6_reads_28 : decode cX6_reads 28 = .ok (.getfield 10, 3) := by decide +kernel
theorem dX6_reads_31 : decode cX6_reads 31 = .ok (.invokevirtual 138, 3) := by decide +kernel
theorem dX6_reads_34 : decode cX6_reads 34 = .ok (.iconst 0, 1) := by decide +kernel
theorem dX6_reads_35 : decode cX6_reads 35 = .ok (.istore_n 3, 1) := by decide +kernel
theorem dX6_reads_36 : decode cX6_reads 36 = .ok (.iload_n 3, 1) := by decide +kernel
theorem dX6_reads_37 : decode cX6_reads 37 = .ok (.aload_n 2, 1) := by decide +kernel
theorem dX6_reads_38 : decode cX6_reads 38 = .ok (.getfield 274, 3) := by decide +kernel
theorem dX6_reads_41 : decode cX6_reads 41 = .ok (.if_icmp .ge 60, 3) := by decide +kernel
theorem dX6_reads_44 : decode cX6_reads 44 = .ok (.aload_n 0, 1) := by decide +kernel
theorem dX6_reads_45 : decode cX6_reads 45 = .ok (.getfield 10, 3) := by decide +kernel
theorem dX6_reads_48 : decode cX6_reads 48 = .ok (.iload_n 3, 1) := by decide +kernel
theorem dX6_reads_49 : decode cX6_reads 49 = .ok (.invokevirtual 70, 3) := by decide +kernel
theorem dX6_reads_52 : decode cX6_reads 52 = .ok (.ifCond .eq 25, 3) := by decide +kernel
theorem dX6_reads_55 : decode cX6_reads 55 = .ok (.aload_n 2, 1) := by decide +kernel
theorem dX6_reads_56 : decode cX6_reads 56 = .ok (.getfield 263, 3) := by decide +kernel
theorem dX6_reads_59 : decode cX6_reads 59 = .ok (.iload_n 3, 1) := by decide +kernel
theorem dX6_reads_60 : decode cX6_reads 60 = .ok (.iaload, 1) := by decide +kernel
theorem dX6_reads_61 : decode cX6_reads 61 = .ok (.aload_n 0, 1) := by decide +kernel
theorem dX6_reads_62 : decode cX6_reads 62 = .ok (.getfield 10, 3) := by decide +kernel
theorem dX6_reads_65 : decode cX6_reads 65 = .ok (.getfield 141, 3) := by decide +kernel
theorem dX6_reads_68 : decode cX6_reads 68 = .ok (.iload_n 3, 1) := by decide +kernel
theorem dX6_reads_69 : decode cX6_reads 69 = .ok (.iaload, 1) := by decide +kernel
theorem dX6_reads_70 : decode cX6_reads 70 = .ok (.if_icmp .ne 7, 3) := by decide +kernel
theorem dX6_reads_73 : decode cX6_reads 73 = .ok (.iconst 1, 1) := by decide +kernel
theorem dX6_reads_74 : decode cX6_reads 74 = .ok (.goto 4, 3) := by decide +kernel
theorem dX6_reads_77 : decode cX6_reads 77 = .ok (.iconst 0, 1) := by decide +kernel
theorem dX6_reads_78 : decode cX6_reads 78 = .ok (.istore 4, 2) := by decide +kernel
theorem dX6_reads_80 : decode cX6_reads 80 = .ok (.aload_n 2, 1) := by decide +kernel
theorem dX6_reads_81 : decode cX6_reads 81 = .ok (.iload_n 3, 1) := by decide +kernel
theorem dX6_reads_82 : decode cX6_reads 82 = .ok (.invokevirtual 268, 3) := by decide +kernel
theorem dX6_reads_85 : decode cX6_reads 85 = .ok (.ifCond .eq 10, 3) := by decide +kernel
theorem dX6_reads_88 : decode cX6_reads 88 = .ok (.iload 4, 2) := by decide +kernel
theorem dX6_reads_90 : decode cX6_reads 90 = .ok (.ifCond .ne 5, 3) := by decide +kernel
theorem dX6_reads_93 : decode cX6_reads 93 = .ok (.iload_n 3, 1) := by decide +kernel
theorem dX6_reads_94 : decode cX6_reads 94 = .ok (.ireturn, 1) := by decide +kernel
theorem dX6_reads_95 : decode cX6_reads 95 = .ok (.iinc 3 1, 3) := by decide +kernel
theorem dX6_reads_98 : decode cX6_reads 98 = .ok (.goto (-62), 3) := by decide +kernel
theorem dX6_reads_101 : decode cX6_reads 101 = .ok (.ldc 178, 2) := by decide +kernel
theorem dX6_reads_103 : decode cX6_reads 103 = .ok (.ireturn, 1) := by decide +kernel
theorem dX6_copy_0 : decode cX6_copy 0 = .ok (.iload_n 1, 1) := by decide +kernel
theorem dX6_copy_1 : decode cX6_copy 1 = .ok (.invokestatic 185, 3) := by decide +kernel
theorem dX6_copy_4 : decode cX6_copy 4 = .ok (.ifCond .eq 10, 3) := by decide +kernel
theorem dX6_copy_7 : decode cX6_copy 7 = .ok (.iload_n 3, 1) := by decide +kernel
theorem dX6_copy_8 : decode cX6_copy 8 = .ok (.invokestatic 185, 3) := by decide +kernel
theorem dX6_copy_11 : decode cX6_copy 11 = .ok (.ifCond .ne 6, 3) := by decide +kernel
theorem dX6_copy_14 : decode cX6_copy 14 = .ok (.ldc 60, 2) := by decide +kernel
theorem dX6_copy_16 : decode cX6_copy 16 = .ok (.ireturn, 1) := by decide +kernel
theorem dX6_copy_17 : decode cX6_copy 17 = .ok (.aload_n 0, 1) := by decide +kernel
theorem dX6_copy_18 : decode cX6_copy 18 = .ok (.getfield 31, 3) := by decide +kernel
theorem dX6_copy_21 : decode cX6_copy 21 = .ok (.iload_n 1, 1) := by decide +kernel
theorem dX6_copy_22 : decode cX6_copy 22 = .ok (.aaload, 1) := by decide +kernel
theorem dX6_copy_23 : decode cX6_copy 23 = .ok (.astore 6, 2) := by decide +kernel
theorem dX6_copy_25 : decode cX6_copy 25 = .ok (.aload_n 0, 1) := by decide +kernel
theorem dX6_copy_26 : decode cX6_copy 26 = .ok (.getfield 31, 3) := by decide +kernel
theorem dX6_copy_29 : decode cX6_copy 29 = .ok (.iload_n 3, 1) := by decide +kernel
theorem dX6_copy_30 : decode cX6_copy 30 = .ok (.aaload, 1) := by decide +kernel
theorem dX6_copy_31 : decode cX6_copy 31 = .ok (.astore 7, 2) := by decide +kernel
theorem dX6_copy_33 : decode cX6_copy 33 = .ok (.aload 6, 2) := by decide +kernel
theorem dX6_copy_35 : decode cX6_copy 35 = .ok (.invokevirtual 188, 3) := by decide +kernel
theorem dX6_copy_38 : decode cX6_copy 38 = .ok (.ifCond .ne 11, 3) := by decide +kernel
theorem dX6_copy_41 : decode cX6_copy 41 = .ok (.aload 7, 2) := by decide +kernel
theorem dX6_copy_43 : decode cX6_copy 43 = .ok (.invokevirtual 188, 3) := by decide +kernel
theorem dX6_copy_46 : decode cX6_copy 46 = .ok (.ifCond .eq 6, 3) := by decide +kernel
theorem dX6_copy_49 : decode cX6_copy 49 = .ok (.ldc 192, 2) := by decide +kernel
theorem dX6_copy_51 : decode cX6_copy 51 = .ok (.ireturn, 1) := by decide +kernel
theorem dX6_copy_52 : decode cX6_copy 52 = .ok (.aload 6, 2) := by decide +kernel
theorem dX6_copy_54 : decode cX6_copy 54 = .ok (.getfield 260, 3) := by decide +kernel
theorem dX6_copy_57 : decode cX6_copy 57 = .ok (.aload 7, 2) := by decide +kernel
theorem dX6_copy_59 : decode cX6_copy 59 = .ok (.getfield 260, 3) := by decide +kernel
theorem dX6_copy_62 : decode cX6_copy 62 = .ok (.if_icmp .eq 6, 3) := by decide +kernel
theorem dX6_copy_65 : decode cX6_copy 65 = .ok (.ldc 101, 2) := by decide +kernel
theorem dX6_copy_67 : decode cX6_copy 67 = .ok (.ireturn, 1) := by decide +kernel
theorem dX6_copy_68 : decode cX6_copy 68 = .ok (.aload 6, 2) := by decide +kernel
theorem dX6_copy_70 : decode cX6_copy 70 = .ok (.iload_n 2, 1) := by decide +kernel
theorem dX6_copy_71 : decode cX6_copy 71 = .ok (.iload 5, 2) := by decide +kernel
theorem dX6_copy_73 : decode cX6_copy 73 = .ok (.invokevirtual 277, 3) := by decide +kernel
theorem dX6_copy_76 : decode cX6_copy 76 = .ok (.ifCond .eq 15, 3) := by decide +kernel
theorem dX6_copy_79 : decode cX6_copy 79 = .ok (.aload 7, 2) := by decide +kernel
theorem dX6_copy_81 : decode cX6_copy 81 = .ok (.iload 4, 2) := by decide +kernel
theorem dX6_copy_83 : decode cX6_copy 83 = .ok (.iload 5, 2) := by decide +kernel
theorem dX6_copy_85 : decode cX6_copy 85 = .ok (.invokevirtual 277, 3) := by decide +kernel
theorem dX6_copy_88 : decode cX6_copy 88 = .ok (.ifCond .ne 7, 3) := by decide +kernel
theorem dX6_copy_91 : decode cX6_copy 91 = .ok (.ldc_w 259, 3) := by decide +kernel
theorem dX6_copy_94 : decode cX6_copy 94 = .ok (.ireturn, 1) := by decide +kernel
theorem dX6_copy_95 : decode cX6_copy 95 = .ok (.aload 6, 2) := by decide +kernel
theorem dX6_copy_97 : decode cX6_copy 97 = .ok (.getfield 263, 3) := by decide +kernel
theorem dX6_copy_100 : decode cX6_copy 100 = .ok (.iload_n 2, 1) := by decide +kernel
theorem dX6_copy_101 : decode cX6_copy 101 = .ok (.aload 7, 2) := by decide +kernel
theorem dX6_copy_103 : decode cX6_copy 103 = .ok (.getfield 263, 3) := by decide +kernel
theorem dX6_copy_106 : decode cX6_copy 106 = .ok (.iload 4, 2) := by decide +kernel
theorem dX6_copy_108 : decode cX6_copy 108 = .ok (.iload 5, 2) := by decide +kernel
theorem dX6_copy_110 : decode cX6_copy 110 = .ok (.invokestatic 281, 3) := by decide +kernel
theorem dX6_copy_113 : decode cX6_copy 113 = .ok (.iload 5, 2) := by decide +kernel
theorem dX6_copy_115 : decode cX6_copy 115 = .ok (.ireturn, 1) := by decide +kernel
theorem dX6_lay_0 : decode cX6_lay 0 = .ok (.iload_n 1, 1) := by decide +kernel
theorem dX6_lay_1 : decode cX6_lay 1 = .ok (.invokestatic 287, 3) := by decide +kernel
theorem dX6_lay_4 : decode cX6_lay 4 = .ok (.ifCond .eq 21, 3) := by decide +kernel
theorem dX6_lay_7 : decode cX6_lay 7 = .ok (.iload_n 2, 1) := by decide +kernel
theorem dX6_lay_8 : decode cX6_lay 8 = .ok (.iconst 0, 1) := by decide +kernel
theorem dX6_lay_9 : decode cX6_lay 9 = .ok (.iconst 3, 1) := by decide +kernel
theorem dX6_lay_10 : decode cX6_lay 10 = .ok (.invokestatic 56, 3) := by decide +kernel
theorem dX6_lay_13 : decode cX6_lay 13 = .ok (.ifCond .eq 12, 3) := by decide +kernel
theorem dX6_lay_16 : decode cX6_lay 16 = .ok (.aload_n 0, 1) := by decide +kernel
theorem dX6_lay_17 : decode cX6_lay 17 = .ok (.iload_n 2, 1) := by decide +kernel
theorem dX6_lay_18 : decode cX6_lay 18 = .ok (.iload_n 3, 1) := by decide +kernel
theorem dX6_lay_19 : decode cX6_lay 19 = .ok (.invokevirtual 290, 3) := by decide +kernel
theorem dX6_lay_22 : decode cX6_lay 22 = .ok (.ifCond .ne 6, 3) := by decide +kernel
theorem dX6_lay_25 : decode cX6_lay 25 = .ok (.ldc 60, 2) := by decide +kernel
theorem dX6_lay_27 : decode cX6_lay 27 = .ok (.ireturn, 1) := by decide +kernel
theorem dX6_lay_28 : decode cX6_lay 28 = .ok (.iload_n 2, 1) := by decide +kernel
theorem dX6_lay_29 : decode cX6_lay 29 = .ok (.iconst 2, 1) := by decide +kernel
theorem dX6_lay_30 : decode cX6_lay 30 = .ok (.if_icmp .ne 18, 3) := by decide +kernel
theorem dX6_lay_33 : decode cX6_lay 33 = .ok (.aload_n 0, 1) := by decide +kernel
theorem dX6_lay_34 : decode cX6_lay 34 = .ok (.getfield 31, 3) := by decide +kernel
theorem dX6_lay_37 : decode cX6_lay 37 = .ok (.iload_n 3, 1) := by decide +kernel
theorem dX6_lay_38 : decode cX6_lay 38 = .ok (.aaload, 1) := by decide +kernel
theorem dX6_lay_39 : decode cX6_lay 39 = .ok (.invokevirtual 188, 3) := by decide +kernel
theorem dX6_lay_42 : decode cX6_lay 42 = .ok (.ifCond .eq 6, 3) := by decide +kernel
theorem dX6_lay_45 : decode cX6_lay 45 = .ok (.ldc 192, 2) := by decide +kernel
theorem dX6_lay_47 : decode cX6_lay 47 = .ok (.ireturn, 1) := by decide +kernel
theorem dX6_lay_48 : decode cX6_lay 48 = .ok (.aload_n 0, 1) := by decide +kernel
theorem dX6_lay_49 : decode cX6_lay 49 = .ok (.getfield 37, 3) := by decide +kernel
theorem dX6_lay_52 : decode cX6_lay 52 = .ok (.iload_n 1, 1) := by decide +kernel
theorem dX6_lay_53 : decode cX6_lay 53 = .ok (.aaload, 1) := by decide +kernel
theorem dX6_lay_54 : decode cX6_lay 54 = .ok (.astore 4, 2) := by decide +kernel
theorem dX6_lay_56 : decode cX6_lay 56 = .ok (.aload 4, 2) := by decide +kernel
theorem dX6_lay_58 : decode cX6_lay 58 = .ok (.getfield 293, 3) := by decide +kernel
theorem dX6_lay_61 : decode cX6_lay 61 = .ok (.istore 5, 2) := by decide +kernel
theorem dX6_lay_63 : decode cX6_lay 63 = .ok (.aload 4, 2) := by decide +kernel
theorem dX6_lay_65 : decode cX6_lay 65 = .ok (.iload_n 2, 1) := by decide +kernel
theorem dX6_lay_66 : decode cX6_lay 66 = .ok (.putfield 293, 3) := by decide +kernel
theorem dX6_lay_69 : decode cX6_lay 69 = .ok (.iload_n 2, 1) := by decide +kernel
theorem dX6_lay_70 : decode cX6_lay 70 = .ok (.iconst 1, 1) := by decide +kernel
theorem dX6_lay_71 : decode cX6_lay 71 = .ok (.if_icmp .ne 23, 3) := by decide +kernel
theorem dX6_lay_74 : decode cX6_lay 74 = .ok (.aload 4, 2) := by decide +kernel
theorem dX6_lay_76 : decode cX6_lay 76 = .ok (.getfield 296, 3) := by decide +kernel
theorem dX6_lay_79 : decode cX6_lay 79 = .ok (.aload_n 0, 1) := by decide +kernel
theorem dX6_lay_80 : decode cX6_lay 80 = .ok (.getfield 10, 3) := by decide +kernel
theorem dX6_lay_83 : decode cX6_lay 83 = .ok (.getfield 73, 3) := by decide +kernel
theorem dX6_lay_86 : decode cX6_lay 86 = .ok (.iload_n 3, 1) := by decide +kernel
theorem dX6_lay_87 : decode cX6_lay 87 = .ok (.aaload, 1) := by decide +kernel
