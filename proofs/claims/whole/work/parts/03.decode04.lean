theorem dX7_takesE_288 : decode cX7_takesE 288 = .ok (.if_icmp .le 16, 3) := by decide +kernel
theorem dX7_takesE_291 : decode cX7_takesE 291 = .ok (.aload_n 0, 1) := by decide +kernel
theorem dX7_takesE_292 : decode cX7_takesE 292 = .ok (.getfield 55, 3) := by decide +kernel
theorem dX7_takesE_295 : decode cX7_takesE 295 = .ok (.iload_n 1, 1) := by decide +kernel
theorem dX7_takesE_296 : decode cX7_takesE 296 = .ok (.baload, 1) := by decide +kernel
theorem dX7_takesE_297 : decode cX7_takesE 297 = .ok (.ifCond .eq 7, 3) := by decide +kernel
theorem dX7_takesE_300 : decode cX7_takesE 300 = .ok (.iconst 1, 1) := by decide +kernel
theorem dX7_takesE_301 : decode cX7_takesE 301 = .ok (.goto 4, 3) := by decide +kernel
theorem dX7_takesE_304 : decode cX7_takesE 304 = .ok (.iconst 0, 1) := by decide +kernel
theorem dX7_takesE_305 : decode cX7_takesE 305 = .ok (.bastore, 1) := by decide +kernel
theorem dX7_takesE_306 : decode cX7_takesE 306 = .ok (.aload_n 0, 1) := by decide +kernel
theorem dX7_takesE_307 : decode cX7_takesE 307 = .ok (.iload 4, 2) := by decide +kernel
theorem dX7_takesE_309 : decode cX7_takesE 309 = .ok (.invokestatic 236, 3) := by decide +kernel
theorem dX7_takesE_312 : decode cX7_takesE 312 = .ok (.invokevirtual 248, 3) := by decide +kernel
theorem dX7_takesE_315 : decode cX7_takesE 315 = .ok (.aload_n 0, 1) := by decide +kernel
theorem dX7_takesE_316 : decode cX7_takesE 316 = .ok (.getfield 52, 3) := by decide +kernel
theorem dX7_takesE_319 : decode cX7_takesE 319 = .ok (.aload_n 0, 1) := by decide +kernel
theorem dX7_takesE_320 : decode cX7_takesE 320 = .ok (.getfield 233, 3) := by decide +kernel
theorem dX7_takesE_323 : decode cX7_takesE 323 = .ok (.iload 4, 2) := by decide +kernel
theorem dX7_takesE_325 : decode cX7_takesE 325 = .ok (.iastore, 1) := by decide +kernel
theorem dX7_takesE_326 : decode cX7_takesE 326 = .ok (.aload_n 0, 1) := by decide +kernel
theorem dX7_takesE_327 : decode cX7_takesE 327 = .ok (.dup, 1) := by decide +kernel
theorem dX7_takesE_328 : decode cX7_takesE 328 = .ok (.getfield 233, 3) := by decide +kernel
theorem dX7_takesE_331 : decode cX7_takesE 331 = .ok (.iconst 1, 1) := by decide +kernel
theorem dX7_takesE_332 : decode cX7_takesE 332 = .ok (.iadd, 1) := by decide +kernel
theorem dX7_takesE_333 : decode cX7_takesE 333 = .ok (.putfield 233, 3) := by decide +kernel
theorem dX7_takesE_336 : decode cX7_takesE 336 = .ok (.iconst 1, 1) := by decide +kernel
theorem dX7_takesE_337 : decode cX7_takesE 337 = .ok (.istore_n 3, 1) := by decide +kernel
theorem dX7_takesE_338 : decode cX7_takesE 338 = .ok (.aload_n 0, 1) := by decide +kernel
theorem dX7_takesE_339 : decode cX7_takesE 339 = .ok (.invokevirtual 230, 3) := by decide +kernel
theorem dX7_takesE_342 : decode cX7_takesE 342 = .ok (.goto (-314), 3) := by decide +kernel
theorem dX7_takesE_345 : decode cX7_takesE 345 = .ok (.aload_n 0, 1) := by decide +kernel
theorem dX7_takesE_346 : decode cX7_takesE 346 = .ok (.iconst 0, 1) := by decide +kernel
theorem dX7_takesE_347 : decode cX7_takesE 347 = .ok (.invokevirtual 248, 3) := by decide +kernel
theorem dX7_takesE_350 : decode cX7_takesE 350 = .ok (.iload_n 1, 1) := by decide +kernel
theorem dX7_takesE_351 : decode cX7_takesE 351 = .ok (.ifCond .ne 7, 3) := by decide +kernel
theorem dX7_takesE_354 : decode cX7_takesE 354 = .ok (.iconst 1, 1) := by decide +kernel
theorem dX7_takesE_355 : decode cX7_takesE 355 = .ok (.goto 4, 3) := by decide +kernel
theorem dX7_takesE_358 : decode cX7_takesE 358 = .ok (.iconst 0, 1) := by decide +kernel
theorem dX7_takesE_359 : decode cX7_takesE 359 = .ok (.ireturn, 1) := by decide +kernel
theorem dX7_notsOpen_0 : decode cX7_notsOpen 0 = .ok (.iconst 0, 1) := by decide +kernel
theorem dX7_notsOpen_1 : decode cX7_notsOpen 1 = .ok (.istore_n 1, 1) := by decide +kernel
theorem dX7_notsOpen_2 : decode cX7_notsOpen 2 = .ok (.iconst 0, 1) := by decide +kernel
theorem dX7_notsOpen_3 : decode cX7_notsOpen 3 = .ok (.istore_n 2, 1) := by decide +kernel
theorem dX7_notsOpen_4 : decode cX7_notsOpen 4 = .ok (.iload_n 2, 1) := by decide +kernel
theorem dX7_notsOpen_5 : decode cX7_notsOpen 5 = .ok (.aload_n 0, 1) := by decide +kernel
theorem dX7_notsOpen_6 : decode cX7_notsOpen 6 = .ok (.getfield 233, 3) := by decide +kernel
theorem dX7_notsOpen_9 : decode cX7_notsOpen 9 = .ok (.if_icmp .ge 28, 3) := by decide +kernel
theorem dX7_notsOpen_12 : decode cX7_notsOpen 12 = .ok (.iload_n 1, 1) := by decide +kernel
theorem dX7_notsOpen_13 : decode cX7_notsOpen 13 = .ok (.aload_n 0, 1) := by decide +kernel
theorem dX7_notsOpen_14 : decode cX7_notsOpen 14 = .ok (.getfield 52, 3) := by decide +kernel
theorem dX7_notsOpen_17 : decode cX7_notsOpen 17 = .ok (.iload_n 2, 1) := by decide +kernel
theorem dX7_notsOpen_18 : decode cX7_notsOpen 18 = .ok (.iaload, 1) := by decide +kernel
theorem dX7_notsOpen_19 : decode cX7_notsOpen 19 = .ok (.bipush (-10), 2) := by decide +kernel
theorem dX7_notsOpen_21 : decode cX7_notsOpen 21 = .ok (.if_icmp .ne 7, 3) := by decide +kernel
theorem dX7_notsOpen_24 : decode cX7_notsOpen 24 = .ok (.iconst 1, 1) := by decide +kernel
theorem dX7_notsOpen_25 : decode cX7_notsOpen 25 = .ok (.goto 4, 3) := by decide +kernel
theorem dX7_notsOpen_28 : decode cX7_notsOpen 28 = .ok (.iconst 0, 1) := by decide +kernel
theorem dX7_notsOpen_29 : decode cX7_notsOpen 29 = .ok (.iadd, 1) := by decide +kernel
theorem dX7_notsOpen_30 : decode cX7_notsOpen 30 = .ok (.istore_n 1, 1) := by decide +kernel
theorem dX7_notsOpen_31 : decode cX7_notsOpen 31 = .ok (.iinc 2 1, 3) := by decide +kernel
theorem dX7_notsOpen_34 : decode cX7_notsOpen 34 = .ok (.goto (-30), 3) := by decide +kernel
theorem dX7_notsOpen_37 : decode cX7_notsOpen 37 = .ok (.iload_n 1, 1) := by decide +kernel
theorem dX7_notsOpen_38 : decode cX7_notsOpen 38 = .ok (.ireturn, 1) := by decide +kernel
theorem dX7_text_0 : decode cX7_text 0 = .ok (.aload_n 0, 1) := by decide +kernel
theorem dX7_text_1 : decode cX7_text 1 = .ok (.iconst 0, 1) := by decide +kernel
theorem dX7_text_2 : decode cX7_text 2 = .ok (.putfield 206, 3) := by decide +kernel
theorem dX7_text_5 : decode cX7_text 5 = .ok (.aload_n 0, 1) := by decide +kernel
theorem dX7_text_6 : decode cX7_text 6 = .ok (.iconst (-1), 1) := by decide +kernel
theorem dX7_text_7 : decode cX7_text 7 = .ok (.putfield 212, 3) := by decide +kernel
theorem dX7_text_10 : decode cX7_text 10 = .ok (.aload_n 0, 1) := by decide +kernel
theorem dX7_text_11 : decode cX7_text 11 = .ok (.invokevirtual 230, 3) := by decide +kernel
theorem dX7_text_14 : decode cX7_text 14 = .ok (.aload_n 0, 1) := by decide +kernel
theorem dX7_text_15 : decode cX7_text 15 = .ok (.invokevirtual 260, 3) := by decide +kernel
theorem dX7_text_18 : decode cX7_text 18 = .ok (.ifCond .eq 14, 3) := by decide +kernel
theorem dX7_text_21 : decode cX7_text 21 = .ok (.aload_n 0, 1) := by decide +kernel
theorem dX7_text_22 : decode cX7_text 22 = .ok (.invokevirtual 263, 3) := by decide +kernel
theorem dX7_text_25 : decode cX7_text 25 = .ok (.ifCond .eq 7, 3) := by decide +kernel
theorem dX7_text_28 : decode cX7_text 28 = .ok (.iconst 1, 1) := by decide +kernel
theorem dX7_text_29 : decode cX7_text 29 = .ok (.goto 4, 3) := by decide +kernel
theorem dX7_text_32 : decode cX7_text 32 = .ok (.iconst 0, 1) := by decide +kernel
theorem dX7_text_33 : decode cX7_text 33 = .ok (.istore_n 1, 1) := by decide +kernel
theorem dX7_text_34 : decode cX7_text 34 = .ok (.aload_n 0, 1) := by decide +kernel
theorem dX7_text_35 : decode cX7_text 35 = .ok (.iconst 0, 1) := by decide +kernel
theorem dX7_text_36 : decode cX7_text 36 = .ok (.putfield 203, 3) := by decide +kernel
theorem dX7_text_39 : decode cX7_text 39 = .ok (.iload_n 1, 1) := by decide +kernel
theorem dX7_text_40 : decode cX7_text 40 = .ok (.ifCond .ne 11, 3) := by decide +kernel
theorem dX7_text_43 : decode cX7_text 43 = .ok (.bipush (-100), 2) := by decide +kernel
theorem dX7_text_45 : decode cX7_text 45 = .ok (.aload_n 0, 1) := by decide +kernel
theorem dX7_text_46 : decode cX7_text 46 = .ok (.getfield 209, 3) := by decide +kernel
theorem dX7_text_49 : decode cX7_text 49 = .ok (.isub, 1) := by decide +kernel
theorem dX7_text_50 : decode cX7_text 50 = .ok (.ireturn, 1) := by decide +kernel
theorem dX7_text_51 : decode cX7_text 51 = .ok (.aload_n 0, 1) := by decide +kernel
theorem dX7_text_52 : decode cX7_text 52 = .ok (.getfield 9, 3) := by decide +kernel
theorem dX7_text_55 : decode cX7_text 55 = .ok (.bipush 7, 2) := by decide +kernel
theorem dX7_text_57 : decode cX7_text 57 = .ok (.iaload, 1) := by decide +kernel
theorem dX7_text_58 : decode cX7_text 58 = .ok (.bipush 14, 2) := by decide +kernel
theorem dX7_text_60 : decode cX7_text 60 = .ok (.if_icmp .ne 6, 3) := by decide +kernel
theorem dX7_text_63 : decode cX7_text 63 = .ok (.ldc 101, 2) := by decide +kernel
theorem dX7_text_65 : decode cX7_text 65 = .ok (.ireturn, 1) := by decide +kernel
theorem dX7_text_66 : decode cX7_text 66 = .ok (.aload_n 0, 1) := by decide +kernel
theorem dX7_text_67 : decode cX7_text 67 = .ok (.getfield 9, 3) := by decide +kernel
theorem dX7_text_70 : decode cX7_text 70 = .ok (.bipush 7, 2) := by decide +kernel
theorem dX7_text_72 : decode cX7_text 72 = .ok (.iaload, 1) := by decide +kernel
theorem dX7_text_73 : decode cX7_text 73 = .ok (.istore_n 2, 1) := by decide +kernel
theorem dX7_text_74 : decode cX7_text 74 = .ok (.aload_n 0, 1) := by decide +kernel
theorem dX7_text_75 : decode cX7_text 75 = .ok (.getfield 9, 3) := by decide +kernel
theorem dX7_text_78 : decode cX7_text 78 = .ok (.bipush 78, 2) := by decide +kernel
theorem dX7_text_80 : decode cX7_text 80 = .ok (.iconst 2, 1) := by decide +kernel
theorem dX7_text_81 : decode cX7_text 81 = .ok (.iload_n 2, 1) := by decide +kernel
theorem dX7_text_82 : decode cX7_text 82 = .ok (.imul, 1) := by decide +kernel
theorem dX7_text_83 : decode cX7_text 83 = .ok (.iadd, 1) := by decide +kernel
theorem dX7_text_84 : decode cX7_text 84 = .ok (.sipush 1000, 3) := by decide +kernel
theorem dX7_text_87 : decode cX7_text 87 = .ok (.aload_n 0, 1) := by decide +kernel
theorem dX7_text_88 : decode cX7_text 88 = .ok (.getfield 227, 3) := by decide +kernel
theorem dX7_text_91 : decode cX7_text 91 = .ok (.imul, 1) := by decide +kernel
theorem dX7_text_92 : decode cX7_text 92 = .ok (.aload_n 0, 1) := by decide +kernel
theorem dX7_text_93 : decode cX7_text 93 = .ok (.getfield 239, 3) := by decide +kernel
theorem dX7_text_96 : decode cX7_text 96 = .ok (.iadd, 1) := by decide +kernel
theorem dX7_text_97 : decode cX7_text 97 = .ok (.iastore, 1) := by decide +kernel
theorem dX7_text_98 : decode cX7_text 98 = .ok (.aload_n 0, 1) := by decide +kernel
theorem dX7_text_99 : decode cX7_text 99 = .ok (.getfield 9, 3) := by decide +kernel
theorem dX7_text_102 : decode cX7_text 102 = .ok (.bipush 78, 2) := by decide +kernel
theorem dX7_text_104 : decode cX7_text 104 = .ok (.iconst 2, 1) := by decide +kernel
theorem dX7_text_105 : decode cX7_text 105 = .ok (.iload_n 2, 1) := by decide +kernel
theorem dX7_text_106 : decode cX7_text 106 = .ok (.imul, 1) := by decide +kernel
theorem dX7_text_107 : decode cX7_text 107 = .ok (.iadd, 1) := by decide +kernel
theorem dX7_text_108 : decode cX7_text 108 = .ok (.iconst 1, 1) := by decide +kernel
theorem dX7_text_109 : decode cX7_text 109 = .ok (.iadd, 1) := by decide +kernel
theorem dX7_text_110 : decode cX7_text 110 = .ok (.aload_n 0, 1) := by decide +kernel
theorem dX7_text_111 : decode cX7_text 111 = .ok (.getfield 245, 3) := by decide +kernel
theorem dX7_text_114 : decode cX7_text 114 = .ok (.iastore, 1) := by decide +kernel
theorem dX7_text_115 : decode cX7_text 115 = .ok (.iconst 0, 1) := by decide +kernel
theorem dX7_text_116 : decode cX7_text 116 = .ok (.istore_n 3, 1) := by decide +kernel
theorem dX7_text_117 : decode cX7_text 117 = .ok (.iload_n 3, 1) := by decide +kernel
theorem dX7_text_118 : decode cX7_text 118 = .ok (.aload_n 0, 1) := by decide +kernel
theorem dX7_text_119 : decode cX7_text 119 = .ok (.getfield 239, 3) := by decide +kernel
theorem dX7_text_122 : decode cX7_text 122 = .ok (.if_icmp .ge 29, 3) := by decide +kernel
theorem dX7_text_125 : decode cX7_text 125 = .ok (.aload_n 0, 1) := by decide +kernel
theorem dX7_text_126 : decode cX7_text 126 = .ok (.getfield 9, 3) := by decide +kernel
theorem dX7_text_129 : decode cX7_text 129 = .ok (.bipush 106, 2) := by decide +kernel
theorem dX7_text_131 : decode cX7_text 131 = .ok (.bipush 96, 2) := by decide +kernel
theorem dX7_text_133 : decode cX7_text 133 = .ok (.iload_n 2, 1) := by decide +kernel
theorem dX7_text_134 : decode cX7_text 134 = .ok (.imul, 1) := by decide +kernel
theorem dX7_text_135 : decode cX7_text 135 = .ok (.iadd, 1) := by decide +kernel
theorem dX7_text_136 : decode cX7_text 136 = .ok (.iload_n 3, 1) := by decide +kernel
theorem dX7_text_137 : decode cX7_text 137 = .ok (.iadd, 1) := by decide +kernel
theorem dX7_text_138 : decode cX7_text 138 = .ok (.aload_n 0, 1) := by decide +kernel
theorem dX7_text_139 : decode cX7_text 139 = .ok (.getfield 49, 3) := by decide +kernel
theorem dX7_text_142 : decode cX7_text 142 = .ok (.iload_n 3, 1) := by decide +kernel
theorem dX7_text_143 : decode cX7_text 143 = .ok (.iaload, 1) := by decide +kernel
theorem dX7_text_144 : decode cX7_text 144 = .ok (.iastore, 1) := by decide +kernel
theorem dX7_text_145 : decode cX7_text 145 = .ok (.iinc 3 1, 3) := by decide +kernel
theorem dX7_text_148 : decode cX7_text 148 = .ok (.goto (-31), 3) := by decide +kernel
theorem dX7_text_151 : decode cX7_text 151 = .ok (.aload_n 0, 1) := by decide +kernel
theorem dX7_text_152 : decode cX7_text 152 = .ok (.getfield 9, 3) := by decide +kernel
theorem dX7_text_155 : decode cX7_text 155 = .ok (.bipush 7, 2) := by decide +kernel
theorem dX7_text_157 : decode cX7_text 157 = .ok (.dup2, 1) := by decide +kernel
theorem dX7_text_158 : decode cX7_text 158 = .ok (.iaload, 1) := by decide +kernel
theorem dX7_text_159 : decode cX7_text 159 = .ok (.iconst 1, 1) := by decide +kernel
theorem dX7_text_160 : decode cX7_text 160 = .ok (.iadd, 1) := by decide +kernel
theorem dX7_text_161 : decode cX7_text 161 = .ok (.iastore, 1) := by decide +kernel
theorem dX7_text_162 : decode cX7_text 162 = .ok (.iload_n 2, 1) := by decide +kernel
theorem dX7_text_163 : decode cX7_text 163 = .ok (.ireturn, 1) := by decide +kernel
theorem dX7_textTold_0 : decode cX7_textTold 0 = .ok (.iload_n 1, 1) := by decide +kernel
theorem dX7_textTold_1 : decode cX7_textTold 1 = .ok (.iconst 0, 1) := by decide +kernel
theorem dX7_textTold_2 : decode cX7_textTold 2 = .ok (.aload_n 0, 1) := by decide +kernel
theorem dX7_textTold_3 : decode cX7_textTold 3 = .ok (.getfield 9, 3) := by decide +kernel
theorem dX7_textTold_6 : decode cX7_textTold 6 = .ok (.bipush 7, 2) := by decide +kernel
theorem dX7_textTold_8 : decode cX7_textTold 8 = .ok (.iaload, 1) := by decide +kernel
theorem dX7_textTold_9 : decode cX7_textTold 9 = .ok (.iconst 1, 1) := by decide +kernel
theorem dX7_textTold_10 : decode cX7_textTold 10 = .ok (.isub, 1) := by decide +kernel
theorem dX7_textTold_11 : decode cX7_textTold 11 = .ok (.invokestatic 92, 3) := by decide +kernel
theorem dX7_textTold_14 : decode cX7_textTold 14 = .ok (.ifCond .eq 12, 3) := by decide +kernel
theorem dX7_textTold_17 : decode cX7_textTold 17 = .ok (.iload_n 2, 1) := by decide +kernel
theorem dX7_textTold_18 : decode cX7_textTold 18 = .ok (.iconst 0, 1) := by decide +kernel
theorem dX7_textTold_19 : decode cX7_textTold 19 = .ok (.iconst 1, 1) := by decide +kernel
theorem dX7_textTold_20 : decode cX7_textTold 20 = .ok (.invokestatic 92, 3) := by decide +kernel
theorem dX7_textTold_23 : decode cX7_textTold 23 = .ok (.ifCond .ne 6, 3) := by decide +kernel
theorem dX7_textTold_26 : decode cX7_textTold 26 = .ok (.ldc 100, 2) := by decide +kernel
theorem dX7_textTold_28 : decode cX7_textTold 28 = .ok (.ireturn, 1) := by decide +kernel
theorem dX7_textTold_29 : decode cX7_textTold 29 = .ok (.iload_n 2, 1) := by decide +kernel
theorem dX7_textTold_30 : decode cX7_textTold 30 = .ok (.ifCond .ne 21, 3) := by decide +kernel
theorem dX7_textTold_33 : decode cX7_textTold 33 = .ok (.aload_n 0, 1) := by decide +kernel
theorem dX7_textTold_34 : decode cX7_textTold 34 = .ok (.getfield 9, 3) := by decide +kernel
theorem dX7_textTold_37 : decode cX7_textTold 37 = .ok (.bipush 78, 2) := by decide +kernel
theorem dX7_textTold_39 : decode cX7_textTold 39 = .ok (.iconst 2, 1) := by decide +kernel
theorem dX7_textTold_40 : decode cX7_textTold 40 = .ok (.iload_n 1, 1) := by decide +kernel
theorem dX7_textTold_41 : decode cX7_textTold 41 = .ok (.imul, 1) := by decide +kernel
theorem dX7_textTold_42 : decode cX7_textTold 42 = .ok (.iadd, 1) := by decide +kernel
theorem dX7_textTold_43 : decode cX7_textTold 43 = .ok (.iaload, 1) := by decide +kernel
theorem dX7_textTold_44 : decode cX7_textTold 44 = .ok (.sipush 1000, 3) := by decide +kernel
theorem dX7_textTold_47 : decode cX7_textTold 47 = .ok (.idiv, 1) := by decide +kernel
theorem dX7_textTold_48 : decode cX7_textTold 48 = .ok (.goto 16, 3) := by decide +kernel
theorem dX7_textTold_51 : decode cX7_textTold 51 = .ok (.aload_n 0, 1) := by decide +kernel
theorem dX7_textTold_52 : decode cX7_textTold 52 = .ok (.getfield 9, 3) := by decide +kernel
theorem dX7_textTold_55 : decode cX7_textTold 55 = .ok (.bipush 78, 2) := by decide +kernel
theorem dX7_textTold_57 : decode cX7_textTold 57 = .ok (.iconst 2, 1) := by decide +kernel
theorem dX7_textTold_58 : decode cX7_textTold 58 = .ok (.iload_n 1, 1) := by decide +kernel
theorem dX7_textTold_59 : decode cX7_textTold 59 = .ok (.imul, 1) := by decide +kernel
theorem dX7_textTold_60 : decode cX7_textTold 60 = .ok (.iadd, 1) := by decide +kernel
theorem dX7_textTold_61 : decode cX7_textTold 61 = .ok (.iconst 1, 1) := by decide +kernel
theorem dX7_textTold_62 : decode cX7_textTold 62 = .ok (.iadd, 1) := by decide +kernel
theorem dX7_textTold_63 : decode cX7_textTold 63 = .ok (.iaload, 1) := by decide +kernel
theorem dX7_textTold_64 : decode cX7_textTold 64 = .ok (.ireturn, 1) := by decide +kernel
theorem dX7_counts_0 : decode cX7_counts 0 = .ok (.aload_n 0, 1) := by decide +kernel
theorem dX7_counts_1 : decode cX7_counts 1 = .ok (.getfield 9, 3) := by decide +kernel
theorem dX7_counts_4 : decode cX7_counts 4 = .ok (.bipush 7, 2) := by decide +kernel
theorem dX7_counts_6 : decode cX7_counts 6 = .ok (.iaload, 1) := by decide +kernel
theorem dX7_counts_7 : decode cX7_counts 7 = .ok (.iconst 1, 1) := by decide +kernel
theorem dX7_counts_8 : decode cX7_counts 8 = .ok (.isub, 1) := by decide +kernel
theorem dX7_counts_9 : decode cX7_counts 9 = .ok (.istore_n 2, 1) := by decide +kernel
theorem dX7_counts_10 : decode cX7_counts 10 = .ok (.iload_n 2, 1) := by decide +kernel
theorem dX7_counts_11 : decode cX7_counts 11 = .ok (.ifCond .lt 30, 3) := by decide +kernel
theorem dX7_counts_14 : decode cX7_counts 14 = .ok (.aload_n 0, 1) := by decide +kernel
theorem dX7_counts_15 : decode cX7_counts 15 = .ok (.getfield 9, 3) := by decide +kernel
theorem dX7_counts_18 : decode cX7_counts 18 = .ok (.bipush 78, 2) := by decide +kernel
theorem dX7_counts_20 : decode cX7_counts 20 = .ok (.iconst 2, 1) := by decide +kernel
theorem dX7_counts_21 : decode cX7_counts 21 = .ok (.iload_n 2, 1) := by decide +kernel
theorem dX7_counts_22 : decode cX7_counts 22 = .ok (.imul, 1) := by decide +kernel
theorem dX7_counts_23 : decode cX7_counts 23 = .ok (.iadd, 1) := by decide +kernel
theorem dX7_counts_24 : decode cX7_counts 24 = .ok (.iaload, 1) := by decide +kernel
theorem dX7_counts_25 : decode cX7_counts 25 = .ok (.sipush 1000, 3) := by decide +kernel
theorem dX7_counts_28 : decode cX7_counts 28 = .ok (.idiv, 1) := by decide +kernel
theorem dX7_counts_29 : decode cX7_counts 29 = .ok (.iload_n 1, 1) := by decide +kernel
theorem dX7_counts_30 : decode cX7_counts 30 = .ok (.if_icmp .ne 5, 3) := by decide +kernel
theorem dX7_counts_33 : decode cX7_counts 33 = .ok (.iload_n 2, 1) := by decide +kernel
theorem dX7_counts_34 : decode cX7_counts 34 = .ok (.ireturn, 1) := by decide +kernel
theorem dX7_counts_35 : decode cX7_counts 35 = .ok (.iinc 2 (-1), 3) := by decide +kernel
theorem dX7_counts_38 : decode cX7_counts 38 = .ok (.goto (-28), 3) := by decide +kernel
theorem dX7_counts_41 : decode cX7_counts 41 = .ok (.iconst (-1), 1) := by decide +kernel
theorem dX7_counts_42 : decode cX7_counts 42 = .ok (.ireturn, 1) := by decide +kernel
theorem dX7_why_0 : decode cX7_why 0 = .ok (.iload_n 1, 1) := by decide +kernel
theorem dX7_why_1 : decode cX7_why 1 = .ok (.iconst 0, 1) := by decide +kernel
theorem dX7_why_2 : decode cX7_why 2 = .ok (.iconst 2, 1) := by decide +kernel
theorem dX7_why_3 : decode cX7_why 3 = .ok (.invokestatic 92, 3) := by decide +kernel
theorem dX7_why_6 : decode cX7_why 6 = .ok (.ifCond .ne 6, 3) := by decide +kernel
theorem dX7_why_9 : decode cX7_why 9 = .ok (.ldc 100, 2) := by decide +kernel
theorem dX7_why_11 : decode cX7_why 11 = .ok (.ireturn, 1) := by decide +kernel
theorem dX7_why_12 : decode cX7_why 12 = .ok (.aload_n 0, 1) := by decide +kernel
theorem dX7_why_13 : decode cX7_why 13 = .ok (.iload_n 1, 1) := by decide +kernel
theorem dX7_why_14 : decode cX7_why 14 = .ok (.invokevirtual 110, 3) := by decide +kernel
theorem dX7_why_17 : decode cX7_why 17 = .ok (.istore_n 2, 1) := by decide +kernel
theorem dX7_why_18 : decode cX7_why 18 = .ok (.iload_n 2, 1) := by decide +kernel
theorem dX7_why_19 : decode cX7_why 19 = .ok (.ifCond .ge 8, 3) := by decide +kernel
theorem dX7_why_22 : decode cX7_why 22 = .ok (.ldc 91, 2) := by decide +kernel
theorem dX7_why_24 : decode cX7_why 24 = .ok (.goto 4, 3) := by decide +kernel
theorem dX7_why_27 : decode cX7_why 27 = .ok (.iload_n 2, 1) := by decide +kernel
theorem dX7_why_28 : decode cX7_why 28 = .ok (.ireturn, 1) := by decide +kernel
theorem dX7_two_0 : decode cX7_two 0 = .ok (.iload_n 0, 1) := by decide +kernel
theorem dX7_two_1 : decode cX7_two 1 = .ok (.tableswitch 120 (-8) (-1) #[116, 112, 108, 97, 86, 75, 61, 47], 47) := by decide +kernel
theorem dX7_two_48 : decode cX7_two 48 = .ok (.iload_n 1, 1) := by decide +kernel
theorem dX7_two_49 : decode cX7_two 49 = .ok (.ifCond .ne 7, 3) := by decide +kernel
theorem dX7_two_52 : decode cX7_two 52 = .ok (.iload_n 2, 1) := by decide +kernel
theorem dX7_two_53 : decode cX7_two 53 = .ok (.ifCond .eq 7, 3) := by decide +kernel
theorem dX7_two_56 : decode cX7_two 56 = .ok (.iconst 1, 1) := by decide +kernel
theorem dX7_two_57 : decode cX7_two 57 = .ok (.goto 4, 3) := by decide +kernel
theorem dX7_two_60 : decode cX7_two 60 = .ok (.iconst 0, 1) := by decide +kernel
theorem dX7_two_61 : decode cX7_two 61 = .ok (.ireturn, 1) := by decide +kernel
theorem dX7_two_62 : decode cX7_two 62 = .ok (.iload_n 1, 1) := by decide +kernel
theorem dX7_two_63 : decode cX7_two 63 = .ok (.ifCond .eq 11, 3) := by decide +kernel
theorem dX7_two_66 : decode cX7_two 66 = .ok (.iload_n 2, 1) := by decide +kernel
theorem dX7_two_67 : decode cX7_two 67 = .ok (.ifCond .eq 7, 3) := by decide +kernel
theorem dX7_two_70 : decode cX7_two 70 = .ok (.iconst 1, 1) := by decide +kernel
theorem dX7_two_71 : decode cX7_two 71 = .ok (.goto 4, 3) := by decide +kernel
theorem dX7_two_74 : decode cX7_two 74 = .ok (.iconst 0, 1) := by decide +kernel
theorem dX7_two_75 : decode cX7_two 75 = .ok (.ireturn, 1) := by decide +kernel
theorem dX7_two_76 : decode cX7_two 76 = .ok (.iload_n 1, 1) := by decide +kernel
theorem dX7_two_77 : decode cX7_two 77 = .ok (.iload_n 2, 1) := by decide +kernel
theorem dX7_two_78 : decode cX7_two 78 = .ok (.if_icmp .ge 7, 3) := by decide +kernel
theorem dX7_two_81 : decode cX7_two 81 = .ok (.iconst 1, 1) := by decide +kernel
theorem dX7_two_82 : decode cX7_two 82 = .ok (.goto 4, 3) := by decide +kernel
theorem dX7_two_85 : decode cX7_two 85 = .ok (.iconst 0, 1) := by decide +kernel
theorem dX7_two_86 : decode cX7_two 86 = .ok (.ireturn, 1) := by decide +kernel
theorem dX7_two_87 : decode cX7_two 87 = .ok (.iload_n 1, 1) := by decide +kernel
theorem dX7_two_88 : decode cX7_two 88 = .ok (.iload_n 2, 1) := by decide +kernel
theorem dX7_two_89 : decode cX7_two 89 = .ok (.if_icmp .ne 7, 3) := by decide +kernel
theorem dX7_two_92 : decode cX7_two 92 = .ok (.iconst 1, 1) := by decide +kernel
theorem dX7_two_93 : decode cX7_two 93 = .ok (.goto 4, 3) := by decide +kernel
theorem dX7_two_96 : decode cX7_two 96 = .ok (.iconst 0, 1) := by decide +kernel
theorem dX7_two_97 : decode cX7_two 97 = .ok (.ireturn, 1) := by decide +kernel
theorem dX7_two_98 : decode cX7_two 98 = .ok (.iload_n 1, 1) := by decide +kernel
theorem dX7_two_99 : decode cX7_two 99 = .ok (.iload_n 2, 1) := by decide +kernel
theorem dX7_two_100 : decode cX7_two 100 = .ok (.if_icmp .le 7, 3) := by decide +kernel
theorem dX7_two_103 : decode cX7_two 103 = .ok (.iconst 1, 1) := by decide +kernel
theorem dX7_two_104 : decode cX7_two 104 = .ok (.goto 4, 3) := by decide +kernel
theorem dX7_two_107 : decode cX7_two 107 = .ok (.iconst 0, 1) := by decide +kernel
theorem dX7_two_108 : decode cX7_two 108 = .ok (.ireturn, 1) := by decide +kernel
theorem dX7_two_109 : decode cX7_two 109 = .ok (.iload_n 1, 1) := by decide +kernel
theorem dX7_two_110 : decode cX7_two 110 = .ok (.iload_n 2, 1) := by decide +kernel
theorem dX7_two_111 : decode cX7_two 111 = .ok (.iadd, 1) := by decide +kernel
theorem dX7_two_112 : decode cX7_two 112 = .ok (.ireturn, 1) := by decide +kernel
theorem dX7_two_113 : decode cX7_two 113 = .ok (.iload_n 1, 1) := by decide +kernel
theorem dX7_two_114 : decode cX7_two 114 = .ok (.iload_n 2, 1) := by decide +kernel
theorem dX7_two_115 : decode cX7_two 115 = .ok (.isub, 1) := by decide +kernel
theorem dX7_two_116 : decode cX7_two 116 = .ok (.ireturn, 1) := by decide +kernel
theorem dX7_two_117 : decode cX7_two 117 = .ok (.iload_n 1, 1) := by decide +kernel
theorem dX7_two_118 : decode cX7_two 118 = .ok (.iload_n 2, 1) := by decide +kernel
theorem dX7_two_119 : decode cX7_two 119 = .ok (.imul, 1) := by decide +kernel
theorem dX7_two_120 : decode cX7_two 120 = .ok (.ireturn, 1) := by decide +kernel
theorem dX7_two_121 : decode cX7_two 121 = .ok (.iload_n 2, 1) := by decide +kernel
theorem dX7_two_122 : decode cX7_two 122 = .ok (.ifCond .ne 7, 3) := by decide +kernel
theorem dX7_two_125 : decode cX7_two 125 = .ok (.iconst 0, 1) := by decide +kernel
theorem dX7_two_126 : decode cX7_two 126 = .ok (.goto 6, 3) := by decide +kernel
theorem dX7_two_129 : decode cX7_two 129 = .ok (.iload_n 1, 1) := by decide +kernel
theorem dX7_two_130 : decode cX7_two 130 = .ok (.iload_n 2, 1) := by decide +kernel
theorem dX7_two_131 : decode cX7_two 131 = .ok (.idiv, 1) := by decide +kernel
theorem dX7_two_132 : decode cX7_two 132 = .ok (.ireturn, 1) := by decide +kernel
theorem dX7_worksOut_0 : decode cX7_worksOut 0 = .ok (.iconst 0, 1) := by decide +kernel
theorem dX7_worksOut_1 : decode cX7_worksOut 1 = .ok (.istore_n 2, 1) := by decide +kernel
theorem dX7_worksOut_2 : decode cX7_worksOut 2 = .ok (.aload_n 0, 1) := by decide +kernel
theorem dX7_worksOut_3 : decode cX7_worksOut 3 = .ok (.getfield 9, 3) := by decide +kernel
theorem dX7_worksOut_6 : decode cX7_worksOut 6 = .ok (.bipush 78, 2) := by decide +kernel
theorem dX7_worksOut_8 : decode cX7_worksOut 8 = .ok (.iconst 2, 1) := by decide +kernel
theorem dX7_worksOut_9 : decode cX7_worksOut 9 = .ok (.iload_n 1, 1) := by decide +kernel
theorem dX7_worksOut_10 : decode cX7_worksOut 10 = .ok (.imul, 1) := by decide +kernel
theorem dX7_worksOut_11 : decode cX7_worksOut 11 = .ok (.iadd, 1) := by decide +kernel
theorem dX7_worksOut_12 : decode cX7_worksOut 12 = .ok (.iaload, 1) := by decide +kernel
theorem dX7_worksOut_13 : decode cX7_worksOut 13 = .ok (.sipush 1000, 3) := by decide +kernel
theorem dX7_worksOut_16 : decode cX7_worksOut 16 = .ok (.irem, 1) := by decide +kernel
theorem dX7_worksOut_17 : decode cX7_worksOut 17 = .ok (.istore_n 3, 1) := by decide +kernel
theorem dX7_worksOut_18 : decode cX7_worksOut 18 = .ok (.iconst 0, 1) := by decide +kernel
theorem dX7_worksOut_19 : decode cX7_worksOut 19 = .ok (.istore 4, 2) := by decide +kernel
theorem dX7_worksOut_21 : decode cX7_worksOut 21 = .ok (.iload 4, 2) := by decide +kernel
theorem dX7_worksOut_23 : decode cX7_worksOut 23 = .ok (.iload_n 3, 1) := by decide +kernel
theorem dX7_worksOut_24 : decode cX7_worksOut 24 = .ok (.if_icmp .ge 131, 3) := by decide +kernel
theorem dX7_worksOut_27 : decode cX7_worksOut 27 = .ok (.aload_n 0, 1) := by decide +kernel
theorem dX7_worksOut_28 : decode cX7_worksOut 28 = .ok (.getfield 9, 3) := by decide +kernel
theorem dX7_worksOut_31 : decode cX7_worksOut 31 = .ok (.bipush 106, 2) := by decide +kernel
theorem dX7_worksOut_33 : decode cX7_worksOut 33 = .ok (.bipush 96, 2) := by decide +kernel
theorem dX7_worksOut_35 : decode cX7_worksOut 35 = .ok (.iload_n 1, 1) := by decide +kernel
theorem dX7_worksOut_36 : decode cX7_worksOut 36 = .ok (.imul, 1) := by decide +kernel
theorem dX7_worksOut_37 : decode cX7_worksOut 37 = .ok (.iadd, 1) := by decide +kernel
theorem dX7_worksOut_38 : decode cX7_worksOut 38 = .ok (.iload 4, 2) := by decide +kernel
theorem dX7_worksOut_40 : decode cX7_worksOut 40 = .ok (.iadd, 1) := by decide +kernel
theorem dX7_worksOut_41 : decode cX7_worksOut 41 = .ok (.iaload, 1) := by decide +kernel
theorem dX7_worksOut_42 : decode cX7_worksOut 42 = .ok (.istore 5, 2) := by decide +kernel
theorem dX7_worksOut_44 : decode cX7_worksOut 44 = .ok (.iload 5, 2) := by decide +kernel
theorem dX7_worksOut_46 : decode cX7_worksOut 46 = .ok (.ifCond .lt 39, 3) := by decide +kernel
theorem dX7_worksOut_49 : decode cX7_worksOut 49 = .ok (.aload_n 0, 1) := by decide +kernel
theorem dX7_worksOut_50 : decode cX7_worksOut 50 = .ok (.getfield 58, 3) := by decide +kernel
theorem dX7_worksOut_53 : decode cX7_worksOut 53 = .ok (.iload_n 2, 1) := by decide +kernel
theorem dX7_worksOut_54 : decode cX7_worksOut 54 = .ok (.iload 5, 2) := by decide +kernel
theorem dX7_worksOut_56 : decode cX7_worksOut 56 = .ok (.sipush 10000, 3) := by decide +kernel
theorem dX7_worksOut_59 : decode cX7_worksOut 59 = .ok (.if_icmp .ge 8, 3) := by decide +kernel
theorem dX7_worksOut_62 : decode cX7_worksOut 62 = .ok (.iload 5, 2) := by decide +kernel
theorem dX7_worksOut_64 : decode cX7_worksOut 64 = .ok (.goto 14, 3) := by decide +kernel
theorem dX7_worksOut_67 : decode cX7_worksOut 67 = .ok (.aload_n 0, 1) := by decide +kernel
theorem dX7_worksOut_68 : decode cX7_worksOut 68 = .ok (.getfield 61, 3) := by decide +kernel
theorem dX7_worksOut_71 : decode cX7_worksOut 71 = .ok (.iload 5, 2) := by decide +kernel
theorem dX7_worksOut_73 : decode cX7_worksOut 73 = .ok (.sipush 10000, 3) := by decide +kernel
theorem dX7_worksOut_76 : decode cX7_worksOut 76 = .ok (.isub, 1) := by decide +kernel
theorem dX7_worksOut_77 : decode cX7_worksOut 77 = .ok (.iaload, 1) := by decide +kernel
theorem dX7_worksOut_78 : decode cX7_worksOut 78 = .ok (.iastore, 1) := by decide +kernel
theorem dX7_worksOut_79 : decode cX7_worksOut 79 = .ok (.iinc 2 1, 3) := by decide +kernel
theorem dX7_worksOut_82 : decode cX7_worksOut 82 = .ok (.goto 67, 3) := by decide +kernel
theorem dX7_worksOut_85 : decode cX7_worksOut 85 = .ok (.iload 5, 2) := by decide +kernel
theorem dX7_worksOut_87 : decode cX7_worksOut 87 = .ok (.bipush (-10), 2) := by decide +kernel
theorem dX7_worksOut_89 : decode cX7_worksOut 89 = .ok (.if_icmp .ne 30, 3) := by decide +kernel
theorem dX7_worksOut_92 : decode cX7_worksOut 92 = .ok (.aload_n 0, 1) := by decide +kernel
theorem dX7_worksOut_93 : decode cX7_worksOut 93 = .ok (.getfield 58, 3) := by decide +kernel
theorem dX7_worksOut_96 : decode cX7_worksOut 96 = .ok (.iload_n 2, 1) := by decide +kernel
theorem dX7_worksOut_97 : decode cX7_worksOut 97 = .ok (.iconst 1, 1) := by decide +kernel
theorem dX7_worksOut_98 : decode cX7_worksOut 98 = .ok (.isub, 1) := by decide +kernel
theorem dX7_worksOut_99 : decode cX7_worksOut 99 = .ok (.aload_n 0, 1) := by decide +kernel
theorem dX7_worksOut_100 : decode cX7_worksOut 100 = .ok (.getfield 58, 3) := by decide +kernel
theorem dX7_worksOut_103 : decode cX7_worksOut 103 = .ok (.iload_n 2, 1) := by decide +kernel
theorem dX7_worksOut_104 : decode cX7_worksOut 104 = .ok (.iconst 1, 1) := by decide +kernel
theorem dX7_worksOut_105 : decode cX7_worksOut 105 = .ok (.isub, 1) := by decide +kernel
theorem dX7_worksOut_106 : decode cX7_worksOut 106 = .ok (.iaload, 1) := by decide +kernel
theorem dX7_worksOut_107 : decode cX7_worksOut 107 = .ok (.ifCond .ne 7, 3) := by decide +kernel
theorem dX7_worksOut_110 : decode cX7_worksOut 110 = .ok (.iconst 1, 1) := by decide +kernel
theorem dX7_worksOut_111 : decode cX7_worksOut 111 = .ok (.goto 4, 3) := by decide +kernel
theorem dX7_worksOut_114 : decode cX7_worksOut 114 = .ok (.iconst 0, 1) := by decide +kernel
theorem dX7_worksOut_115 : decode cX7_worksOut 115 = .ok (.iastore, 1) := by decide +kernel
theorem dX7_worksOut_116 : decode cX7_worksOut 116 = .ok (.goto 33, 3) := by decide +kernel
theorem dX7_worksOut_119 : decode cX7_worksOut 119 = .ok (.iinc 2 (-1), 3) := by decide +kernel
theorem dX7_worksOut_122 : decode cX7_worksOut 122 = .ok (.aload_n 0, 1) := by decide +kernel
theorem dX7_worksOut_123 : decode cX7_worksOut 123 = .ok (.getfield 58, 3) := by decide +kernel
theorem dX7_worksOut_126 : decode cX7_worksOut 126 = .ok (.iload_n 2, 1) := by decide +kernel
theorem dX7_worksOut_127 : decode cX7_worksOut 127 = .ok (.iconst 1, 1) := by decide +kernel
theorem dX7_worksOut_128 : decode cX7_worksOut 128 = .ok (.isub, 1) := by decide +kernel
theorem dX7_worksOut_129 : decode cX7_worksOut 129 = .ok (.iload 5, 2) := by decide +kernel
theorem dX7_worksOut_131 : decode cX7_worksOut 131 = .ok (.aload_n 0, 1) := by decide +kernel
theorem dX7_worksOut_132 : decode cX7_worksOut 132 = .ok (.getfield 58, 3) := by decide +kernel
theorem dX7_worksOut_135 : decode cX7_worksOut 135 = .ok (.iload_n 2, 1) := by decide +kernel
theorem dX7_worksOut_136 : decode cX7_worksOut 136 = .ok (.iconst 1, 1) := by decide +kernel
theorem dX7_worksOut_137 : decode cX7_worksOut 137 = .ok (.isub, 1) := by decide +kernel
theorem dX7_worksOut_138 : decode cX7_worksOut 138 = .ok (.iaload, 1) := by decide +kernel
theorem dX7_worksOut_139 : decode cX7_worksOut 139 = .ok (.aload_n 0, 1) := by decide +kernel
theorem dX7_worksOut_140 : decode cX7_worksOut 140 = .ok (.getfield 58, 3) := by decide +kernel
theorem dX7_worksOut_143 : decode cX7_worksOut 143 = .ok (.iload_n 2, 1) := by decide +kernel
theorem dX7_worksOut_144 : decode cX7_worksOut 144 = .ok (.iaload, 1) := by decide +kernel
theorem dX7_worksOut_145 : decode cX7_worksOut 145 = .ok (.invokestatic 266, 3) := by decide +kernel
theorem dX7_worksOut_148 : decode cX7_worksOut 148 = .ok (.iastore, 1) := by decide +kernel
theorem dX7_worksOut_149 : decode cX7_worksOut 149 = .ok (.iinc 4 1, 3) := by decide +kernel
theorem dX7_worksOut_152 : decode cX7_worksOut 152 = .ok (.goto (-131), 3) := by decide +kernel
theorem dX7_worksOut_155 : decode cX7_worksOut 155 = .ok (.aload_n 0, 1) := by decide +kernel
theorem dX7_worksOut_156 : decode cX7_worksOut 156 = .ok (.getfield 58, 3) := by decide +kernel
theorem dX7_worksOut_159 : decode cX7_worksOut 159 = .ok (.iconst 0, 1) := by decide +kernel
theorem dX7_worksOut_160 : decode cX7_worksOut 160 = .ok (.iaload, 1) := by decide +kernel
theorem dX7_worksOut_161 : decode cX7_worksOut 161 = .ok (.ireturn, 1) := by decide +kernel
theorem dX7_isSheet_0 : decode cX7_isSheet 0 = .ok (.iload_n 0, 1) := by decide +kernel
theorem dX7_isSheet_1 : decode cX7_isSheet 1 = .ok (.iconst 0, 1) := by decide +kernel
theorem dX7_isSheet_2 : decode cX7_isSheet 2 = .ok (.iconst 3, 1) := by decide +kernel
theorem dX7_isSheet_3 : decode cX7_isSheet 3 = .ok (.invokestatic 92, 3) := by decide +kernel
theorem dX7_isSheet_6 : decode cX7_isSheet 6 = .ok (.ireturn, 1) := by decide +kernel
theorem dX7_isSlot_0 : decode cX7_isSlot 0 = .ok (.iload_n 0, 1) := by decide +kernel
theorem dX7_isSlot_1 : decode cX7_isSlot 1 = .ok (.iconst 0, 1) := by decide +kernel
theorem dX7_isSlot_2 : decode cX7_isSlot 2 = .ok (.iconst 4, 1) := by decide +kernel
theorem dX7_isSlot_3 : decode cX7_isSlot 3 = .ok (.invokestatic 92, 3) := by decide +kernel
theorem dX7_isSlot_6 : decode cX7_isSlot 6 = .ok (.ireturn, 1) := by decide +kernel
theorem dX7_sheet_0 : decode cX7_sheet 0 = .ok (.iload_n 1, 1) := by decide +kernel
theorem dX7_sheet_1 : decode cX7_sheet 1 = .ok (.invokestatic 195, 3) := by decide +kernel
theorem dX7_sheet_4 : decode cX7_sheet 4 = .ok (.ifCond .eq 22, 3) := by decide +kernel
theorem dX7_sheet_7 : decode cX7_sheet 7 = .ok (.iload_n 2, 1) := by decide +kernel
theorem dX7_sheet_8 : decode cX7_sheet 8 = .ok (.iconst (-1), 1) := by decide +kernel
theorem dX7_sheet_9 : decode cX7_sheet 9 = .ok (.iconst 1, 1) := by decide +kernel
theorem dX7_sheet_10 : decode cX7_sheet 10 = .ok (.invokestatic 92, 3) := by decide +kernel
theorem dX7_sheet_13 : decode cX7_sheet 13 = .ok (.ifCond .eq 13, 3) := by decide +kernel
theorem dX7_sheet_16 : decode cX7_sheet 16 = .ok (.iload_n 2, 1) := by decide +kernel
theorem dX7_sheet_17 : decode cX7_sheet 17 = .ok (.ifCond .lt 12, 3) := by decide +kernel
theorem dX7_sheet_20 : decode cX7_sheet 20 = .ok (.iload_n 3, 1) := by decide +kernel
theorem dX7_sheet_21 : decode cX7_sheet 21 = .ok (.bipush 24, 2) := by decide +kernel
theorem dX7_sheet_23 : decode cX7_sheet 23 = .ok (.if_icmp .le 6, 3) := by decide +kernel
theorem dX7_sheet_26 : decode cX7_sheet 26 = .ok (.ldc 100, 2) := by decide +kernel
theorem dX7_sheet_28 : decode cX7_sheet 28 = .ok (.ireturn, 1) := by decide +kernel
theorem dX7_sheet_29 : decode cX7_sheet 29 = .ok (.iload_n 2, 1) := by decide +kernel
theorem dX7_sheet_30 : decode cX7_sheet 30 = .ok (.ifCond .lt 11, 3) := by decide +kernel
theorem dX7_sheet_33 : decode cX7_sheet 33 = .ok (.iload_n 3, 1) := by decide +kernel
theorem dX7_sheet_34 : decode cX7_sheet 34 = .ok (.ifCond .ge 7, 3) := by decide +kernel
theorem dX7_sheet_37 : decode cX7_sheet 37 = .ok (.ldc_w 269, 3) := by decide +kernel
theorem dX7_sheet_40 : decode cX7_sheet 40 = .ok (.ireturn, 1) := by decide +kernel
theorem dX7_sheet_41 : decode cX7_sheet 41 = .ok (.aload_n 0, 1) := by decide +kernel
theorem dX7_sheet_42 : decode cX7_sheet 42 = .ok (.getfield 64, 3) := by decide +kernel
theorem dX7_sheet_45 : decode cX7_sheet 45 = .ok (.iload_n 1, 1) := by decide +kernel
theorem dX7_sheet_46 : decode cX7_sheet 46 = .ok (.iload_n 2, 1) := by decide +kernel
theorem dX7_sheet_47 : decode cX7_sheet 47 = .ok (.iastore, 1) := by decide +kernel
theorem dX7_sheet_48 : decode cX7_sheet 48 = .ok (.aload_n 0, 1) := by decide +kernel
theorem dX7_sheet_49 : decode cX7_sheet 49 = .ok (.getfield 67, 3) := by decide +kernel
theorem dX7_sheet_52 : decode cX7_sheet 52 = .ok (.iload_n 1, 1) := by decide +kernel
theorem dX7_sheet_53 : decode cX7_sheet 53 = .ok (.iload_n 2, 1) := by decide +kernel
theorem dX7_sheet_54 : decode cX7_sheet 54 = .ok (.ifCond .ge 7, 3) := by decide +kernel
theorem dX7_sheet_57 : decode cX7_sheet 57 = .ok (.iconst 0, 1) := by decide +kernel
theorem dX7_sheet_58 : decode cX7_sheet 58 = .ok (.goto 4, 3) := by decide +kernel
theorem dX7_sheet_61 : decode cX7_sheet 61 = .ok (.iload_n 3, 1) := by decide +kernel
theorem dX7_sheet_62 : decode cX7_sheet 62 = .ok (.iastore, 1) := by decide +kernel
theorem dX7_sheet_63 : decode cX7_sheet 63 = .ok (.iconst 0, 1) := by decide +kernel
theorem dX7_sheet_64 : decode cX7_sheet 64 = .ok (.istore 4, 2) := by decide +kernel
theorem dX7_sheet_66 : decode cX7_sheet 66 = .ok (.iload 4, 2) := by decide +kernel
theorem dX7_sheet_68 : decode cX7_sheet 68 = .ok (.bipush 24, 2) := by decide +kernel
theorem dX7_sheet_70 : decode cX7_sheet 70 = .ok (.if_icmp .ge 22, 3) := by decide +kernel
theorem dX7_sheet_73 : decode cX7_sheet 73 = .ok (.aload_n 0, 1) := by decide +kernel
theorem dX7_sheet_74 : decode cX7_sheet 74 = .ok (.getfield 70, 3) := by decide +kernel
theorem dX7_sheet_77 : decode cX7_sheet 77 = .ok (.bipush 24, 2) := by decide +kernel
theorem dX7_sheet_79 : decode cX7_sheet 79 = .ok (.iload_n 1, 1) := by decide +kernel
theorem dX7_sheet_80 : decode cX7_sheet 80 = .ok (.imul, 1) := by decide +kernel
theorem dX7_sheet_81 : decode cX7_sheet 81 = .ok (.iload 4, 2) := by decide +kernel
theorem dX7_sheet_83 : decode cX7_sheet 83 = .ok (.iadd, 1) := by decide +kernel
theorem dX7_sheet_84 : decode cX7_sheet 84 = .ok (.iconst 0, 1) := by decide +kernel
theorem dX7_sheet_85 : decode cX7_sheet 85 = .ok (.iastore, 1) := by decide +kernel
theorem dX7_sheet_86 : decode cX7_sheet 86 = .ok (.iinc 4 1, 3) := by decide +kernel
theorem dX7_sheet_89 : decode cX7_sheet 89 = .ok (.goto (-23), 3) := by decide +kernel
theorem dX7_sheet_92 : decode cX7_sheet 92 = .ok (.aload_n 0, 1) := by decide +kernel
theorem dX7_sheet_93 : decode cX7_sheet 93 = .ok (.getfield 67, 3) := by decide +kernel
theorem dX7_sheet_96 : decode cX7_sheet 96 = .ok (.iload_n 1, 1) := by decide +kernel
theorem dX7_sheet_97 : decode cX7_sheet 97 = .ok (.iaload, 1) := by decide +kernel
theorem dX7_sheet_98 : decode cX7_sheet 98 = .ok (.ireturn, 1) := by decide +kernel
theorem dX7_mark_0 : decode cX7_mark 0 = .ok (.iload_n 1, 1) := by decide +kernel
theorem dX7_mark_1 : decode cX7_mark 1 = .ok (.invokestatic 195, 3) := by decide +kernel
theorem dX7_mark_4 : decode cX7_mark 4 = .ok (.ifCond .ne 6, 3) := by decide +kernel
theorem dX7_mark_7 : decode cX7_mark 7 = .ok (.ldc 100, 2) := by decide +kernel
theorem dX7_mark_9 : decode cX7_mark 9 = .ok (.ireturn, 1) := by decide +kernel
theorem dX7_mark_10 : decode cX7_mark 10 = .ok (.aload_n 0, 1) := by decide +kernel
theorem dX7_mark_11 : decode cX7_mark 11 = .ok (.getfield 64, 3) := by decide +kernel
theorem dX7_mark_14 : decode cX7_mark 14 = .ok (.iload_n 1, 1) := by decide +kernel
theorem dX7_mark_15 : decode cX7_mark 15 = .ok (.iaload, 1) := by decide +kernel
theorem dX7_mark_16 : decode cX7_mark 16 = .ok (.ifCond .ge 6, 3) := by decide +kernel
theorem dX7_mark_19 : decode cX7_mark 19 = .ok (.ldc 198, 2) := by decide +kernel
theorem dX7_mark_21 : decode cX7_mark 21 = .ok (.ireturn, 1) := by decide +kernel
theorem dX7_mark_22 : decode cX7_mark 22 = .ok (.iload_n 2, 1) := by decide +kernel
theorem dX7_mark_23 : decode cX7_mark 23 = .ok (.iconst 0, 1) := by decide +kernel
theorem dX7_mark_24 : decode cX7_mark 24 = .ok (.aload_n 0, 1) := by decide +kernel
theorem dX7_mark_25 : decode cX7_mark 25 = .ok (.getfield 67, 3) := by decide +kernel
theorem dX7_mark_28 : decode cX7_mark 28 = .ok (.iload_n 1, 1) := by decide +kernel
theorem dX7_mark_29 : decode cX7_mark 29 = .ok (.iaload, 1) := by decide +kernel
theorem dX7_mark_30 : decode cX7_mark 30 = .ok (.iconst 1, 1) := by decide +kernel
theorem dX7_mark_31 : decode cX7_mark 31 = .ok (.isub, 1) := by decide +kernel
theorem dX7_mark_32 : decode cX7_mark 32 = .ok (.invokestatic 92, 3) := by decide +kernel
theorem dX7_mark_35 : decode cX7_mark 35 = .ok (.ifCond .ne 7, 3) := by decide +kernel
theorem dX7_mark_38 : decode cX7_mark 38 = .ok (.ldc_w 270, 3) := by decide +kernel
theorem dX7_mark_41 : decode cX7_mark 41 = .ok (.ireturn, 1) := by decide +kernel
theorem dX7_mark_42 : decode cX7_mark 42 = .ok (.aload_n 0, 1) := by decide +kernel
theorem dX7_mark_43 : decode cX7_mark 43 = .ok (.getfield 64, 3) := by decide +kernel
theorem dX7_mark_46 : decode cX7_mark 46 = .ok (.iload_n 1, 1) := by decide +kernel
theorem dX7_mark_47 : decode cX7_mark 47 = .ok (.iaload, 1) := by decide +kernel
theorem dX7_mark_48 : decode cX7_mark 48 = .ok (.ifCond .ne 12, 3) := by decide +kernel
theorem dX7_mark_51 : decode cX7_mark 51 = .ok (.iload_n 3, 1) := by decide +kernel
theorem dX7_mark_52 : decode cX7_mark 52 = .ok (.ldc 91, 2) := by decide +kernel
theorem dX7_mark_54 : decode cX7_mark 54 = .ok (.if_icmp .ne 6, 3) := by decide +kernel
theorem dX7_mark_57 : decode cX7_mark 57 = .ok (.ldc 138, 2) := by decide +kernel
theorem dX7_mark_59 : decode cX7_mark 59 = .ok (.ireturn, 1) := by decide +kernel
theorem dX7_mark_60 : decode cX7_mark 60 = .ok (.aload_n 0, 1) := by decide +kernel
theorem dX7_mark_61 : decode cX7_mark 61 = .ok (.getfield 64, 3) := by decide +kernel
theorem dX7_mark_64 : decode cX7_mark 64 = .ok (.iload_n 1, 1) := by decide +kernel
theorem dX7_mark_65 : decode cX7_mark 65 = .ok (.iaload, 1) := by decide +kernel
theorem dX7_mark_66 : decode cX7_mark 66 = .ok (.iconst 1, 1) := by decide +kernel
theorem dX7_mark_67 : decode cX7_mark 67 = .ok (.if_icmp .ne 25, 3) := by decide +kernel
theorem dX7_mark_70 : decode cX7_mark 70 = .ok (.iload_n 3, 1) := by decide +kernel
theorem dX7_mark_71 : decode cX7_mark 71 = .ok (.ldc 91, 2) := by decide +kernel
theorem dX7_mark_73 : decode cX7_mark 73 = .ok (.if_icmp .eq 19, 3) := by decide +kernel
theorem dX7_mark_76 : decode cX7_mark 76 = .ok (.iload_n 3, 1) := by decide +kernel
theorem dX7_mark_77 : decode cX7_mark 77 = .ok (.ldc_w 271, 3) := by decide +kernel
theorem dX7_mark_80 : decode cX7_mark 80 = .ok (.ldc_w 272, 3) := by decide +kernel
theorem dX7_mark_83 : decode cX7_mark 83 = .ok (.invokestatic 92, 3) := by decide +kernel
theorem dX7_mark_86 : decode cX7_mark 86 = .ok (.ifCond .ne 6, 3) := by decide +kernel
theorem dX7_mark_89 : decode cX7_mark 89 = .ok (.ldc 100, 2) := by decide +kernel
theorem dX7_mark_91 : decode cX7_mark 91 = .ok (.ireturn, 1) := by decide +kernel
theorem dX7_mark_92 : decode cX7_mark 92 = .ok (.aload_n 0, 1) := by decide +kernel
theorem dX7_mark_93 : decode cX7_mark 93 = .ok (.getfield 70, 3) := by decide +kernel
theorem dX7_mark_96 : decode cX7_mark 96 = .ok (.bipush 24, 2) := by decide +kernel
theorem dX7_mark_98 : decode cX7_mark 98 = .ok (.iload_n 1, 1) := by decide +kernel
theorem dX7_mark_99 : decode cX7_mark 99 = .ok (.imul, 1) := by decide +kernel
theorem dX7_mark_100 : decode cX7_mark 100 = .ok (.iload_n 2, 1) := by decide +kernel
theorem dX7_mark_101 : decode cX7_mark 101 = .ok (.iadd, 1) := by decide +kernel
theorem dX7_mark_102 : decode cX7_mark 102 = .ok (.aload_n 0, 1) := by decide +kernel
theorem dX7_mark_103 : decode cX7_mark 103 = .ok (.getfield 64, 3) := by decide +kernel
theorem dX7_mark_106 : decode cX7_mark 106 = .ok (.iload_n 1, 1) := by decide +kernel
theorem dX7_mark_107 : decode cX7_mark 107 = .ok (.iaload, 1) := by decide +kernel
theorem dX7_mark_108 : decode cX7_mark 108 = .ok (.ifCond .ne 8, 3) := by decide +kernel
theorem dX7_mark_111 : decode cX7_mark 111 = .ok (.iload_n 3, 1) := by decide +kernel
theorem dX7_mark_112 : decode cX7_mark 112 = .ok (.i2s, 1) := by decide +kernel
theorem dX7_mark_113 : decode cX7_mark 113 = .ok (.goto 4, 3) := by decide +kernel
theorem dX7_mark_116 : decode cX7_mark 116 = .ok (.iload_n 3, 1) := by decide +kernel
theorem dX7_mark_117 : decode cX7_mark 117 = .ok (.iastore, 1) := by decide +kernel
theorem dX7_mark_118 : decode cX7_mark 118 = .ok (.iconst 1, 1) := by decide +kernel
theorem dX7_mark_119 : decode cX7_mark 119 = .ok (.ireturn, 1) := by decide +kernel
theorem dX7_pour_0 : decode cX7_pour 0 = .ok (.iload_n 1, 1) := by decide +kernel
theorem dX7_pour_1 : decode cX7_pour 1 = .ok (.invokestatic 195, 3) := by decide +kernel
theorem dX7_pour_4 : decode cX7_pour 4 = .ok (.ifCond .ne 6, 3) := by decide +kernel
theorem dX7_pour_7 : decode cX7_pour 7 = .ok (.ldc 100, 2) := by decide +kernel
theorem dX7_pour_9 : decode cX7_pour 9 = .ok (.ireturn, 1) := by decide +kernel
theorem dX7_pour_10 : decode cX7_pour 10 = .ok (.aload_n 0, 1) := by decide +kernel
theorem dX7_pour_11 : decode cX7_pour 11 = .ok (.getfield 64, 3) := by decide +kernel
theorem dX7_pour_14 : decode cX7_pour 14 = .ok (.iload_n 1, 1) := by decide +kernel
theorem dX7_pour_15 : decode cX7_pour 15 = .ok (.iaload, 1) := by decide +kernel
theorem dX7_pour_16 : decode cX7_pour 16 = .ok (.ifCond .ge 6, 3) := by decide +kernel
theorem dX7_pour_19 : decode cX7_pour 19 = .ok (.ldc 198, 2) := by decide +kernel
theorem dX7_pour_21 : decode cX7_pour 21 = .ok (.ireturn, 1) := by decide +kernel
theorem dX7_pour_22 : decode cX7_pour 22 = .ok (.iconst 0, 1) := by decide +kernel
theorem dX7_pour_23 : decode cX7_pour 23 = .ok (.istore_n 2, 1) := by decide +kernel
theorem dX7_pour_24 : decode cX7_pour 24 = .ok (.iconst 0, 1) := by decide +kernel
theorem dX7_pour_25 : decode cX7_pour 25 = .ok (.istore_n 3, 1) := by decide +kernel
theorem dX7_pour_26 : decode cX7_pour 26 = .ok (.iload_n 3, 1) := by decide +kernel
theorem dX7_pour_27 : decode cX7_pour 27 = .ok (.aload_n 0, 1) := by decide +kernel
theorem dX7_pour_28 : decode cX7_pour 28 = .ok (.getfield 67, 3) := by decide +kernel
theorem dX7_pour_31 : decode cX7_pour 31 = .ok (.iload_n 1, 1) := by decide +kernel
theorem dX7_pour_32 : decode cX7_pour 32 = .ok (.iaload, 1) := by decide +kernel
theorem dX7_pour_33 : decode cX7_pour 33 = .ok (.if_icmp .ge 86, 3) := by decide +kernel
theorem dX7_pour_36 : decode cX7_pour 36 = .ok (.iload_n 3, 1) := by decide +kernel
theorem dX7_pour_37 : decode cX7_pour 37 = .ok (.aload_n 0, 1) := by decide +kernel
theorem dX7_pour_38 : decode cX7_pour 38 = .ok (.getfield 9, 3) := by decide +kernel
theorem dX7_pour_41 : decode cX7_pour 41 = .ok (.iconst 1, 1) := by decide +kernel
theorem dX7_pour_42 : decode cX7_pour 42 = .ok (.iaload, 1) := by decide +kernel
theorem dX7_pour_43 : decode cX7_pour 43 = .ok (.if_icmp .ge 76, 3) := by decide +kernel
theorem dX7_pour_46 : decode cX7_pour 46 = .ok (.aload_n 0, 1) := by decide +kernel
theorem dX7_pour_47 : decode cX7_pour 47 = .ok (.getfield 70, 3) := by decide +kernel
theorem dX7_pour_50 : decode cX7_pour 50 = .ok (.bipush 24, 2) := by decide +kernel
theorem dX7_pour_52 : decode cX7_pour 52 = .ok (.iload_n 1, 1) := by decide +kernel
theorem dX7_pour_53 : decode cX7_pour 53 = .ok (.imul, 1) := by decide +kernel
theorem dX7_pour_54 : decode cX7_pour 54 = .ok (.iload_n 3, 1) := by decide +kernel
theorem dX7_pour_55 : decode cX7_pour 55 = .ok (.iadd, 1) := by decide +kernel
theorem dX7_pour_56 : decode cX7_pour 56 = .ok (.iaload, 1) := by decide +kernel
theorem dX7_pour_57 : decode cX7_pour 57 = .ok (.istore 4, 2) := by decide +kernel
theorem dX7_pour_59 : decode cX7_pour 59 = .ok (.iload 4, 2) := by decide +kernel
theorem dX7_pour_61 : decode cX7_pour 61 = .ok (.ldc 91, 2) := by decide +kernel
theorem dX7_pour_63 : decode cX7_pour 63 = .ok (.if_icmp .ne 12, 3) := by decide +kernel
theorem dX7_pour_66 : decode cX7_pour 66 = .ok (.aload_n 0, 1) := by decide +kernel
theorem dX7_pour_67 : decode cX7_pour 67 = .ok (.iload_n 3, 1) := by decide +kernel
theorem dX7_pour_68 : decode cX7_pour 68 = .ok (.iconst 3, 1) := by decide +kernel
theorem dX7_pour_69 : decode cX7_pour 69 = .ok (.invokevirtual 106, 3) := by decide +kernel
theorem dX7_pour_72 : decode cX7_pour 72 = .ok (.goto 11, 3) := by decide +kernel
theorem dX7_pour_75 : decode cX7_pour 75 = .ok (.iload 4, 2) := by decide +kernel
theorem dX7_pour_77 : decode cX7_pour 77 = .ok (.iconst 0, 1) := by decide +kernel
theorem dX7_pour_78 : decode cX7_pour 78 = .ok (.bipush 99, 2) := by decide +kernel
theorem dX7_pour_80 : decode cX7_pour 80 = .ok (.invokestatic 117, 3) := by decide +kernel
theorem dX7_pour_83 : decode cX7_pour 83 = .ok (.istore 5, 2) := by decide +kernel
theorem dX7_pour_85 : decode cX7_pour 85 = .ok (.iload_n 2, 1) := by decide +kernel
theorem dX7_pour_86 : decode cX7_pour 86 = .ok (.aload_n 0, 1) := by decide +kernel
theorem dX7_pour_87 : decode cX7_pour 87 = .ok (.bipush 8, 2) := by decide +kernel
theorem dX7_pour_89 : decode cX7_pour 89 = .ok (.bipush 7, 2) := by decide +kernel
theorem dX7_pour_91 : decode cX7_pour 91 = .ok (.iload_n 3, 1) := by decide +kernel
theorem dX7_pour_92 : decode cX7_pour 92 = .ok (.imul, 1) := by decide +kernel
theorem dX7_pour_93 : decode cX7_pour 93 = .ok (.iadd, 1) := by decide +kernel
theorem dX7_pour_94 : decode cX7_pour 94 = .ok (.iconst 3, 1) := by decide +kernel
theorem dX7_pour_95 : decode cX7_pour 95 = .ok (.iadd, 1) := by decide +kernel
theorem dX7_pour_96 : decode cX7_pour 96 = .ok (.iload 5, 2) := by decide +kernel
theorem dX7_pour_98 : decode cX7_pour 98 = .ok (.invokevirtual 139, 3) := by decide +kernel
theorem dX7_pour_101 : decode cX7_pour 101 = .ok (.iload 5, 2) := by decide +kernel
theorem dX7_pour_103 : decode cX7_pour 103 = .ok (.if_icmp .ne 7, 3) := by decide +kernel
theorem dX7_pour_106 : decode cX7_pour 106 = .ok (.iconst 0, 1) := by decide +kernel
theorem dX7_pour_107 : decode cX7_pour 107 = .ok (.goto 4, 3) := by decide +kernel
theorem dX7_pour_110 : decode cX7_pour 110 = .ok (.iconst 1, 1) := by decide +kernel
theorem dX7_pour_111 : decode cX7_pour 111 = .ok (.iadd, 1) := by decide +kernel
theorem dX7_pour_112 : decode cX7_pour 112 = .ok (.istore_n 2, 1) := by decide +kernel
theorem dX7_pour_113 : decode cX7_pour 113 = .ok (.iinc 3 1, 3) := by decide +kernel
theorem dX7_pour_116 : decode cX7_pour 116 = .ok (.goto (-90), 3) := by decide +kernel
theorem dX7_pour_119 : decode cX7_pour 119 = .ok (.iload_n 2, 1) := by decide +kernel
theorem dX7_pour_120 : decode cX7_pour 120 = .ok (.ireturn, 1) := by decide +kernel
theorem dX7_reads_0 : decode cX7_reads 0 = .ok (.iload_n 1, 1) := by decide +kernel
theorem dX7_reads_1 : decode cX7_reads 1 = .ok (.invokestatic 195, 3) := by decide +kernel
theorem dX7_reads_4 : decode cX7_reads 4 = .ok (.ifCond .ne 6, 3) := by decide +kernel
theorem dX7_reads_7 : decode cX7_reads 7 = .ok (.ldc 100, 2) := by decide +kernel
theorem dX7_reads_9 : decode cX7_reads 9 = .ok (.ireturn, 1) := by decide +kernel
theorem dX7_reads_10 : decode cX7_reads 10 = .ok (.aload_n 0, 1) := by decide +kernel
theorem dX7_reads_11 : decode cX7_reads 11 = .ok (.getfield 64, 3) := by decide +kernel
theorem dX7_reads_14 : decode cX7_reads 14 = .ok (.iload_n 1, 1) := by decide +kernel
theorem dX7_reads_15 : decode cX7_reads 15 = .ok (.iaload, 1) := by decide +kernel
theorem dX7_reads_16 : decode cX7_reads 16 = .ok (.ifCond .ge 6, 3) := by decide +kernel
theorem dX7_reads_19 : decode cX7_reads 19 = .ok (.ldc 198, 2) := by decide +kernel
theorem dX7_reads_21 : decode cX7_reads 21 = .ok (.ireturn, 1) := by decide +kernel
theorem dX7_reads_22 : decode cX7_reads 22 = .ok (.aload_n 0, 1) := by decide +kernel
theorem dX7_reads_23 : decode cX7_reads 23 = .ok (.invokevirtual 153, 3) := by decide +kernel
theorem dX7_reads_26 : decode cX7_reads 26 = .ok (.iconst 0, 1) := by decide +kernel
theorem dX7_reads_27 : decode cX7_reads 27 = .ok (.istore_n 2, 1) := by decide +kernel
theorem dX7_reads_28 : decode cX7_reads 28 = .ok (.iload_n 2, 1) := by decide +kernel
theorem dX7_reads_29 : decode cX7_reads 29 = .ok (.aload_n 0, 1) := by decide +kernel
theorem dX7_reads_30 : decode cX7_reads 30 = .ok (.getfield 67, 3) := by decide +kernel
theorem dX7_reads_33 : decode cX7_reads 33 = .ok (.iload_n 1, 1) := by decide +kernel
theorem dX7_reads_34 : decode cX7_reads 34 = .ok (.iaload, 1) := by decide +kernel
theorem dX7_reads_35 : decode cX7_reads 35 = .ok (.if_icmp .ge 47, 3) := by decide +kernel
theorem dX7_reads_38 : decode cX7_reads 38 = .ok (.aload_n 0, 1) := by decide +kernel
theorem dX7_reads_39 : decode cX7_reads 39 = .ok (.getfield 70, 3) := by decide +kernel
theorem dX7_reads_42 : decode cX7_reads 42 = .ok (.bipush 24, 2) := by decide +kernel
theorem dX7_reads_44 : decode cX7_reads 44 = .ok (.iload_n 1, 1) := by decide +kernel
theorem dX7_reads_45 : decode cX7_reads 45 = .ok (.imul, 1) := by decide +kernel
theorem dX7_reads_46 : decode cX7_reads 46 = .ok (.iload_n 2, 1) := by decide +kernel
theorem dX7_reads_47 : decode cX7_reads 47 = .ok (.iadd, 1) := by decide +kernel
theorem dX7_reads_48 : decode cX7_reads 48 = .ok (.iaload, 1) := by decide +kernel
theorem dX7_reads_49 : decode cX7_reads 49 = .ok (.istore_n 3, 1) := by decide +kernel
theorem dX7_reads_50 : decode cX7_reads 50 = .ok (.iload_n 3, 1) := by decide +kernel
theorem dX7_reads_51 : decode cX7_reads 51 = .ok (.ldc 91, 2) := by decide +kernel
theorem dX7_reads_53 : decode cX7_reads 53 = .ok (.if_icmp .eq 23, 3) := by decide +kernel
theorem dX7_reads_56 : decode cX7_reads 56 = .ok (.aload_n 0, 1) := by decide +kernel
theorem dX7_reads_57 : decode cX7_reads 57 = .ok (.iload_n 2, 1) := by decide +kernel
theorem dX7_reads_58 : decode cX7_reads 58 = .ok (.invokevirtual 121, 3) := by decide +kernel
theorem dX7_reads_61 : decode cX7_reads 61 = .ok (.ifCond .eq 13, 3) := by decide +kernel
theorem dX7_reads_64 : decode cX7_reads 64 = .ok (.iload_n 3, 1) := by decide +kernel
theorem dX7_reads_65 : decode cX7_reads 65 = .ok (.aload_n 0, 1) := by decide +kernel
theorem dX7_reads_66 : decode cX7_reads 66 = .ok (.getfield 23, 3) := by decide +kernel
theorem dX7_reads_69 : decode cX7_reads 69 = .ok (.iload_n 2, 1) := by decide +kernel
theorem dX7_reads_70 : decode cX7_reads 70 = .ok (.iaload, 1) := by decide +kernel
theorem dX7_reads_71 : decode cX7_reads 71 = .ok (.if_icmp .eq 5, 3) := by decide +kernel
theorem dX7_reads_74 : decode cX7_reads 74 = .ok (.iload_n 2, 1) := by decide +kernel
theorem dX7_reads_75 : decode cX7_reads 75 = .ok (.ireturn, 1) := by decide +kernel
theorem dX7_reads_76 : decode cX7_reads 76 = .ok (.iinc 2 1, 3) := by decide +kernel
theorem dX7_reads_79 : decode cX7_reads 79 = .ok (.goto (-51), 3) := by decide +kernel
theorem dX7_reads_82 : decode cX7_reads 82 = .ok (.ldc 91, 2) := by decide +kernel
theorem dX7_reads_84 : decode cX7_reads 84 = .ok (.ireturn, 1) := by decide +kernel
theorem dX7_copy_0 : decode cX7_copy 0 = .ok (.iload_n 1, 1) := by decide +kernel
theorem dX7_copy_1 : decode cX7_copy 1 = .ok (.invokestatic 195, 3) := by decide +kernel
theorem dX7_copy_4 : decode cX7_copy 4 = .ok (.ifCond .eq 10, 3) := by decide +kernel
theorem dX7_copy_7 : decode cX7_copy 7 = .ok (.iload_n 3, 1) := by decide +kernel
theorem dX7_copy_8 : decode cX7_copy 8 = .ok (.invokestatic 195, 3) := by decide +kernel
theorem dX7_copy_11 : decode cX7_copy 11 = .ok (.ifCond .ne 6, 3) := by decide +kernel
theorem dX7_copy_14 : decode cX7_copy 14 = .ok (.ldc 100, 2) := by decide +kernel
theorem dX7_copy_16 : decode cX7_copy 16 = .ok (.ireturn, 1) := by decide +kernel
theorem dX7_copy_17 : decode cX7_copy 17 = .ok (.aload_n 0, 1) := by decide +kernel
theorem dX7_copy_18 : decode cX7_copy 18 = .ok (.getfield 64, 3) := by decide +kernel
theorem dX7_copy_21 : decode cX7_copy 21 = .ok (.iload_n 1, 1) := by decide +kernel
theorem dX7_copy_22 : decode cX7_copy 22 = .ok (.iaload, 1) := by decide +kernel
theorem dX7_copy_23 : decode cX7_copy 23 = .ok (.ifCond .lt 12, 3) := by decide +kernel
theorem dX7_copy_26 : decode cX7_copy 26 = .ok (.aload_n 0, 1) := by decide +kernel
theorem dX7_copy_27 : decode cX7_copy 27 = .ok (.getfield 64, 3) := by decide +kernel
theorem dX7_copy_30 : decode cX7_copy 30 = .ok (.iload_n 3, 1) := by decide +kernel
theorem dX7_copy_31 : decode cX7_copy 31 = .ok (.iaload, 1) := by decide +kernel
theorem dX7_copy_32 : decode cX7_copy 32 = .ok (.ifCond .ge 6, 3) := by decide +kernel
theorem dX7_copy_35 : decode cX7_copy 35 = .ok (.ldc 198, 2) := by decide +kernel
theorem dX7_copy_37 : decode cX7_copy 37 = .ok (.ireturn, 1) := by decide +kernel
theorem dX7_copy_38 : decode cX7_copy 38 = .ok (.aload_n 0, 1) := by decide +kernel
theorem dX7_copy_39 : decode cX7_copy 39 = .ok (.getfield 64, 3) := by decide +kernel
theorem dX7_copy_42 : decode cX7_copy 42 = .ok (.iload_n 1, 1) := by decide +kernel
theorem dX7_copy_43 : decode cX7_copy 43 = .ok (.iaload, 1) := by decide +kernel
theorem dX7_copy_44 : decode cX7_copy 44 = .ok (.aload_n 0, 1) := by decide +kernel
theorem dX7_copy_45 : decode cX7_copy 45 = .ok (.getfield 64, 3) := by decide +kernel
theorem dX7_copy_48 : decode cX7_copy 48 = .ok (.iload_n 3, 1) := by decide +kernel
theorem dX7_copy_49 : decode cX7_copy 49 = .ok (.iaload, 1) := by decide +kernel
theorem dX7_copy_50 : decode cX7_copy 50 = .ok (.if_icmp .eq 6, 3) := by decide +kernel
theorem dX7_copy_53 : decode cX7_copy 53 = .ok (.ldc 138, 2) := by decide +kernel
theorem dX7_copy_55 : decode cX7_copy 55 = .ok (.ireturn, 1) := by decide +kernel
theorem dX7_copy_56 : decode cX7_copy 56 = .ok (.iload_n 2, 1) := by decide +kernel
theorem dX7_copy_57 : decode cX7_copy 57 = .ok (.ifCond .lt 40, 3) := by decide +kernel
theorem dX7_copy_60 : decode cX7_copy 60 = .ok (.iload 4, 2) := by decide +kernel
theorem dX7_copy_62 : decode cX7_copy 62 = .ok (.ifCond .lt 35, 3) := by decide +kernel
theorem dX7_copy_65 : decode cX7_copy 65 = .ok (.iload 5, 2) := by decide +kernel
theorem dX7_copy_67 : decode cX7_copy 67 = .ok (.ifCond .lt 30, 3) := by decide +kernel
theorem dX7_copy_70 : decode cX7_copy 70 = .ok (.iload_n 2, 1) := by decide +kernel
theorem dX7_copy_71 : decode cX7_copy 71 = .ok (.aload_n 0, 1) := by decide +kernel
theorem dX7_copy_72 : decode cX7_copy 72 = .ok (.getfield 67, 3) := by decide +kernel
theorem dX7_copy_75 : decode cX7_copy 75 = .ok (.iload_n 1, 1) := by decide +kernel
theorem dX7_copy_76 : decode cX7_copy 76 = .ok (.iaload, 1) := by decide +kernel
theorem dX7_copy_77 : decode cX7_copy 77 = .ok (.iload 5, 2) := by decide +kernel
theorem dX7_copy_79 : decode cX7_copy 79 = .ok (.isub, 1) := by decide +kernel
theorem dX7_copy_80 : decode cX7_copy 80 = .ok (.if_icmp .gt 17, 3) := by decide +kernel
theorem dX7_copy_83 : decode cX7_copy 83 = .ok (.iload 4, 2) := by decide +kernel
theorem dX7_copy_85 : decode cX7_copy 85 = .ok (.aload_n 0, 1) := by decide +kernel
theorem dX7_copy_86 : decode cX7_copy 86 = .ok (.getfield 67, 3) := by decide +kernel
theorem dX7_copy_89 : decode cX7_copy 89 = .ok (.iload_n 3, 1) := by decide +kernel
theorem dX7_copy_90 : decode cX7_copy 90 = .ok (.iaload, 1) := by decide +kernel
theorem dX7_copy_91 : decode cX7_copy 91 = .ok (.iload 5, 2) := by decide +kernel
theorem dX7_copy_93 : decode cX7_copy 93 = .ok (.isub, 1) := by decide +kernel
theorem dX7_copy_94 : decode cX7_copy 94 = .ok (.if_icmp .le 7, 3) := by decide +kernel
theorem dX7_copy_97 : decode cX7_copy 97 = .ok (.ldc_w 270, 3) := by decide +kernel
theorem dX7_copy_100 : decode cX7_copy 100 = .ok (.ireturn, 1) := by decide +kernel
theorem dX7_copy_101 : decode cX7_copy 101 = .ok (.iconst 0, 1) := by decide +kernel
theorem dX7_copy_102 : decode cX7_copy 102 = .ok (.istore 6, 2) := by decide +kernel
theorem dX7_copy_104 : decode cX7_copy 104 = .ok (.iload 6, 2) := by decide +kernel
theorem dX7_copy_106 : decode cX7_copy 106 = .ok (.iload 5, 2) := by decide +kernel
theorem dX7_copy_108 : decode cX7_copy 108 = .ok (.if_icmp .ge 30, 3) := by decide +kernel
theorem dX7_copy_111 : decode cX7_copy 111 = .ok (.aload_n 0, 1) := by decide +kernel
theorem dX7_copy_112 : decode cX7_copy 112 = .ok (.getfield 85, 3) := by decide +kernel
theorem dX7_copy_115 : decode cX7_copy 115 = .ok (.iload 6, 2) := by decide +kernel
theorem dX7_copy_117 : decode cX7_copy 117 = .ok (.aload_n 0, 1) := by decide +kernel
theorem dX7_copy_118 : decode cX7_copy 118 = .ok (.getfield 70, 3) := by decide +kernel
theorem dX7_copy_121 : decode cX7_copy 121 = .ok (.bipush 24, 2) := by decide +kernel
theorem dX7_copy_123 : decode cX7_copy 123 = .ok (.iload_n 1, 1) := by decide +kernel
theorem dX7_copy_124 : decode cX7_copy 124 = .ok (.imul, 1) := by decide +kernel
theorem dX7_copy_125 : decode cX7_copy 125 = .ok (.iload_n 2, 1) := by decide +kernel
theorem dX7_copy_126 : decode cX7_copy 126 = .ok (.iadd, 1) := by decide +kernel
theorem dX7_copy_127 : decode cX7_copy 127 = .ok (.iload 6, 2) := by decide +kernel
theorem dX7_copy_129 : decode cX7_copy 129 = .ok (.iadd, 1) := by decide +kernel
theorem dX7_copy_130 : decode cX7_copy 130 = .ok (.iaload, 1) := by decide +kernel
theorem dX7_copy_131 : decode cX7_copy 131 = .ok (.iastore, 1) := by decide +kernel
theorem dX7_copy_132 : decode cX7_copy 132 = .ok (.iinc 6 1, 3) := by decide +kernel
theorem dX7_copy_135 : decode cX7_copy 135 = .ok (.goto (-31), 3) := by decide +kernel
theorem dX7_copy_138 : decode cX7_copy 138 = .ok (.iconst 0, 1) := by decide +kernel
theorem dX7_copy_139 : decode cX7_copy 139 = .ok (.istore 6, 2) := by decide +kernel
theorem dX7_copy_141 : decode cX7_copy 141 = .ok (.iload 6, 2) := by decide +kernel
theorem dX7_copy_143 : decode cX7_copy 143 = .ok (.iload 5, 2) := by decide +kernel
theorem dX7_copy_145 : decode cX7_copy 145 = .ok (.if_icmp .ge 31, 3) := by decide +kernel
theorem dX7_copy_148 : decode cX7_copy 148 = .ok (.aload_n 0, 1) := by decide +kernel
theorem dX7_copy_149 : decode cX7_copy 149 = .ok (.getfield 70, 3) := by decide +kernel
theorem dX7_copy_152 : decode cX7_copy 152 = .ok (.bipush 24, 2) := by decide +kernel
theorem dX7_copy_154 : decode cX7_copy 154 = .ok (.iload_n 3, 1) := by decide +kernel
theorem dX7_copy_155 : decode cX7_copy 155 = .ok (.imul, 1) := by decide +kernel
theorem dX7_copy_156 : decode cX7_copy 156 = .ok (.iload 4, 2) := by decide +kernel
theorem dX7_copy_158 : decode cX7_copy 158 = .ok (.iadd, 1) := by decide +kernel
theorem dX7_copy_159 : decode cX7_copy 159 = .ok (.iload 6, 2) := by decide +kernel
theorem dX7_copy_161 : decode cX7_copy 161 = .ok (.iadd, 1) := by decide +kernel
theorem dX7_copy_162 : decode cX7_copy 162 = .ok (.aload_n 0, 1) := by decide +kernel
theorem dX7_copy_163 : decode cX7_copy 163 = .ok (.getfield 85, 3) := by decide +kernel
theorem dX7_copy_166 : decode cX7_copy 166 = .ok (.iload 6, 2) := by decide +kernel
theorem dX7_copy_168 : decode cX7_copy 168 = .ok (.iaload, 1) := by decide +kernel
theorem dX7_copy_169 : decode cX7_copy 169 = .ok (.iastore, 1) := by decide +kernel
theorem dX7_copy_170 : decode cX7_copy 170 = .ok (.iinc 6 1, 3) := by decide +kernel
theorem dX7_copy_173 : decode cX7_copy 173 = .ok (.goto (-32), 3) := by decide +kernel
theorem dX7_copy_176 : decode cX7_copy 176 = .ok (.iload 5, 2) := by decide +kernel
theorem dX7_copy_178 : decode cX7_copy 178 = .ok (.ireturn, 1) := by decide +kernel
theorem dX7_lay_0 : decode cX7_lay 0 = .ok (.iload_n 1, 1) := by decide +kernel
theorem dX7_lay_1 : decode cX7_lay 1 = .ok (.invokestatic 273, 3) := by decide +kernel
theorem dX7_lay_4 : decode cX7_lay 4 = .ok (.ifCond .eq 37, 3) := by decide +kernel
theorem dX7_lay_7 : decode cX7_lay 7 = .ok (.iload_n 2, 1) := by decide +kernel
theorem dX7_lay_8 : decode cX7_lay 8 = .ok (.iconst 0, 1) := by decide +kernel
theorem dX7_lay_9 : decode cX7_lay 9 = .ok (.iconst 3, 1) := by decide +kernel
theorem dX7_lay_10 : decode cX7_lay 10 = .ok (.invokestatic 92, 3) := by decide +kernel
theorem dX7_lay_13 : decode cX7_lay 13 = .ok (.ifCond .eq 28, 3) := by decide +kernel
theorem dX7_lay_16 : decode cX7_lay 16 = .ok (.iload_n 2, 1) := by decide +kernel
theorem dX7_lay_17 : decode cX7_lay 17 = .ok (.iconst 1, 1) := by decide +kernel
theorem dX7_lay_18 : decode cX7_lay 18 = .ok (.if_icmp .ne 11, 3) := by decide +kernel
theorem dX7_lay_21 : decode cX7_lay 21 = .ok (.aload_n 0, 1) := by decide +kernel
theorem dX7_lay_22 : decode cX7_lay 22 = .ok (.iload_n 3, 1) := by decide +kernel
theorem dX7_lay_23 : decode cX7_lay 23 = .ok (.invokevirtual 121, 3) := by decide +kernel
theorem dX7_lay_26 : decode cX7_lay 26 = .ok (.ifCond .eq 15, 3) := by decide +kernel
theorem dX7_lay_29 : decode cX7_lay 29 = .ok (.iload_n 2, 1) := by decide +kernel
theorem dX7_lay_30 : decode cX7_lay 30 = .ok (.iconst 2, 1) := by decide +kernel
theorem dX7_lay_31 : decode cX7_lay 31 = .ok (.if_icmp .ne 13, 3) := by decide +kernel
theorem dX7_lay_34 : decode cX7_lay 34 = .ok (.iload_n 3, 1) := by decide +kernel
theorem dX7_lay_35 : decode cX7_lay 35 = .ok (.invokestatic 195, 3) := by decide +kernel
theorem dX7_lay_38 : decode cX7_lay 38 = .ok (.ifCond .ne 6, 3) := by decide +kernel
theorem dX7_lay_41 : decode cX7_lay 41 = .ok (.ldc 100, 2) := by decide +kernel
theorem dX7_lay_43 : decode cX7_lay 43 = .ok (.ireturn, 1) := by decide +kernel
theorem dX7_lay_44 : decode cX7_lay 44 = .ok (.iload_n 2, 1) := by decide +kernel
theorem dX7_lay_45 : decode cX7_lay 45 = .ok (.iconst 2, 1) := by decide +kernel
theorem dX7_lay_46 : decode cX7_lay 46 = .ok (.if_icmp .ne 15, 3) := by decide +kernel
theorem dX7_lay_49 : decode cX7_lay 49 = .ok (.aload_n 0, 1) := by decide +kernel
theorem dX7_lay_50 : decode cX7_lay 50 = .ok (.getfield 64, 3) := by decide +kernel
theorem dX7_lay_53 : decode cX7_lay 53 = .ok (.iload_n 3, 1) := by decide +kernel
theorem dX7_lay_54 : decode cX7_lay 54 = .ok (.iaload, 1) := by decide +kernel
theorem dX7_lay_55 : decode cX7_lay 55 = .ok (.ifCond .ge 6, 3) := by decide +kernel
theorem dX7_lay_58 : decode cX7_lay 58 = .ok (.ldc 198, 2) := by decide +kernel
theorem dX7_lay_60 : decode cX7_lay 60 = .ok (.ireturn, 1) := by decide +kernel
theorem dX7_lay_61 : decode cX7_lay 61 = .ok (.aload_n 0, 1) := by decide +kernel
theorem dX7_lay_62 : decode cX7_lay 62 = .ok (.getfield 73, 3) := by decide +kernel
theorem dX7_lay_65 : decode cX7_lay 65 = .ok (.iload_n 1, 1) := by decide +kernel
theorem dX7_lay_66 : decode cX7_lay 66 = .ok (.iaload, 1) := by decide +kernel
theorem dX7_lay_67 : decode cX7_lay 67 = .ok (.istore 4, 2) := by decide +kernel
theorem dX7_lay_69 : decode cX7_lay 69 = .ok (.aload_n 0, 1) := by decide +kernel
theorem dX7_lay_70 : decode cX7_lay 70 = .ok (.getfield 73, 3) := by decide +kernel
theorem dX7_lay_73 : decode cX7_lay 73 = .ok (.iload_n 1, 1) := by decide +kernel
theorem dX7_lay_74 : decode cX7_lay 74 = .ok (.iload_n 2, 1) := by decide +kernel
theorem dX7_lay_75 : decode cX7_lay 75 = .ok (.iastore, 1) := by decide +kernel
theorem dX7_lay_76 : decode cX7_lay 76 = .ok (.aload_n 0, 1) := by decide +kernel
theorem dX7_lay_77 : decode cX7_lay 77 = .ok (.getfield 76, 3) := by decide +kernel
theorem dX7_lay_80 : decode cX7_lay 80 = .ok (.iload_n 1, 1) := by decide +kernel
theorem dX7_lay_81 : decode cX7_lay 81 = .ok (.iload_n 2, 1) := by decide +kernel
theorem dX7_lay_82 : decode cX7_lay 82 = .ok (.iconst 1, 1) := by decide +kernel
theorem dX7_lay_83 : decode cX7_lay 83 = .ok (.if_icmp .ne 12, 3) := by decide +kernel
theorem dX7_lay_86 : decode cX7_lay 86 = .ok (.aload_n 0, 1) := by decide +kernel
theorem dX7_lay_87 : decode cX7_lay 87 = .ok (.iload_n 3, 1) := by decide +kernel
theorem dX7_lay_88 : decode cX7_lay 88 = .ok (.iconst 0, 1) := by decide +kernel
theorem dX7_lay_89 : decode cX7_lay 89 = .ok (.invokevirtual 106, 3) := by decide +kernel
theorem dX7_lay_92 : decode cX7_lay 92 = .ok (.goto 18, 3) := by decide +kernel
theorem dX7_lay_95 : decode cX7_lay 95 = .ok (.iload_n 2, 1) := by decide +kernel
theorem dX7_lay_96 : decode cX7_lay 96 = .ok (.iconst 2, 1) := by decide +kernel
theorem dX7_lay_97 : decode cX7_lay 97 = .ok (.if_icmp .ne 12, 3) := by decide +kernel
theorem dX7_lay_100 : decode cX7_lay 100 = .ok (.aload_n 0, 1) := by decide +kernel
theorem dX7_lay_101 : decode cX7_lay 101 = .ok (.getfield 67, 3) := by decide +kernel
theorem dX7_lay_104 : decode cX7_lay 104 = .ok (.iload_n 3, 1) := by decide +kernel
theorem dX7_lay_105 : decode cX7_lay 105 = .ok (.iaload, 1) := by decide +kernel
theorem dX7_lay_106 : decode cX7_lay 106 = .ok (.goto 4, 3) := by decide +kernel
theorem dX7_lay_109 : decode cX7_lay 109 = .ok (.iload_n 3, 1) := by decide +kernel
theorem dX7_lay_110 : decode cX7_lay 110 = .ok (.iastore, 1) := by decide +kernel
theorem dX7_lay_111 : decode cX7_lay 111 = .ok (.aload_n 0, 1) := by decide +kernel
theorem dX7_lay_112 : decode cX7_lay 112 = .ok (.getfield 79, 3) := by decide +kernel
theorem dX7_lay_115 : decode cX7_lay 115 = .ok (.iload_n 1, 1) := by decide +kernel
theorem dX7_lay_116 : decode cX7_lay 116 = .ok (.iload_n 2, 1) := by decide +kernel
theorem dX7_lay_117 : decode cX7_lay 117 = .ok (.iconst 1, 1) := by decide +kernel
theorem dX7_lay_118 : decode cX7_lay 118 = .ok (.if_icmp .ne 11, 3) := by decide +kernel
theorem dX7_lay_121 : decode cX7_lay 121 = .ok (.aload_n 0, 1) := by decide +kernel
theorem dX7_lay_122 : decode cX7_lay 122 = .ok (.iload_n 3, 1) := by decide +kernel
theorem dX7_lay_123 : decode cX7_lay 123 = .ok (.invokevirtual 128, 3) := by decide +kernel
theorem dX7_lay_126 : decode cX7_lay 126 = .ok (.goto 4, 3) := by decide +kernel
theorem dX7_lay_129 : decode cX7_lay 129 = .ok (.iconst 0, 1) := by decide +kernel
theorem dX7_lay_130 : decode cX7_lay 130 = .ok (.iastore, 1) := by decide +kernel
theorem dX7_lay_131 : decode cX7_lay 131 = .ok (.iconst 0, 1) := by decide +kernel
theorem dX7_lay_132 : decode cX7_lay 132 = .ok (.istore 5, 2) := by decide +kernel
theorem dX7_lay_134 : decode cX7_lay 134 = .ok (.iload 5, 2) := by decide +kernel
theorem dX7_lay_136 : decode cX7_lay 136 = .ok (.bipush 24, 2) := by decide +kernel
theorem dX7_lay_138 : decode cX7_lay 138 = .ok (.if_icmp .ge 38, 3) := by decide +kernel
theorem dX7_lay_141 : decode cX7_lay 141 = .ok (.iload_n 2, 1) := by decide +kernel
theorem dX7_lay_142 : decode cX7_lay 142 = .ok (.iconst 2, 1) := by decide +kernel
theorem dX7_lay_143 : decode cX7_lay 143 = .ok (.if_icmp .ne 33, 3) := by decide +kernel
theorem dX7_lay_146 : decode cX7_lay 146 = .ok (.aload_n 0, 1) := by decide +kernel
theorem dX7_lay_147 : decode cX7_lay 147 = .ok (.getfield 82, 3) := by decide +kernel
theorem dX7_lay_150 : decode cX7_lay 150 = .ok (.bipush 24, 2) := by decide +kernel
theorem dX7_lay_152 : decode cX7_lay 152 = .ok (.iload_n 1, 1) := by decide +kernel
theorem dX7_lay_153 : decode cX7_lay 153 = .ok (.imul, 1) := by decide +kernel
theorem dX7_lay_154 : decode cX7_lay 154 = .ok (.iload 5, 2) := by decide +kernel
theorem dX7_lay_156 : decode cX7_lay 156 = .ok (.iadd, 1) := by decide +kernel
theorem dX7_lay_157 : decode cX7_lay 157 = .ok (.aload_n 0, 1) := by decide +kernel
theorem dX7_lay_158 : decode cX7_lay 158 = .ok (.getfield 70, 3) := by decide +kernel
theorem dX7_lay_161 : decode cX7_lay 161 = .ok (.bipush 24, 2) := by decide +kernel
theorem dX7_lay_163 : decode cX7_lay 163 = .ok (.iload_n 3, 1) := by decide +kernel
theorem dX7_lay_164 : decode cX7_lay 164 = .ok (.imul, 1) := by decide +kernel
theorem dX7_lay_165 : decode cX7_lay 165 = .ok (.iload 5, 2) := by decide +kernel
theorem dX7_lay_167 : decode cX7_lay 167 = .ok (.iadd, 1) := by decide +kernel
theorem dX7_lay_168 : decode cX7_lay 168 = .ok (.iaload, 1) := by decide +kernel
theorem dX7_lay_169 : decode cX7_lay 169 = .ok (.iastore, 1) := by decide +kernel
theorem dX7_lay_170 : decode cX7_lay 170 = .ok (.iinc 5 1, 3) := by decide +kernel
theorem dX7_lay_173 : decode cX7_lay 173 = .ok (.goto (-39), 3) := by decide +kernel
theorem dX7_lay_176 : decode cX7_lay 176 = .ok (.iload 4, 2) := by decide +kernel
theorem dX7_lay_178 : decode cX7_lay 178 = .ok (.ireturn, 1) := by decide +kernel
theorem dX7_ask_0 : decode cX7_ask 0 = .ok (.iload_n 1, 1) := by decide +kernel
theorem dX7_ask_1 : decode cX7_ask 1 = .ok (.invokestatic 273, 3) := by decide +kernel
theorem dX7_ask_4 : decode cX7_ask 4 = .ok (.ifCond .eq 12, 3) := by decide +kernel
theorem dX7_ask_7 : decode cX7_ask 7 = .ok (.iload_n 2, 1) := by decide +kernel
theorem dX7_ask_8 : decode cX7_ask 8 = .ok (.iconst 0, 1) := by decide +kernel
theorem dX7_ask_9 : decode cX7_ask 9 = .ok (.iconst 5, 1) := by decide +kernel
theorem dX7_ask_10 : decode cX7_ask 10 = .ok (.invokestatic 92, 3) := by decide +kernel
theorem dX7_ask_13 : decode cX7_ask 13 = .ok (.ifCond .ne 6, 3) := by decide +kernel
theorem dX7_ask_16 : decode cX7_ask 16 = .ok (.ldc 100, 2) := by decide +kernel
theorem dX7_ask_18 : decode cX7_ask 18 = .ok (.ireturn, 1) := by decide +kernel
theorem dX7_ask_19 : decode cX7_ask 19 = .ok (.aload_n 0, 1) := by decide +kernel
theorem dX7_ask_20 : decode cX7_ask 20 = .ok (.getfield 73, 3) := by decide +kernel
theorem dX7_ask_23 : decode cX7_ask 23 = .ok (.iload_n 1, 1) := by decide +kernel
theorem dX7_ask_24 : decode cX7_ask 24 = .ok (.iaload, 1) := by decide +kernel
theorem dX7_ask_25 : decode cX7_ask 25 = .ok (.ifCond .ne 6, 3) := by decide +kernel
theorem dX7_ask_28 : decode cX7_ask 28 = .ok (.ldc 198, 2) := by decide +kernel
theorem dX7_ask_30 : decode cX7_ask 30 = .ok (.ireturn, 1) := by decide +kernel
theorem dX7_ask_31 : decode cX7_ask 31 = .ok (.aload_n 0, 1) := by decide +kernel
theorem dX7_ask_32 : decode cX7_ask 32 = .ok (.getfield 73, 3) := by decide +kernel
theorem dX7_ask_35 : decode cX7_ask 35 = .ok (.iload_n 1, 1) := by decide +kernel
theorem dX7_ask_36 : decode cX7_ask 36 = .ok (.iaload, 1) := by decide +kernel
theorem dX7_ask_37 : decode cX7_ask 37 = .ok (.iconst 1, 1) := by decide +kernel
theorem dX7_ask_38 : decode cX7_ask 38 = .ok (.if_icmp .ne 25, 3) := by decide +kernel
theorem dX7_ask_41 : decode cX7_ask 41 = .ok (.aload_n 0, 1) := by decide +kernel
theorem dX7_ask_42 : decode cX7_ask 42 = .ok (.getfield 76, 3) := by decide +kernel
theorem dX7_ask_45 : decode cX7_ask 45 = .ok (.iload_n 1, 1) := by decide +kernel
theorem dX7_ask_46 : decode cX7_ask 46 = .ok (.iaload, 1) := by decide +kernel
theorem dX7_ask_47 : decode cX7_ask 47 = .ok (.iload_n 2, 1) := by decide +kernel
theorem dX7_ask_48 : decode cX7_ask 48 = .ok (.invokestatic 134, 3) := by decide +kernel
theorem dX7_ask_51 : decode cX7_ask 51 = .ok (.ifCond .eq 12, 3) := by decide +kernel
theorem dX7_ask_54 : decode cX7_ask 54 = .ok (.aload_n 0, 1) := by decide +kernel
theorem dX7_ask_55 : decode cX7_ask 55 = .ok (.getfield 79, 3) := by decide +kernel
theorem dX7_ask_58 : decode cX7_ask 58 = .ok (.iload_n 1, 1) := by decide +kernel
theorem dX7_ask_59 : decode cX7_ask 59 = .ok (.iaload, 1) := by decide +kernel
theorem dX7_ask_60 : decode cX7_ask 60 = .ok (.goto 5, 3) := by decide +kernel
theorem dX7_ask_63 : decode cX7_ask 63 = .ok (.ldc 138, 2) := by decide +kernel
theorem dX7_ask_65 : decode cX7_ask 65 = .ok (.ireturn, 1) := by decide +kernel
theorem dX7_item_0 : decode cX7_item 0 = .ok (.iload_n 1, 1) := by decide +kernel
theorem dX7_item_1 : decode cX7_item 1 = .ok (.invokestatic 273, 3) := by decide +kernel
theorem dX7_item_4 : decode cX7_item 4 = .ok (.ifCond .ne 6, 3) := by decide +kernel
theorem dX7_item_7 : decode cX7_item 7 = .ok (.ldc 100, 2) := by decide +kernel
theorem dX7_item_9 : decode cX7_item 9 = .ok (.ireturn, 1) := by decide +kernel
theorem dX7_item_10 : decode cX7_item 10 = .ok (.aload_n 0, 1) := by decide +kernel
theorem dX7_item_11 : decode cX7_item 11 = .ok (.getfield 73, 3) := by decide +kernel
theorem dX7_item_14 : decode cX7_item 14 = .ok (.iload_n 1, 1) := by decide +kernel
theorem dX7_item_15 : decode cX7_item 15 = .ok (.iaload, 1) := by decide +kernel
theorem dX7_item_16 : decode cX7_item 16 = .ok (.ifCond .ne 6, 3) := by decide +kernel
theorem dX7_item_19 : decode cX7_item 19 = .ok (.ldc 198, 2) := by decide +kernel
theorem dX7_item_21 : decode cX7_item 21 = .ok (.ireturn, 1) := by decide +kernel
theorem dX7_item_22 : decode cX7_item 22 = .ok (.aload_n 0, 1) := by decide +kernel
theorem dX7_item_23 : decode cX7_item 23 = .ok (.getfield 73, 3) := by decide +kernel
theorem dX7_item_26 : decode cX7_item 26 = .ok (.iload_n 1, 1) := by decide +kernel
theorem dX7_item_27 : decode cX7_item 27 = .ok (.iaload, 1) := by decide +kernel
theorem dX7_item_28 : decode cX7_item 28 = .ok (.iconst 2, 1) := by decide +kernel
theorem dX7_item_29 : decode cX7_item 29 = .ok (.if_icmp .eq 6, 3) := by decide +kernel
theorem dX7_item_32 : decode cX7_item 32 = .ok (.ldc 138, 2) := by decide +kernel
theorem dX7_item_34 : decode cX7_item 34 = .ok (.ireturn, 1) := by decide +kernel
theorem dX7_item_35 : decode cX7_item 35 = .ok (.iload_n 2, 1) := by decide +kernel
theorem dX7_item_36 : decode cX7_item 36 = .ok (.iconst 0, 1) := by decide +kernel
theorem dX7_item_37 : decode cX7_item 37 = .ok (.aload_n 0, 1) := by decide +kernel
theorem dX7_item_38 : decode cX7_item 38 = .ok (.getfield 76, 3) := by decide +kernel
theorem dX7_item_41 : decode cX7_item 41 = .ok (.iload_n 1, 1) := by decide +kernel
theorem dX7_item_42 : decode cX7_item 42 = .ok (.iaload, 1) := by decide +kernel
theorem dX7_item_43 : decode cX7_item 43 = .ok (.iconst 1, 1) := by decide +kernel
theorem dX7_item_44 : decode cX7_item 44 = .ok (.isub, 1) := by decide +kernel
theorem dX7_item_45 : decode cX7_item 45 = .ok (.invokestatic 92, 3) := by decide +kernel
theorem dX7_item_48 : decode cX7_item 48 = .ok (.ifCond .ne 7, 3) := by decide +kernel
theorem dX7_item_51 : decode cX7_item 51 = .ok (.ldc_w 270, 3) := by decide +kernel
theorem dX7_item_54 : decode cX7_item 54 = .ok (.ireturn, 1) := by decide +kernel
theorem dX7_item_55 : decode cX7_item 55 = .ok (.aload_n 0, 1) := by decide +kernel
theorem dX7_item_56 : decode cX7_item 56 = .ok (.getfield 82, 3) := by decide +kernel
theorem dX7_item_59 : decode cX7_item 59 = .ok (.bipush 24, 2) := by decide +kernel
theorem dX7_item_61 : decode cX7_item 61 = .ok (.iload_n 1, 1) := by decide +kernel
theorem dX7_item_62 : decode cX7_item 62 = .ok (.imul, 1) := by decide +kernel
theorem dX7_item_63 : decode cX7_item 63 = .ok (.iload_n 2, 1) := by decide +kernel
theorem dX7_item_64 : decode cX7_item 64 = .ok (.iadd, 1) := by decide +kernel
theorem dX7_item_65 : decode cX7_item 65 = .ok (.iaload, 1) := by decide +kernel
theorem dX7_item_66 : decode cX7_item 66 = .ok (.istore_n 3, 1) := by decide +kernel
theorem dX7_item_67 : decode cX7_item 67 = .ok (.iload_n 3, 1) := by decide +kernel
theorem dX7_item_68 : decode cX7_item 68 = .ok (.ldc 91, 2) := by decide +kernel
theorem dX7_item_70 : decode cX7_item 70 = .ok (.if_icmp .ne 8, 3) := by decide +kernel
theorem dX7_item_73 : decode cX7_item 73 = .ok (.ldc 138, 2) := by decide +kernel
theorem dX7_item_75 : decode cX7_item 75 = .ok (.goto 4, 3) := by decide +kernel
theorem dX7_item_78 : decode cX7_item 78 = .ok (.iload_n 3, 1) := by decide +kernel
theorem dX7_item_79 : decode cX7_item 79 = .ok (.ireturn, 1) := by decide +kernel
theorem dX7_rest_0 : decode cX7_rest 0 = .ok (.iload_n 1, 1) := by decide +kernel
theorem dX7_rest_1 : decode cX7_rest 1 = .ok (.invokestatic 273, 3) := by decide +kernel
theorem dX7_rest_4 : decode cX7_rest 4 = .ok (.ifCond .ne 6, 3) := by decide +kernel
theorem dX7_rest_7 : decode cX7_rest 7 = .ok (.ldc 100, 2) := by decide +kernel
theorem dX7_rest_9 : decode cX7_rest 9 = .ok (.ireturn, 1) := by decide +kernel
theorem dX7_rest_10 : decode cX7_rest 10 = .ok (.aload_n 0, 1) := by decide +kernel
theorem dX7_rest_11 : decode cX7_rest 11 = .ok (.getfield 73, 3) := by decide +kernel
theorem dX7_rest_14 : decode cX7_rest 14 = .ok (.iload_n 1, 1) := by decide +kernel
theorem dX7_rest_15 : decode cX7_rest 15 = .ok (.iaload, 1) := by decide +kernel
theorem dX7_rest_16 : decode cX7_rest 16 = .ok (.ifCond .ne 6, 3) := by decide +kernel
theorem dX7_rest_19 : decode cX7_rest 19 = .ok (.ldc 198, 2) := by decide +kernel
theorem dX7_rest_21 : decode cX7_rest 21 = .ok (.ireturn, 1) := by decide +kernel
theorem dX7_rest_22 : decode cX7_rest 22 = .ok (.aload_n 0, 1) := by decide +kernel
theorem dX7_rest_23 : decode cX7_rest 23 = .ok (.getfield 73, 3) := by decide +kernel
theorem dX7_rest_26 : decode cX7_rest 26 = .ok (.iload_n 1, 1) := by decide +kernel
theorem dX7_rest_27 : decode cX7_rest 27 = .ok (.iaload, 1) := by decide +kernel
theorem dX7_rest_28 : decode cX7_rest 28 = .ok (.iconst 3, 1) := by decide +kernel
theorem dX7_rest_29 : decode cX7_rest 29 = .ok (.if_icmp .eq 6, 3) := by decide +kernel
theorem dX7_rest_32 : decode cX7_rest 32 = .ok (.ldc 138, 2) := by decide +kernel
theorem dX7_rest_34 : decode cX7_rest 34 = .ok (.ireturn, 1) := by decide +kernel
theorem dX7_rest_35 : decode cX7_rest 35 = .ok (.iload_n 2, 1) := by decide +kernel
theorem dX7_rest_36 : decode cX7_rest 36 = .ok (.ifCond .ne 9, 3) := by decide +kernel
theorem dX7_rest_39 : decode cX7_rest 39 = .ok (.ldc_w 276, 3) := by decide +kernel
theorem dX7_rest_42 : decode cX7_rest 42 = .ok (.goto 20, 3) := by decide +kernel
theorem dX7_rest_45 : decode cX7_rest 45 = .ok (.iload_n 2, 1) := by decide +kernel
theorem dX7_rest_46 : decode cX7_rest 46 = .ok (.iconst (-1), 1) := by decide +kernel
theorem dX7_rest_47 : decode cX7_rest 47 = .ok (.if_icmp .ne 7, 3) := by decide +kernel
theorem dX7_rest_50 : decode cX7_rest 50 = .ok (.iconst 0, 1) := by decide +kernel
theorem dX7_rest_51 : decode cX7_rest 51 = .ok (.goto 11, 3) := by decide +kernel
theorem dX7_rest_54 : decode cX7_rest 54 = .ok (.aload_n 0, 1) := by decide +kernel
theorem dX7_rest_55 : decode cX7_rest 55 = .ok (.getfield 76, 3) := by decide +kernel
theorem dX7_rest_58 : decode cX7_rest 58 = .ok (.iload_n 1, 1) := by decide +kernel
theorem dX7_rest_59 : decode cX7_rest 59 = .ok (.iaload, 1) := by decide +kernel
theorem dX7_rest_60 : decode cX7_rest 60 = .ok (.iload_n 2, 1) := by decide +kernel
theorem dX7_rest_61 : decode cX7_rest 61 = .ok (.irem, 1) := by decide +kernel
theorem dX7_rest_62 : decode cX7_rest 62 = .ok (.ireturn, 1) := by decide +kernel
theorem dX7_tell_0 : decode cX7_tell 0 = .ok (.aload_n 0, 1) := by decide +kernel
theorem dX7_tell_1 : decode cX7_tell 1 = .ok (.getfield 277, 3) := by decide +kernel
theorem dX7_tell_4 : decode cX7_tell 4 = .ok (.bipush 60, 2) := by decide +kernel
theorem dX7_tell_6 : decode cX7_tell 6 = .ok (.if_icmp .ne 6, 3) := by decide +kernel
theorem dX7_tell_9 : decode cX7_tell 9 = .ok (.ldc 101, 2) := by decide +kernel
theorem dX7_tell_11 : decode cX7_tell 11 = .ok (.ireturn, 1) := by decide +kernel
theorem dX7_tell_12 : decode cX7_tell 12 = .ok (.aload_n 0, 1) := by decide +kernel
theorem dX7_tell_13 : decode cX7_tell 13 = .ok (.getfield 88, 3) := by decide +kernel
theorem dX7_tell_16 : decode cX7_tell 16 = .ok (.aload_n 0, 1) := by decide +kernel
theorem dX7_tell_17 : decode cX7_tell 17 = .ok (.getfield 277, 3) := by decide +kernel
theorem dX7_tell_20 : decode cX7_tell 20 = .ok (.iload_n 1, 1) := by decide +kernel
theorem dX7_tell_21 : decode cX7_tell 21 = .ok (.iastore, 1) := by decide +kernel
theorem dX7_tell_22 : decode cX7_tell 22 = .ok (.aload_n 0, 1) := by decide +kernel
theorem dX7_tell_23 : decode cX7_tell 23 = .ok (.dup, 1) := by decide +kernel
theorem dX7_tell_24 : decode cX7_tell 24 = .ok (.getfield 277, 3) := by decide +kernel
theorem dX7_tell_27 : decode cX7_tell 27 = .ok (.iconst 1, 1) := by decide +kernel
theorem dX7_tell_28 : decode cX7_tell 28 = .ok (.iadd, 1) := by decide +kernel
theorem dX7_tell_29 : decode cX7_tell 29 = .ok (.putfield 277, 3) := by decide +kernel
theorem dX7_tell_32 : decode cX7_tell 32 = .ok (.aload_n 0, 1) := by decide +kernel
theorem dX7_tell_33 : decode cX7_tell 33 = .ok (.getfield 277, 3) := by decide +kernel
theorem dX7_tell_36 : decode cX7_tell 36 = .ok (.ireturn, 1) := by decide +kernel
theorem dX7_check_0 : decode cX7_check 0 = .ok (.aload_n 0, 1) := by decide +kernel
theorem dX7_check_1 : decode cX7_check 1 = .ok (.getfield 277, 3) := by decide +kernel
theorem dX7_check_4 : decode cX7_check 4 = .ok (.istore_n 2, 1) := by decide +kernel
theorem dX7_check_5 : decode cX7_check 5 = .ok (.aload_n 0, 1) := by decide +kernel
theorem dX7_check_6 : decode cX7_check 6 = .ok (.iconst 0, 1) := by decide +kernel
theorem dX7_check_7 : decode cX7_check 7 = .ok (.putfield 277, 3) := by decide +kernel
theorem dX7_check_10 : decode cX7_check 10 = .ok (.iload_n 1, 1) := by decide +kernel
theorem dX7_check_11 : decode cX7_check 11 = .ok (.iconst 1, 1) := by decide +kernel
theorem dX7_check_12 : decode cX7_check 12 = .ok (.bipush 30, 2) := by decide +kernel
theorem dX7_check_14 : decode cX7_check 14 = .ok (.invokestatic 92, 3) := by decide +kernel
theorem dX7_check_17 : decode cX7_check 17 = .ok (.ifCond .ne 6, 3) := by decide +kernel
theorem dX7_check_20 : decode cX7_check 20 = .ok (.ldc 100, 2) := by decide +kernel
theorem dX7_check_22 : decode cX7_check 22 = .ok (.ireturn, 1) := by decide +kernel
theorem dX7_check_23 : decode cX7_check 23 = .ok (.aload_n 0, 1) := by decide +kernel
theorem dX7_check_24 : decode cX7_check 24 = .ok (.getfield 280, 3) := by decide +kernel
theorem dX7_check_27 : decode cX7_check 27 = .ok (.ifCond .ne 7, 3) := by decide +kernel
theorem dX7_check_30 : decode cX7_check 30 = .ok (.ldc_w 276, 3) := by decide +kernel
theorem dX7_check_33 : decode cX7_check 33 = .ok (.ireturn, 1) := by decide +kernel
theorem dX7_check_34 : decode cX7_check 34 = .ok (.aload_n 0, 1) := by decide +kernel
theorem dX7_check_35 : decode cX7_check 35 = .ok (.getfield 9, 3) := by decide +kernel
theorem dX7_check_38 : decode cX7_check 38 = .ok (.aload_n 0, 1) := by decide +kernel
theorem dX7_check_39 : decode cX7_check 39 = .ok (.getfield 16, 3) := by decide +kernel
theorem dX7_check_42 : decode cX7_check 42 = .ok (.invokestatic 284, 3) := by decide +kernel
theorem dX7_check_45 : decode cX7_check 45 = .ok (.aload_n 0, 1) := by decide +kernel
theorem dX7_check_46 : decode cX7_check 46 = .ok (.getfield 13, 3) := by decide +kernel
theorem dX7_check_49 : decode cX7_check 49 = .ok (.aload_n 0, 1) := by decide +kernel
theorem dX7_check_50 : decode cX7_check 50 = .ok (.getfield 9, 3) := by decide +kernel
theorem dX7_check_53 : decode cX7_check 53 = .ok (.invokestatic 284, 3) := by decide +kernel
theorem dX7_check_56 : decode cX7_check 56 = .ok (.iconst 2, 1) := by decide +kernel
theorem dX7_check_57 : decode cX7_check 57 = .ok (.sipush 9999, 3) := by decide +kernel
theorem dX7_check_60 : decode cX7_check 60 = .ok (.aload_n 0, 1) := by decide +kernel
theorem dX7_check_61 : decode cX7_check 61 = .ok (.getfield 9, 3) := by decide +kernel
theorem dX7_check_64 : decode cX7_check 64 = .ok (.iconst 2, 1) := by decide +kernel
theorem dX7_check_65 : decode cX7_check 65 = .ok (.iaload, 1) := by decide +kernel
theorem dX7_check_66 : decode cX7_check 66 = .ok (.isub, 1) := by decide +kernel
theorem dX7_check_67 : decode cX7_check 67 = .ok (.iconst 0, 1) := by decide +kernel
theorem dX7_check_68 : decode cX7_check 68 = .ok (.iload_n 1, 1) := by decide +kernel
theorem dX7_check_69 : decode cX7_check 69 = .ok (.invokestatic 117, 3) := by decide +kernel
theorem dX7_check_72 : decode cX7_check 72 = .ok (.imul, 1) := by decide +kernel
theorem dX7_check_73 : decode cX7_check 73 = .ok (.istore_n 3, 1) := by decide +kernel
theorem dX7_check_74 : decode cX7_check 74 = .ok (.iconst 0, 1) := by decide +kernel
theorem dX7_check_75 : decode cX7_check 75 = .ok (.istore 4, 2) := by decide +kernel
theorem dX7_check_77 : decode cX7_check 77 = .ok (.iconst 0, 1) := by decide +kernel
theorem dX7_check_78 : decode cX7_check 78 = .ok (.istore 5, 2) := by decide +kernel
theorem dX7_check_80 : decode cX7_check 80 = .ok (.iconst 2, 1) := by decide +kernel
theorem dX7_check_81 : decode cX7_check 81 = .ok (.iload 5, 2) := by decide +kernel
theorem dX7_check_83 : decode cX7_check 83 = .ok (.imul, 1) := by decide +kernel
theorem dX7_check_84 : decode cX7_check 84 = .ok (.iload_n 3, 1) := by decide +kernel
theorem dX7_check_85 : decode cX7_check 85 = .ok (.if_icmp .ge 97, 3) := by decide +kernel
theorem dX7_check_88 : decode cX7_check 88 = .ok (.iload 4, 2) := by decide +kernel
theorem dX7_check_90 : decode cX7_check 90 = .ok (.iconst 2, 1) := by decide +kernel
theorem dX7_check_91 : decode cX7_check 91 = .ok (.iload 5, 2) := by decide +kernel
theorem dX7_check_93 : decode cX7_check 93 = .ok (.imul, 1) := by decide +kernel
theorem dX7_check_94 : decode cX7_check 94 = .ok (.if_icmp .ne 88, 3) := by decide +kernel
theorem dX7_check_97 : decode cX7_check 97 = .ok (.aload_n 0, 1) := by decide +kernel
theorem dX7_check_98 : decode cX7_check 98 = .ok (.invokevirtual 163, 3) := by decide +kernel
theorem dX7_check_101 : decode cX7_check 101 = .ok (.iload 4, 2) := by decide +kernel
theorem dX7_check_103 : decode cX7_check 103 = .ok (.iload 4, 2) := by decide +kernel
theorem dX7_check_105 : decode cX7_check 105 = .ok (.iload_n 2, 1) := by decide +kernel
theorem dX7_check_106 : decode cX7_check 106 = .ok (.if_icmp .ge 24, 3) := by decide +kernel
theorem dX7_check_109 : decode cX7_check 109 = .ok (.aload_n 0, 1) := by decide +kernel
theorem dX7_check_110 : decode cX7_check 110 = .ok (.getfield 88, 3) := by decide +kernel
theorem dX7_check_113 : decode cX7_check 113 = .ok (.iload 4, 2) := by decide +kernel
theorem dX7_check_115 : decode cX7_check 115 = .ok (.iaload, 1) := by decide +kernel
theorem dX7_check_116 : decode cX7_check 116 = .ok (.aload_n 0, 1) := by decide +kernel
theorem dX7_check_117 : decode cX7_check 117 = .ok (.getfield 9, 3) := by decide +kernel
theorem dX7_check_120 : decode cX7_check 120 = .ok (.bipush 6, 2) := by decide +kernel
theorem dX7_check_122 : decode cX7_check 122 = .ok (.iaload, 1) := by decide +kernel
theorem dX7_check_123 : decode cX7_check 123 = .ok (.if_icmp .ne 7, 3) := by decide +kernel
theorem dX7_check_126 : decode cX7_check 126 = .ok (.iconst 1, 1) := by decide +kernel
theorem dX7_check_127 : decode cX7_check 127 = .ok (.goto 4, 3) := by decide +kernel
theorem dX7_check_130 : decode cX7_check 130 = .ok (.iconst 0, 1) := by decide +kernel
theorem dX7_check_131 : decode cX7_check 131 = .ok (.iadd, 1) := by decide +kernel
theorem dX7_check_132 : decode cX7_check 132 = .ok (.istore 4, 2) := by decide +kernel
theorem dX7_check_134 : decode cX7_check 134 = .ok (.iload 4, 2) := by decide +kernel
theorem dX7_check_136 : decode cX7_check 136 = .ok (.iload 4, 2) := by decide +kernel
theorem dX7_check_138 : decode cX7_check 138 = .ok (.iconst 2, 1) := by decide +kernel
theorem dX7_check_139 : decode cX7_check 139 = .ok (.iload 5, 2) := by decide +kernel
theorem dX7_check_141 : decode cX7_check 141 = .ok (.imul, 1) := by decide +kernel
theorem dX7_check_142 : decode cX7_check 142 = .ok (.iconst 1, 1) := by decide +kernel
theorem dX7_check_143 : decode cX7_check 143 = .ok (.iadd, 1) := by decide +kernel
theorem dX7_check_144 : decode cX7_check 144 = .ok (.if_icmp .ne 28, 3) := by decide +kernel
theorem dX7_check_147 : decode cX7_check 147 = .ok (.iload 4, 2) := by decide +kernel
theorem dX7_check_149 : decode cX7_check 149 = .ok (.iload_n 2, 1) := by decide +kernel
theorem dX7_check_150 : decode cX7_check 150 = .ok (.if_icmp .ge 22, 3) := by decide +kernel
theorem dX7_check_153 : decode cX7_check 153 = .ok (.aload_n 0, 1) := by decide +kernel
theorem dX7_check_154 : decode cX7_check 154 = .ok (.getfield 88, 3) := by decide +kernel
theorem dX7_check_157 : decode cX7_check 157 = .ok (.iload 4, 2) := by decide +kernel
theorem dX7_check_159 : decode cX7_check 159 = .ok (.iaload, 1) := by decide +kernel
theorem dX7_check_160 : decode cX7_check 160 = .ok (.aload_n 0, 1) := by decide +kernel
theorem dX7_check_161 : decode cX7_check 161 = .ok (.iconst 4, 1) := by decide +kernel
theorem dX7_check_162 : decode cX7_check 162 = .ok (.invokevirtual 170, 3) := by decide +kernel
theorem dX7_check_165 : decode cX7_check 165 = .ok (.if_icmp .ne 7, 3) := by decide +kernel
theorem dX7_check_168 : decode cX7_check 168 = .ok (.iconst 1, 1) := by decide +kernel
theorem dX7_check_169 : decode cX7_check 169 = .ok (.goto 4, 3) := by decide +kernel
theorem dX7_check_172 : decode cX7_check 172 = .ok (.iconst 0, 1) := by decide +kernel
theorem dX7_check_173 : decode cX7_check 173 = .ok (.iadd, 1) := by decide +kernel
theorem dX7_check_174 : decode cX7_check 174 = .ok (.istore 4, 2) := by decide +kernel
theorem dX7_check_176 : decode cX7_check 176 = .ok (.iinc 5 1, 3) := by decide +kernel
theorem dX7_check_179 : decode cX7_check 179 = .ok (.goto (-99), 3) := by decide +kernel
theorem dX7_check_182 : decode cX7_check 182 = .ok (.aload_n 0, 1) := by decide +kernel
theorem dX7_check_183 : decode cX7_check 183 = .ok (.getfield 16, 3) := by decide +kernel
theorem dX7_check_186 : decode cX7_check 186 = .ok (.aload_n 0, 1) := by decide +kernel
theorem dX7_check_187 : decode cX7_check 187 = .ok (.getfield 9, 3) := by decide +kernel
theorem dX7_check_190 : decode cX7_check 190 = .ok (.invokestatic 284, 3) := by decide +kernel
theorem dX7_check_193 : decode cX7_check 193 = .ok (.iload 4, 2) := by decide +kernel
theorem dX7_check_195 : decode cX7_check 195 = .ok (.iload_n 2, 1) := by decide +kernel
theorem dX7_check_196 : decode cX7_check 196 = .ok (.if_icmp .ne 13, 3) := by decide +kernel
theorem dX7_check_199 : decode cX7_check 199 = .ok (.iload 4, 2) := by decide +kernel
theorem dX7_check_201 : decode cX7_check 201 = .ok (.iload_n 3, 1) := by decide +kernel
theorem dX7_check_202 : decode cX7_check 202 = .ok (.if_icmp .ne 7, 3) := by decide +kernel
theorem dX7_check_205 : decode cX7_check 205 = .ok (.iconst 0, 1) := by decide +kernel
theorem dX7_check_206 : decode cX7_check 206 = .ok (.goto 7, 3) := by decide +kernel
theorem dX7_check_209 : decode cX7_check 209 = .ok (.iconst 1, 1) := by decide +kernel
theorem dX7_check_210 : decode cX7_check 210 = .ok (.iload 4, 2) := by decide +kernel
theorem dX7_check_212 : decode cX7_check 212 = .ok (.iadd, 1) := by decide +kernel
theorem dX7_check_213 : decode cX7_check 213 = .ok (.ireturn, 1) := by decide +kernel
theorem dX7_keep_0 : decode cX7_keep 0 = .ok (.aload_n 0, 1) := by decide +kernel
theorem dX7_keep_1 : decode cX7_keep 1 = .ok (.getfield 9, 3) := by decide +kernel
theorem dX7_keep_4 : decode cX7_keep 4 = .ok (.aload_n 0, 1) := by decide +kernel
theorem dX7_keep_5 : decode cX7_keep 5 = .ok (.getfield 13, 3) := by decide +kernel
theorem dX7_keep_8 : decode cX7_keep 8 = .ok (.invokestatic 284, 3) := by decide +kernel
theorem dX7_keep_11 : decode cX7_keep 11 = .ok (.aload_n 0, 1) := by decide +kernel
theorem dX7_keep_12 : decode cX7_keep 12 = .ok (.iconst 1, 1) := by decide +kernel
theorem dX7_keep_13 : decode cX7_keep 13 = .ok (.putfield 280, 3) := by decide +kernel
theorem dX7_keep_16 : decode cX7_keep 16 = .ok (.aload_n 0, 1) := by decide +kernel
theorem dX7_keep_17 : decode cX7_keep 17 = .ok (.getfield 9, 3) := by decide +kernel
theorem dX7_keep_20 : decode cX7_keep 20 = .ok (.iconst 1, 1) := by decide +kernel
theorem dX7_keep_21 : decode cX7_keep 21 = .ok (.iaload, 1) := by decide +kernel
theorem dX7_keep_22 : decode cX7_keep 22 = .ok (.ireturn, 1) := by decide +kernel
theorem dX7_back_0 : decode cX7_back 0 = .ok (.aload_n 0, 1) := by decide +kernel
theorem dX7_back_1 : decode cX7_back 1 = .ok (.getfield 280, 3) := by decide +kernel
theorem dX7_back_4 : decode cX7_back 4 = .ok (.ifCond .ne 7, 3) := by decide +kernel
theorem dX7_back_7 : decode cX7_back 7 = .ok (.ldc_w 276, 3) := by decide +kernel
theorem dX7_back_10 : decode cX7_back 10 = .ok (.ireturn, 1) := by decide +kernel
theorem dX7_back_11 : decode cX7_back 11 = .ok (.aload_n 0, 1) := by decide +kernel
theorem dX7_back_12 : decode cX7_back 12 = .ok (.getfield 13, 3) := by decide +kernel
theorem dX7_back_15 : decode cX7_back 15 = .ok (.aload_n 0, 1) := by decide +kernel
theorem dX7_back_16 : decode cX7_back 16 = .ok (.getfield 9, 3) := by decide +kernel
theorem dX7_back_19 : decode cX7_back 19 = .ok (.invokestatic 284, 3) := by decide +kernel
theorem dX7_back_22 : decode cX7_back 22 = .ok (.aload_n 0, 1) := by decide +kernel
theorem dX7_back_23 : decode cX7_back 23 = .ok (.getfield 9, 3) := by decide +kernel
theorem dX7_back_26 : decode cX7_back 26 = .ok (.iconst 1, 1) := by decide +kernel
theorem dX7_back_27 : decode cX7_back 27 = .ok (.iaload, 1) := by decide +kernel
theorem dX7_back_28 : decode cX7_back 28 = .ok (.ireturn, 1) := by decide +kernel
theorem dX7_count_0 : decode cX7_count 0 = .ok (.iload_n 1, 1) := by decide +kernel
theorem dX7_count_1 : decode cX7_count 1 = .ok (.tableswitch 99 0 8 #[51, 58, 65, 65, 65, 74, 82, 87, 92], 51) := by decide +kernel
theorem dX7_count_52 : decode cX7_count 52 = .ok (.aload_n 0, 1) := by decide +kernel
theorem dX7_count_53 : decode cX7_count 53 = .ok (.getfield 9, 3) := by decide +kernel
theorem dX7_count_56 : decode cX7_count 56 = .ok (.iconst 1, 1) := by decide +kernel
theorem dX7_count_57 : decode cX7_count 57 = .ok (.iaload, 1) := by decide +kernel
theorem dX7_count_58 : decode cX7_count 58 = .ok (.ireturn, 1) := by decide +kernel
theorem dX7_count_59 : decode cX7_count 59 = .ok (.aload_n 0, 1) := by decide +kernel
theorem dX7_count_60 : decode cX7_count 60 = .ok (.getfield 9, 3) := by decide +kernel
theorem dX7_count_63 : decode cX7_count 63 = .ok (.iconst 2, 1) := by decide +kernel
theorem dX7_count_64 : decode cX7_count 64 = .ok (.iaload, 1) := by decide +kernel
theorem dX7_count_65 : decode cX7_count 65 = .ok (.ireturn, 1) := by decide +kernel
theorem dX7_count_66 : decode cX7_count 66 = .ok (.aload_n 0, 1) := by decide +kernel
theorem dX7_count_67 : decode cX7_count 67 = .ok (.getfield 9, 3) := by decide +kernel
theorem dX7_count_70 : decode cX7_count 70 = .ok (.iconst 1, 1) := by decide +kernel
theorem dX7_count_71 : decode cX7_count 71 = .ok (.iload_n 1, 1) := by decide +kernel
theorem dX7_count_72 : decode cX7_count 72 = .ok (.iadd, 1) := by decide +kernel
theorem dX7_count_73 : decode cX7_count 73 = .ok (.iaload, 1) := by decide +kernel
theorem dX7_count_74 : decode cX7_count 74 = .ok (.ireturn, 1) := by decide +kernel
theorem dX7_count_75 : decode cX7_count 75 = .ok (.aload_n 0, 1) := by decide +kernel
theorem dX7_count_76 : decode cX7_count 76 = .ok (.getfield 9, 3) := by decide +kernel
theorem dX7_count_79 : decode cX7_count 79 = .ok (.bipush 7, 2) := by decide +kernel
theorem dX7_count_81 : decode cX7_count 81 = .ok (.iaload, 1) := by decide +kernel
theorem dX7_count_82 : decode cX7_count 82 = .ok (.ireturn, 1) := by decide +kernel
theorem dX7_count_83 : decode cX7_count 83 = .ok (.aload_n 0, 1) := by decide +kernel
theorem dX7_count_84 : decode cX7_count 84 = .ok (.getfield 277, 3) := by decide +kernel
theorem dX7_count_87 : decode cX7_count 87 = .ok (.ireturn, 1) := by decide +kernel
theorem dX7_count_88 : decode cX7_count 88 = .ok (.aload_n 0, 1) := by decide +kernel
theorem dX7_count_89 : decode cX7_count 89 = .ok (.getfield 203, 3) := by decide +kernel
theorem dX7_count_92 : decode cX7_count 92 = .ok (.ireturn, 1) := by decide +kernel
theorem dX7_count_93 : decode cX7_count 93 = .ok (.aload_n 0, 1) := by decide +kernel
theorem dX7_count_94 : decode cX7_count 94 = .ok (.getfield 9, 3) := by decide +kernel
theorem dX7_count_97 : decode cX7_count 97 = .ok (.iconst 0, 1) := by decide +kernel
theorem dX7_count_98 : decode cX7_count 98 = .ok (.iaload, 1) := by decide +kernel
theorem dX7_count_99 : decode cX7_count 99 = .ok (.ireturn, 1) := by decide +kernel
theorem dX7_count_100 : decode cX7_count 100 = .ok (.ldc 100, 2) := by decide +kernel
theorem dX7_count_102 : decode cX7_count 102 = .ok (.ireturn, 1) := by decide +kernel
theorem dJ11_isValidCodePoint_9a6ad_0 : decode cJ11_isValidCodePoint_9a6ad 0 = .ok (.iload_n 0, 1) := by decide +kernel
theorem dJ11_isValidCodePoint_9a6ad_1 : decode cJ11_isValidCodePoint_9a6ad 1 = .ok (.bipush 16, 2) := by decide +kernel
theorem dJ11_isValidCodePoint_9a6ad_3 : decode cJ11_isValidCodePoint_9a6ad 3 = .ok (.iushr, 1) := by decide +kernel
theorem dJ11_isValidCodePoint_9a6ad_4 : decode cJ11_isValidCodePoint_9a6ad 4 = .ok (.istore_n 1, 1) := by decide +kernel
theorem dJ11_isValidCodePoint_9a6ad_5 : decode cJ11_isValidCodePoint_9a6ad 5 = .ok (.iload_n 1, 1) := by decide +kernel
theorem dJ11_isValidCodePoint_9a6ad_6 : decode cJ11_isValidCodePoint_9a6ad 6 = .ok (.bipush 17, 2) := by decide +kernel
theorem dJ11_isValidCodePoint_9a6ad_8 : decode cJ11_isValidCodePoint_9a6ad 8 = .ok (.if_icmp .ge 7, 3) := by decide +kernel
theorem dJ11_isValidCodePoint_9a6ad_11 : decode cJ11_isValidCodePoint_9a6ad 11 = .ok (.iconst 1, 1) := by decide +kernel
theorem dJ11_isValidCodePoint_9a6ad_12 : decode cJ11_isValidCodePoint_9a6ad 12 = .ok (.goto 4, 3) := by decide +kernel
theorem dJ11_isValidCodePoint_9a6ad_15 : decode cJ11_isValidCodePoint_9a6ad 15 = .ok (.iconst 0, 1) := by decide +kernel
theorem dJ11_isValidCodePoint_9a6ad_16 : decode cJ11_isValidCodePoint_9a6ad 16 = .ok (.ireturn, 1) := by decide +kernel
theorem dJ11_highSurrogate_5068e_0 : decode cJ11_highSurrogate_5068e 0 = .ok (.iload_n 0, 1) := by decide +kernel
theorem dJ11_highSurrogate_5068e_1 : decode cJ11_highSurrogate_5068e 1 = .ok (.bipush 10, 2) := by decide +kernel
theorem dJ11_highSurrogate_5068e_3 : decode cJ11_highSurrogate_5068e 3 = .ok (.iushr, 1) := by decide +kernel
theorem dJ11_highSurrogate_5068e_4 : decode cJ11_highSurrogate_5068e 4 = .ok (.ldc 110, 2) := by decide +kernel
theorem dJ11_highSurrogate_5068e_6 : decode cJ11_highSurrogate_5068e 6 = .ok (.iadd, 1) := by decide +kernel
theorem dJ11_highSurrogate_5068e_7 : decode cJ11_highSurrogate_5068e 7 = .ok (.i2c, 1) := by decide +kernel
theorem dJ11_highSurrogate_5068e_8 : decode cJ11_highSurrogate_5068e 8 = .ok (.ireturn, 1) := by decide +kernel
theorem dJ11_lowSurrogate_5068e_0 : decode cJ11_lowSurrogate_5068e 0 = .ok (.iload_n 0, 1) := by decide +kernel
theorem dJ11_lowSurrogate_5068e_1 : decode cJ11_lowSurrogate_5068e 1 = .ok (.sipush 1023, 3) := by decide +kernel
theorem dJ11_lowSurrogate_5068e_4 : decode cJ11_lowSurrogate_5068e 4 = .ok (.iand, 1) := by decide +kernel
theorem dJ11_lowSurrogate_5068e_5 : decode cJ11_lowSurrogate_5068e 5 = .ok (.ldc 76, 2) := by decide +kernel
theorem dJ11_lowSurrogate_5068e_7 : decode cJ11_lowSurrogate_5068e 7 = .ok (.iadd, 1) := by decide +kernel
theorem dJ11_lowSurrogate_5068e_8 : decode cJ11_lowSurrogate_5068e 8 = .ok (.i2c, 1) := by decide +kernel
theorem dJ11_lowSurrogate_5068e_9 : decode cJ11_lowSurrogate_5068e 9 = .ok (.ireturn, 1) := by decide +kernel
theorem dJ9_abs_0f7a4_0 : decode cJ9_abs_0f7a4 0 = .ok (.iload_n 0, 1) := by decide +kernel
theorem dJ9_abs_0f7a4_1 : decode cJ9_abs_0f7a4 1 = .ok (.ifCond .ge 8, 3) := by decide +kernel
theorem dJ9_abs_0f7a4_4 : decode cJ9_abs_0f7a4 4 = .ok (.iload_n 0, 1) := by decide +kernel
theorem dJ9_abs_0f7a4_5 : decode cJ9_abs_0f7a4 5 = .ok (.ineg, 1) := by decide +kernel
theorem dJ9_abs_0f7a4_6 : decode cJ9_abs_0f7a4 6 = .ok (.goto 4, 3) := by decide +kernel
theorem dJ9_abs_0f7a4_9 : decode cJ9_abs_0f7a4 9 = .ok (.iload_n 0, 1) := by decide +kernel
theorem dJ9_abs_0f7a4_10 : decode cJ9_abs_0f7a4 10 = .ok (.ireturn, 1) := by decide +kernel
theorem dJ9_max_7cf53_0 : decode cJ9_max_7cf53 0 = .ok (.iload_n 0, 1) := by decide +kernel
theorem dJ9_max_7cf53_1 : decode cJ9_max_7cf53 1 = .ok (.iload_n 1, 1) := by decide +kernel
theorem dJ9_max_7cf53_2 : decode cJ9_max_7cf53 2 = .ok (.if_icmp .lt 7, 3) := by decide +kernel
theorem dJ9_max_7cf53_5 : decode cJ9_max_7cf53 5 = .ok (.iload_n 0, 1) := by decide +kernel
theorem dJ9_max_7cf53_6 : decode cJ9_max_7cf53 6 = .ok (.goto 4, 3) := by decide +kernel
theorem dJ9_max_7cf53_9 : decode cJ9_max_7cf53 9 = .ok (.iload_n 1, 1) := by decide +kernel
theorem dJ9_max_7cf53_10 : decode cJ9_max_7cf53 10 = .ok (.ireturn, 1) := by decide +kernel
theorem dJ9_min_7cf53_0 : decode cJ9_min_7cf53 0 = .ok (.iload_n 0, 1) := by decide +kernel
theorem dJ9_min_7cf53_1 : decode cJ9_min_7cf53 1 = .ok (.iload_n 1, 1) := by decide +kernel
theorem dJ9_min_7cf53_2 : decode cJ9_min_7cf53 2 = .ok (.if_icmp .gt 7, 3) := by decide +kernel
theorem dJ9_min_7cf53_5 : decode cJ9_min_7cf53 5 = .ok (.iload_n 0, 1) := by decide +kernel
theorem dJ9_min_7cf53_6 : decode cJ9_min_7cf53 6 = .ok (.goto 4, 3) := by decide +kernel
theorem dJ9_min_7cf53_9 : decode cJ9_min_7cf53 9 = .ok (.iload_n 1, 1) := by decide +kernel
theorem dJ9_min_7cf53_10 : decode cJ9_min_7cf53 10 = .ok (.ireturn, 1) := by decide +kernel
theorem dJ0_length_8abf5_0 : decode cJ0_length_8abf5 0 = .ok (.aload_n 0, 1) := by decide +kernel
theorem dJ0_length_8abf5_1 : decode cJ0_length_8abf5 1 = .ok (.getfield 9, 3) := by decide +kernel
theorem dJ0_length_8abf5_4 : decode cJ0_length_8abf5 4 = .ok (.arraylength, 1) := by decide +kernel
theorem dJ0_length_8abf5_5 : decode cJ0_length_8abf5 5 = .ok (.aload_n 0, 1) := by decide +kernel
theorem dJ0_length_8abf5_6 : decode cJ0_length_8abf5 6 = .ok (.invokevirtual 335, 3) := by decide +kernel
theorem dJ0_length_8abf5_9 : decode cJ0_length_8abf5 9 = .ok (.ishr, 1) := by decide +kernel
theorem dJ0_length_8abf5_10 : decode cJ0_length_8abf5 10 = .ok (.ireturn, 1) := by decide +kernel
theorem dJ0_charAt_5068e_0 : decode cJ0_charAt_5068e 0 = .ok (.aload_n 0, 1) := by decide +kernel
theorem dJ0_charAt_5068e_1 : decode cJ0_charAt_5068e 1 = .ok (.invokevirtual 492, 3) := by decide +kernel
theorem dJ0_charAt_5068e_4 : decode cJ0_charAt_5068e 4 = .ok (.ifCond .eq 12, 3) := by decide +kernel
theorem dJ0_charAt_5068e_7 : decode cJ0_charAt_5068e 7 = .ok (.aload_n 0, 1) := by decide +kernel
theorem dJ0_charAt_5068e_8 : decode cJ0_charAt_5068e 8 = .ok (.getfield 9, 3) := by decide +kernel
theorem dJ0_charAt_5068e_11 : decode cJ0_charAt_5068e 11 = .ok (.iload_n 1, 1) := by decide +kernel
theorem dJ0_charAt_5068e_12 : decode cJ0_charAt_5068e 12 = .ok (.invokestatic 495, 3) := by decide +kernel
theorem dJ0_charAt_5068e_15 : decode cJ0_charAt_5068e 15 = .ok (.ireturn, 1) := by decide +kernel
theorem dJ0_charAt_5068e_16 : decode cJ0_charAt_5068e 16 = .ok (.aload_n 0, 1) := by decide +kernel
theorem dJ0_charAt_5068e_17 : decode cJ0_charAt_5068e 17 = .ok (.getfield 9, 3) := by decide +kernel
theorem dJ0_charAt_5068e_20 : decode cJ0_charAt_5068e 20 = .ok (.iload_n 1, 1) := by decide +kernel
theorem dJ0_charAt_5068e_21 : decode cJ0_charAt_5068e 21 = .ok (.invokestatic 498, 3) := by decide +kernel
theorem dJ0_charAt_5068e_24 : decode cJ0_charAt_5068e 24 = .ok (.ireturn, 1) := by decide +kernel
theorem dJ0_indexOf_0f7a4_0 : decode cJ0_indexOf_0f7a4 0 = .ok (.aload_n 0, 1) := by decide +kernel
theorem dJ0_indexOf_0f7a4_1 : decode cJ0_indexOf_0f7a4 1 = .ok (.iload_n 1, 1) := by decide +kernel
theorem dJ0_indexOf_0f7a4_2 : decode cJ0_indexOf_0f7a4 2 = .ok (.iconst 0, 1) := by decide +kernel
theorem dJ0_indexOf_0f7a4_3 : decode cJ0_indexOf_0f7a4 3 = .ok (.invokevirtual 633, 3) := by decide +kernel
theorem dJ0_indexOf_0f7a4_6 : decode cJ0_indexOf_0f7a4 6 = .ok (.ireturn, 1) := by decide +kernel
theorem dJ0_indexOf_7cf53_0 : decode cJ0_indexOf_7cf53 0 = .ok (.aload_n 0, 1) := by decide +kernel
theorem dJ0_indexOf_7cf53_1 : decode cJ0_indexOf_7cf53 1 = .ok (.invokevirtual 492, 3) := by decide +kernel
theorem dJ0_indexOf_7cf53_4 : decode cJ0_indexOf_7cf53 4 = .ok (.ifCond .eq 19, 3) := by decide +kernel
theorem dJ0_indexOf_7cf53_7 : decode cJ0_indexOf_7cf53 7 = .ok (.aload_n 0, 1) := by decide +kernel
theorem dJ0_indexOf_7cf53_8 : decode cJ0_indexOf_7cf53 8 = .ok (.getfield 9, 3) := by decide +kernel
theorem dJ0_indexOf_7cf53_11 : decode cJ0_indexOf_7cf53 11 = .ok (.iload_n 1, 1) := by decide +kernel
theorem dJ0_indexOf_7cf53_12 : decode cJ0_indexOf_7cf53 12 = .ok (.iload_n 2, 1) := by decide +kernel
theorem dJ0_indexOf_7cf53_13 : decode cJ0_indexOf_7cf53 13 = .ok (.aload_n 0, 1) := by decide +kernel
theorem dJ0_indexOf_7cf53_14 : decode cJ0_indexOf_7cf53 14 = .ok (.invokevirtual 505, 3) := by decide +kernel
theorem dJ0_indexOf_7cf53_17 : decode cJ0_indexOf_7cf53 17 = .ok (.invokestatic 637, 3) := by decide +kernel
theorem dJ0_indexOf_7cf53_20 : decode cJ0_indexOf_7cf53 20 = .ok (.goto 16, 3) := by decide +kernel
theorem dJ0_indexOf_7cf53_23 : decode cJ0_indexOf_7cf53 23 = .ok (.aload_n 0, 1) := by decide +kernel
theorem dJ0_indexOf_7cf53_24 : decode cJ0_indexOf_7cf53 24 = .ok (.getfield 9, 3) := by decide +kernel
theorem dJ0_indexOf_7cf53_27 : decode cJ0_indexOf_7cf53 27 = .ok (.iload_n 1, 1) := by decide +kernel
theorem dJ0_indexOf_7cf53_28 : decode cJ0_indexOf_7cf53 28 = .ok (.iload_n 2, 1) := by decide +kernel
theorem dJ0_indexOf_7cf53_29 : decode cJ0_indexOf_7cf53 29 = .ok (.aload_n 0, 1) := by decide +kernel
theorem dJ0_indexOf_7cf53_30 : decode cJ0_indexOf_7cf53 30 = .ok (.invokevirtual 505, 3) := by decide +kernel
theorem dJ0_indexOf_7cf53_33 : decode cJ0_indexOf_7cf53 33 = .ok (.invokestatic 640, 3) := by decide +kernel
theorem dJ0_indexOf_7cf53_36 : decode cJ0_indexOf_7cf53 36 = .ok (.ireturn, 1) := by decide +kernel
theorem dJ0_coder_7d493_0 : decode cJ0_coder_7d493 0 = .ok (.getstatic 38, 3) := by decide +kernel
theorem dJ0_coder_7d493_3 : decode cJ0_coder_7d493 3 = .ok (.ifCond .eq 10, 3) := by decide +kernel
theorem dJ0_coder_7d493_6 : decode cJ0_coder_7d493 6 = .ok (.aload_n 0, 1) := by decide +kernel
theorem dJ0_coder_7d493_7 : decode cJ0_coder_7d493 7 = .ok (.getfield 15, 3) := by decide +kernel
theorem dJ0_coder_7d493_10 : decode cJ0_coder_7d493 10 = .ok (.goto 4, 3) := by decide +kernel
theorem dJ0_coder_7d493_13 : decode cJ0_coder_7d493 13 = .ok (.iconst 1, 1) := by decide +kernel
theorem dJ0_coder_7d493_14 : decode cJ0_coder_7d493 14 = .ok (.ireturn, 1) := by decide +kernel
theorem dJ0_isLatin1_aae02_0 : decode cJ0_isLatin1_aae02 0 = .ok (.getstatic 38, 3) := by decide +kernel
theorem dJ0_isLatin1_aae02_3 : decode cJ0_isLatin1_aae02 3 = .ok (.ifCond .eq 14, 3) := by decide +kernel
theorem dJ0_isLatin1_aae02_6 : decode cJ0_isLatin1_aae02 6 = .ok (.aload_n 0, 1) := by decide +kernel
theorem dJ0_isLatin1_aae02_7 : decode cJ0_isLatin1_aae02 7 = .ok (.getfield 15, 3) := by decide +kernel
theorem dJ0_isLatin1_aae02_10 : decode cJ0_isLatin1_aae02 10 = .ok (.ifCond .ne 7, 3) := by decide +kernel
theorem dJ0_isLatin1_aae02_13 : decode cJ0_isLatin1_aae02 13 = .ok (.iconst 1, 1) := by decide +kernel
theorem dJ0_isLatin1_aae02_14 : decode cJ0_isLatin1_aae02 14 = .ok (.goto 4, 3) := by decide +kernel
theorem dJ0_isLatin1_aae02_17 : decode cJ0_isLatin1_aae02 17 = .ok (.iconst 0, 1) := by decide +kernel
theorem dJ0_isLatin1_aae02_18 : decode cJ0_isLatin1_aae02 18 = .ok (.ireturn, 1) := by decide +kernel
theorem dJ0_checkIndex_df160_0 : decode cJ0_checkIndex_df160 0 = .ok (.iload_n 0, 1) := by decide +kernel
theorem dJ0_checkIndex_df160_1 : decode cJ0_checkIndex_df160 1 = .ok (.iload_n 1, 1) := by decide +kernel
theorem dJ0_checkIndex_df160_2 : decode cJ0_checkIndex_df160 2 = .ok (.getstatic 1053, 3) := by decide +kernel
theorem dJ0_checkIndex_df160_5 : decode cJ0_checkIndex_df160 5 = .ok (.invokestatic 1059, 3) := by decide +kernel
theorem dJ0_checkIndex_df160_8 : decode cJ0_checkIndex_df160 8 = .ok (.pop, 1) := by decide +kernel
theorem dJ0_checkIndex_df160_9 : decode cJ0_checkIndex_df160 9 = .ok (.return_, 1) := by decide +kernel
theorem dJ0_checkBoundsBeginEnd_23922_0 : decode cJ0_checkBoundsBeginEnd_23922 0 = .ok (.iload_n 0, 1) := by decide +kernel
theorem dJ0_checkBoundsBeginEnd_23922_1 : decode cJ0_checkBoundsBeginEnd_23922 1 = .ok (.iload_n 1, 1) := by decide +kernel
theorem dJ0_checkBoundsBeginEnd_23922_2 : decode cJ0_checkBoundsBeginEnd_23922 2 = .ok (.iload_n 2, 1) := by decide +kernel
theorem dJ0_checkBoundsBeginEnd_23922_3 : decode cJ0_checkBoundsBeginEnd_23922 3 = .ok (.getstatic 1053, 3) := by decide +kernel
theorem dJ0_checkBoundsBeginEnd_23922_6 : decode cJ0_checkBoundsBeginEnd_23922 6 = .ok (.invokestatic 1062, 3) := by decide +kernel
theorem dJ0_checkBoundsBeginEnd_23922_9 : decode cJ0_checkBoundsBeginEnd_23922 9 = .ok (.pop, 1) := by decide +kernel
theorem dJ0_checkBoundsBeginEnd_23922_10 : decode cJ0_checkBoundsBeginEnd_23922 10 = .ok (.return_, 1) := by decide +kernel
theorem dJ1_charAt_3b067_0 : decode cJ1_charAt_3b067 0 = .ok (.iload_n 1, 1) := by decide +kernel
theorem dJ1_charAt_3b067_1 : decode cJ1_charAt_3b067 1 = .ok (.aload_n 0, 1) := by decide +kernel
theorem dJ1_charAt_3b067_2 : decode cJ1_charAt_3b067 2 = .ok (.arraylength, 1) := by decide +kernel
theorem dJ1_charAt_3b067_3 : decode cJ1_charAt_3b067 3 = .ok (.invokestatic 9, 3) := by decide +kernel
theorem dJ1_charAt_3b067_6 : decode cJ1_charAt_3b067 6 = .ok (.aload_n 0, 1) := by decide +kernel
theorem dJ1_charAt_3b067_7 : decode cJ1_charAt_3b067 7 = .ok (.iload_n 1, 1) := by decide +kernel
theorem dJ1_charAt_3b067_8 : decode cJ1_charAt_3b067 8 = .ok (.baload, 1) := by decide +kernel
theorem dJ1_charAt_3b067_9 : decode cJ1_charAt_3b067 9 = .ok (.sipush 255, 3) := by decide +kernel
theorem dJ1_charAt_3b067_12 : decode cJ1_charAt_3b067 12 = .ok (.iand, 1) := by decide +kernel
theorem dJ1_charAt_3b067_13 : decode cJ1_charAt_3b067 13 = .ok (.i2c, 1) := by decide +kernel
theorem dJ1_charAt_3b067_14 : decode cJ1_charAt_3b067 14 = .ok (.ireturn, 1) := by decide +kernel
theorem dJ1_canEncode_9a6ad_0 : decode cJ1_canEncode_9a6ad 0 = .ok (.iload_n 0, 1) := by decide +kernel
theorem dJ1_canEncode_9a6ad_1 : decode cJ1_canEncode_9a6ad 1 = .ok (.ifCond .lt 14, 3) := by decide +kernel
theorem dJ1_canEncode_9a6ad_4 : decode cJ1_canEncode_9a6ad 4 = .ok (.iload_n 0, 1) := by decide +kernel
theorem dJ1_canEncode_9a6ad_5 : decode cJ1_canEncode_9a6ad 5 = .ok (.sipush 255, 3) := by decide +kernel
theorem dJ1_canEncode_9a6ad_8 : decode cJ1_canEncode_9a6ad 8 = .ok (.if_icmp .gt 7, 3) := by decide +kernel
theorem dJ1_canEncode_9a6ad_11 : decode cJ1_canEncode_9a6ad 11 = .ok (.iconst 1, 1) := by decide +kernel
theorem dJ1_canEncode_9a6ad_12 : decode cJ1_canEncode_9a6ad 12 = .ok (.goto 4, 3) := by decide +kernel
theorem dJ1_canEncode_9a6ad_15 : decode cJ1_canEncode_9a6ad 15 = .ok (.iconst 0, 1) := by decide +kernel
theorem dJ1_canEncode_9a6ad_16 : decode cJ1_canEncode_9a6ad 16 = .ok (.ireturn, 1) := by decide +kernel
theorem dJ1_indexOf_4cfef_0 : decode cJ1_indexOf_4cfef 0 = .ok (.iload_n 1, 1) := by decide +kernel
theorem dJ1_indexOf_4cfef_1 : decode cJ1_indexOf_4cfef 1 = .ok (.invokestatic 88, 3) := by decide +kernel
theorem dJ1_indexOf_4cfef_4 : decode cJ1_indexOf_4cfef 4 = .ok (.ifCond .ne 5, 3) := by decide +kernel
theorem dJ1_indexOf_4cfef_7 : decode cJ1_indexOf_4cfef 7 = .ok (.iconst (-1), 1) := by decide +kernel
theorem dJ1_indexOf_4cfef_8 : decode cJ1_indexOf_4cfef 8 = .ok (.ireturn, 1) := by decide +kernel
theorem dJ1_indexOf_4cfef_9 : decode cJ1_indexOf_4cfef 9 = .ok (.iload_n 2, 1) := by decide +kernel
theorem dJ1_indexOf_4cfef_10 : decode cJ1_indexOf_4cfef 10 = .ok (.iconst 0, 1) := by decide +kernel
theorem dJ1_indexOf_4cfef_11 : decode cJ1_indexOf_4cfef 11 = .ok (.invokestatic 92, 3) := by decide +kernel
theorem dJ1_indexOf_4cfef_14 : decode cJ1_indexOf_4cfef 14 = .ok (.istore_n 2, 1) := by decide +kernel
theorem dJ1_indexOf_4cfef_15 : decode cJ1_indexOf_4cfef 15 = .ok (.iload_n 3, 1) := by decide +kernel
theorem dJ1_indexOf_4cfef_16 : decode cJ1_indexOf_4cfef 16 = .ok (.aload_n 0, 1) := by decide +kernel
theorem dJ1_indexOf_4cfef_17 : decode cJ1_indexOf_4cfef 17 = .ok (.arraylength, 1) := by decide +kernel
theorem dJ1_indexOf_4cfef_18 : decode cJ1_indexOf_4cfef 18 = .ok (.invokestatic 38, 3) := by decide +kernel
theorem dJ1_indexOf_4cfef_21 : decode cJ1_indexOf_4cfef 21 = .ok (.istore_n 3, 1) := by decide +kernel
theorem dJ1_indexOf_4cfef_22 : decode cJ1_indexOf_4cfef 22 = .ok (.iload_n 2, 1) := by decide +kernel
theorem dJ1_indexOf_4cfef_23 : decode cJ1_indexOf_4cfef 23 = .ok (.iload_n 3, 1) := by decide +kernel
theorem dJ1_indexOf_4cfef_24 : decode cJ1_indexOf_4cfef 24 = .ok (.if_icmp .lt 5, 3) := by decide +kernel
theorem dJ1_indexOf_4cfef_27 : decode cJ1_indexOf_4cfef 27 = .ok (.iconst (-1), 1) := by decide +kernel
theorem dJ1_indexOf_4cfef_28 : decode cJ1_indexOf_4cfef 28 = .ok (.ireturn, 1) := by decide +kernel
theorem dJ1_indexOf_4cfef_29 : decode cJ1_indexOf_4cfef 29 = .ok (.aload_n 0, 1) := by decide +kernel
theorem dJ1_indexOf_4cfef_30 : decode cJ1_indexOf_4cfef 30 = .ok (.iload_n 1, 1) := by decide +kernel
theorem dJ1_indexOf_4cfef_31 : decode cJ1_indexOf_4cfef 31 = .ok (.iload_n 2, 1) := by decide +kernel
theorem dJ1_indexOf_4cfef_32 : decode cJ1_indexOf_4cfef 32 = .ok (.iload_n 3, 1) := by decide +kernel
theorem dJ1_indexOf_4cfef_33 : decode cJ1_indexOf_4cfef 33 = .ok (.invokestatic 95, 3) := by decide +kernel
theorem dJ1_indexOf_4cfef_36 : decode cJ1_indexOf_4cfef 36 = .ok (.ireturn, 1) := by decide +kernel
theorem dJ1_indexOfChar_4cfef_0 : decode cJ1_indexOfChar_4cfef 0 = .ok (.iload_n 1, 1) := by decide +kernel
theorem dJ1_indexOfChar_4cfef_1 : decode cJ1_indexOfChar_4cfef 1 = .ok (.i2b, 1) := by decide +kernel
theorem dJ1_indexOfChar_4cfef_2 : decode cJ1_indexOfChar_4cfef 2 = .ok (.istore 4, 2) := by decide +kernel
theorem dJ1_indexOfChar_4cfef_4 : decode cJ1_indexOfChar_4cfef 4 = .ok (.iload_n 2, 1) := by decide +kernel
theorem dJ1_indexOfChar_4cfef_5 : decode cJ1_indexOfChar_4cfef 5 = .ok (.istore 5, 2) := by decide +kernel
theorem dJ1_indexOfChar_4cfef_7 : decode cJ1_indexOfChar_4cfef 7 = .ok (.iload 5, 2) := by decide +kernel
theorem dJ1_indexOfChar_4cfef_9 : decode cJ1_indexOfChar_4cfef 9 = .ok (.iload_n 3, 1) := by decide +kernel
theorem dJ1_indexOfChar_4cfef_10 : decode cJ1_indexOfChar_4cfef 10 = .ok (.if_icmp .ge 21, 3) := by decide +kernel
theorem dJ1_indexOfChar_4cfef_13 : decode cJ1_indexOfChar_4cfef 13 = .ok (.aload_n 0, 1) := by decide +kernel
theorem dJ1_indexOfChar_4cfef_14 : decode cJ1_indexOfChar_4cfef 14 = .ok (.iload 5, 2) := by decide +kernel
theorem dJ1_indexOfChar_4cfef_16 : decode cJ1_indexOfChar_4cfef 16 = .ok (.baload, 1) := by decide +kernel
theorem dJ1_indexOfChar_4cfef_17 : decode cJ1_indexOfChar_4cfef 17 = .ok (.iload 4, 2) := by decide +kernel
theorem dJ1_indexOfChar_4cfef_19 : decode cJ1_indexOfChar_4cfef 19 = .ok (.if_icmp .ne 6, 3) := by decide +kernel
theorem dJ1_indexOfChar_4cfef_22 : decode cJ1_indexOfChar_4cfef 22 = .ok (.iload 5, 2) := by decide +kernel
theorem dJ1_indexOfChar_4cfef_24 : decode cJ1_indexOfChar_4cfef 24 = .ok (.ireturn, 1) := by decide +kernel
theorem dJ1_indexOfChar_4cfef_25 : decode cJ1_indexOfChar_4cfef 25 = .ok (.iinc 5 1, 3) := by decide +kernel
theorem dJ1_indexOfChar_4cfef_28 : decode cJ1_indexOfChar_4cfef 28 = .ok (.goto (-21), 3) := by decide +kernel
theorem dJ1_indexOfChar_4cfef_31 : decode cJ1_indexOfChar_4cfef 31 = .ok (.iconst (-1), 1) := by decide +kernel
theorem dJ1_indexOfChar_4cfef_32 : decode cJ1_indexOfChar_4cfef 32 = .ok (.ireturn, 1) := by decide +kernel
theorem dJ2_getChar_3b067_0 : decode cJ2_getChar_3b067 0 = .ok (.getstatic 44, 3) := by decide +kernel
theorem dJ2_getChar_3b067_3 : decode cJ2_getChar_3b067 3 = .ok (.ifCond .ne 25, 3) := by decide +kernel
theorem dJ2_getChar_3b067_6 : decode cJ2_getChar_3b067 6 = .ok (.iload_n 1, 1) := by decide +kernel
theorem dJ2_getChar_3b067_7 : decode cJ2_getChar_3b067 7 = .ok (.ifCond .lt 11, 3) := by decide +kernel
theorem dJ2_getChar_3b067_10 : decode cJ2_getChar_3b067 10 = .ok (.iload_n 1, 1) := by decide +kernel
theorem dJ2_getChar_3b067_11 : decode cJ2_getChar_3b067 11 = .ok (.aload_n 0, 1) := by decide +kernel
theorem dJ2_getChar_3b067_12 : decode cJ2_getChar_3b067 12 = .ok (.invokestatic 48, 3) := by decide +kernel
theorem dJ2_getChar_3b067_15 : decode cJ2_getChar_3b067 15 = .ok (.if_icmp .lt 13, 3) := by decide +kernel
theorem dJ2_getChar_3b067_18 : decode cJ2_getChar_3b067 18 = .ok (.new 52, 3) := by decide +kernel
theorem dJ2_getChar_3b067_21 : decode cJ2_getChar_3b067 21 = .ok (.dup, 1) := by decide +kernel
theorem dJ2_getChar_3b067_22 : decode cJ2_getChar_3b067 22 = .ok (.ldc 54, 2) := by decide +kernel
theorem dJ2_getChar_3b067_24 : decode cJ2_getChar_3b067 24 = .ok (.invokespecial 56, 3) := by decide +kernel
theorem dJ2_getChar_3b067_27 : decode cJ2_getChar_3b067 27 = .ok (.athrow, 1) := by decide +kernel
theorem dJ2_getChar_3b067_28 : decode cJ2_getChar_3b067 28 = .ok (.iload_n 1, 1) := by decide +kernel
theorem dJ2_getChar_3b067_29 : decode cJ2_getChar_3b067 29 = .ok (.iconst 1, 1) := by decide +kernel
theorem dJ2_getChar_3b067_30 : decode cJ2_getChar_3b067 30 = .ok (.ishl, 1) := by decide +kernel
theorem dJ2_getChar_3b067_31 : decode cJ2_getChar_3b067 31 = .ok (.istore_n 1, 1) := by decide +kernel
theorem dJ2_getChar_3b067_32 : decode cJ2_getChar_3b067 32 = .ok (.aload_n 0, 1) := by decide +kernel
theorem dJ2_getChar_3b067_33 : decode cJ2_getChar_3b067 33 = .ok (.iload_n 1, 1) := by decide +kernel
theorem dJ2_getChar_3b067_34 : decode cJ2_getChar_3b067 34 = .ok (.iinc 1 1, 3) := by decide +kernel
theorem dJ2_getChar_3b067_37 : decode cJ2_getChar_3b067 37 = .ok (.baload, 1) := by decide +kernel
theorem dJ2_getChar_3b067_38 : decode cJ2_getChar_3b067 38 = .ok (.sipush 255, 3) := by decide +kernel
theorem dJ2_getChar_3b067_41 : decode cJ2_getChar_3b067 41 = .ok (.iand, 1) := by decide +kernel
theorem dJ2_getChar_3b067_42 : decode cJ2_getChar_3b067 42 = .ok (.getstatic 59, 3) := by decide +kernel
theorem dJ2_getChar_3b067_45 : decode cJ2_getChar_3b067 45 = .ok (.ishl, 1) := by decide +kernel
theorem dJ2_getChar_3b067_46 : decode cJ2_getChar_3b067 46 = .ok (.aload_n 0, 1) := by decide +kernel
theorem dJ2_getChar_3b067_47 : decode cJ2_getChar_3b067 47 = .ok (.iload_n 1, 1) := by decide +kernel
theorem dJ2_getChar_3b067_48 : decode cJ2_getChar_3b067 48 = .ok (.baload, 1) := by decide +kernel
theorem dJ2_getChar_3b067_49 : decode cJ2_getChar_3b067 49 = .ok (.sipush 255, 3) := by decide +kernel
theorem dJ2_getChar_3b067_52 : decode cJ2_getChar_3b067 52 = .ok (.iand, 1) := by decide +kernel
theorem dJ2_getChar_3b067_53 : decode cJ2_getChar_3b067 53 = .ok (.getstatic 63, 3) := by decide +kernel
theorem dJ2_getChar_3b067_56 : decode cJ2_getChar_3b067 56 = .ok (.ishl, 1) := by decide +kernel
theorem dJ2_getChar_3b067_57 : decode cJ2_getChar_3b067 57 = .ok (.ior, 1) := by decide +kernel
theorem dJ2_getChar_3b067_58 : decode cJ2_getChar_3b067 58 = .ok (.i2c, 1) := by decide +kernel
theorem dJ2_getChar_3b067_59 : decode cJ2_getChar_3b067 59 = .ok (.ireturn, 1) := by decide +kernel
theorem dJ2_length_9d52b_0 : decode cJ2_length_9d52b 0 = .ok (.aload_n 0, 1) := by decide +kernel
theorem dJ2_length_9d52b_1 : decode cJ2_length_9d52b 1 = .ok (.arraylength, 1) := by decide +kernel
theorem dJ2_length_9d52b_2 : decode cJ2_length_9d52b 2 = .ok (.iconst 1, 1) := by decide +kernel
theorem dJ2_length_9d52b_3 : decode cJ2_length_9d52b 3 = .ok (.ishr, 1) := by decide +kernel
theorem dJ2_length_9d52b_4 : decode cJ2_length_9d52b 4 = .ok (.ireturn, 1) := by decide +kernel
theorem dJ2_indexOf_4cfef_0 : decode cJ2_indexOf_4cfef 0 = .ok (.iload_n 2, 1) := by decide +kernel
theorem dJ2_indexOf_4cfef_1 : decode cJ2_indexOf_4cfef 1 = .ok (.iconst 0, 1) := by decide +kernel
theorem dJ2_indexOf_4cfef_2 : decode cJ2_indexOf_4cfef 2 = .ok (.invokestatic 224, 3) := by decide +kernel
theorem dJ2_indexOf_4cfef_5 : decode cJ2_indexOf_4cfef 5 = .ok (.istore_n 2, 1) := by decide +kernel
theorem dJ2_indexOf_4cfef_6 : decode cJ2_indexOf_4cfef 6 = .ok (.iload_n 3, 1) := by decide +kernel
theorem dJ2_indexOf_4cfef_7 : decode cJ2_indexOf_4cfef 7 = .ok (.aload_n 0, 1) := by decide +kernel
theorem dJ2_indexOf_4cfef_8 : decode cJ2_indexOf_4cfef 8 = .ok (.arraylength, 1) := by decide +kernel
theorem dJ2_indexOf_4cfef_9 : decode cJ2_indexOf_4cfef 9 = .ok (.iconst 1, 1) := by decide +kernel
theorem dJ2_indexOf_4cfef_10 : decode cJ2_indexOf_4cfef 10 = .ok (.ishr, 1) := by decide +kernel
theorem dJ2_indexOf_4cfef_11 : decode cJ2_indexOf_4cfef 11 = .ok (.invokestatic 183, 3) := by decide +kernel
theorem dJ2_indexOf_4cfef_14 : decode cJ2_indexOf_4cfef 14 = .ok (.istore_n 3, 1) := by decide +kernel
theorem dJ2_indexOf_4cfef_15 : decode cJ2_indexOf_4cfef 15 = .ok (.iload_n 2, 1) := by decide +kernel
theorem dJ2_indexOf_4cfef_16 : decode cJ2_indexOf_4cfef 16 = .ok (.iload_n 3, 1) := by decide +kernel
theorem dJ2_indexOf_4cfef_17 : decode cJ2_indexOf_4cfef 17 = .ok (.if_icmp .lt 5, 3) := by decide +kernel
theorem dJ2_indexOf_4cfef_20 : decode cJ2_indexOf_4cfef 20 = .ok (.iconst (-1), 1) := by decide +kernel
theorem dJ2_indexOf_4cfef_21 : decode cJ2_indexOf_4cfef 21 = .ok (.ireturn, 1) := by decide +kernel
theorem dJ2_indexOf_4cfef_22 : decode cJ2_indexOf_4cfef 22 = .ok (.iload_n 1, 1) := by decide +kernel
theorem dJ2_indexOf_4cfef_23 : decode cJ2_indexOf_4cfef 23 = .ok (.ldc 227, 2) := by decide +kernel
theorem dJ2_indexOf_4cfef_25 : decode cJ2_indexOf_4cfef 25 = .ok (.if_icmp .ge 11, 3) := by decide +kernel
theorem dJ2_indexOf_4cfef_28 : decode cJ2_indexOf_4cfef 28 = .ok (.aload_n 0, 1) := by decide +kernel
theorem dJ2_indexOf_4cfef_29 : decode cJ2_indexOf_4cfef 29 = .ok (.iload_n 1, 1) := by decide +kernel
theorem dJ2_indexOf_4cfef_30 : decode cJ2_indexOf_4cfef 30 = .ok (.iload_n 2, 1) := by decide +kernel
theorem dJ2_indexOf_4cfef_31 : decode cJ2_indexOf_4cfef 31 = .ok (.iload_n 3, 1) := by decide +kernel
theorem dJ2_indexOf_4cfef_32 : decode cJ2_indexOf_4cfef 32 = .ok (.invokestatic 228, 3) := by decide +kernel
theorem dJ2_indexOf_4cfef_35 : decode cJ2_indexOf_4cfef 35 = .ok (.ireturn, 1) := by decide +kernel
theorem dJ2_indexOf_4cfef_36 : decode cJ2_indexOf_4cfef 36 = .ok (.aload_n 0, 1) := by decide +kernel
theorem dJ2_indexOf_4cfef_37 : decode cJ2_indexOf_4cfef 37 = .ok (.iload_n 1, 1) := by decide +kernel
theorem dJ2_indexOf_4cfef_38 : decode cJ2_indexOf_4cfef 38 = .ok (.iload_n 2, 1) := by decide +kernel
theorem dJ2_indexOf_4cfef_39 : decode cJ2_indexOf_4cfef 39 = .ok (.iload_n 3, 1) := by decide +kernel
theorem dJ2_indexOf_4cfef_40 : decode cJ2_indexOf_4cfef 40 = .ok (.invokestatic 232, 3) := by decide +kernel
theorem dJ2_indexOf_4cfef_43 : decode cJ2_indexOf_4cfef 43 = .ok (.ireturn, 1) := by decide +kernel
theorem dJ2_indexOfChar_4cfef_0 : decode cJ2_indexOfChar_4cfef 0 = .ok (.iload_n 2, 1) := by decide +kernel
theorem dJ2_indexOfChar_4cfef_1 : decode cJ2_indexOfChar_4cfef 1 = .ok (.iload_n 3, 1) := by decide +kernel
theorem dJ2_indexOfChar_4cfef_2 : decode cJ2_indexOfChar_4cfef 2 = .ok (.aload_n 0, 1) := by decide +kernel
theorem dJ2_indexOfChar_4cfef_3 : decode cJ2_indexOfChar_4cfef 3 = .ok (.invokestatic 96, 3) := by decide +kernel
theorem dJ2_indexOfChar_4cfef_6 : decode cJ2_indexOfChar_4cfef 6 = .ok (.aload_n 0, 1) := by decide +kernel
theorem dJ2_indexOfChar_4cfef_7 : decode cJ2_indexOfChar_4cfef 7 = .ok (.iload_n 1, 1) := by decide +kernel
theorem dJ2_indexOfChar_4cfef_8 : decode cJ2_indexOfChar_4cfef 8 = .ok (.iload_n 2, 1) := by decide +kernel
theorem dJ2_indexOfChar_4cfef_9 : decode cJ2_indexOfChar_4cfef 9 = .ok (.iload_n 3, 1) := by decide +kernel
theorem dJ2_indexOfChar_4cfef_10 : decode cJ2_indexOfChar_4cfef 10 = .ok (.invokestatic 244, 3) := by decide +kernel
theorem dJ2_indexOfChar_4cfef_13 : decode cJ2_indexOfChar_4cfef 13 = .ok (.ireturn, 1) := by decide +kernel
theorem dJ2_indexOfCharUnsafe_4cfef_0 : decode cJ2_indexOfCharUnsafe_4cfef 0 = .ok (.iload_n 2, 1) := by decide +kernel
theorem dJ2_indexOfCharUnsafe_4cfef_1 : decode cJ2_indexOfCharUnsafe_4cfef 1 = .ok (.istore 4, 2) := by decide +kernel
theorem dJ2_indexOfCharUnsafe_4cfef_3 : decode cJ2_indexOfCharUnsafe_4cfef 3 = .ok (.iload 4, 2) := by decide +kernel
theorem dJ2_indexOfCharUnsafe_4cfef_5 : decode cJ2_indexOfCharUnsafe_4cfef 5 = .ok (.iload_n 3, 1) := by decide +kernel
theorem dJ2_indexOfCharUnsafe_4cfef_6 : decode cJ2_indexOfCharUnsafe_4cfef 6 = .ok (.if_icmp .ge 22, 3) := by decide +kernel
theorem dJ2_indexOfCharUnsafe_4cfef_9 : decode cJ2_indexOfCharUnsafe_4cfef 9 = .ok (.aload_n 0, 1) := by decide +kernel
theorem dJ2_indexOfCharUnsafe_4cfef_10 : decode cJ2_indexOfCharUnsafe_4cfef 10 = .ok (.iload 4, 2) := by decide +kernel
theorem dJ2_indexOfCharUnsafe_4cfef_12 : decode cJ2_indexOfCharUnsafe_4cfef 12 = .ok (.invokestatic 71, 3) := by decide +kernel
theorem dJ2_indexOfCharUnsafe_4cfef_15 : decode cJ2_indexOfCharUnsafe_4cfef 15 = .ok (.iload_n 1, 1) := by decide +kernel
theorem dJ2_indexOfCharUnsafe_4cfef_16 : decode cJ2_indexOfCharUnsafe_4cfef 16 = .ok (.if_icmp .ne 6, 3) := by decide +kernel
theorem dJ2_indexOfCharUnsafe_4cfef_19 : decode cJ2_indexOfCharUnsafe_4cfef 19 = .ok (.iload 4, 2) := by decide +kernel
theorem dJ2_indexOfCharUnsafe_4cfef_21 : decode cJ2_indexOfCharUnsafe_4cfef 21 = .ok (.ireturn, 1) := by decide +kernel
theorem dJ2_indexOfCharUnsafe_4cfef_22 : decode cJ2_indexOfCharUnsafe_4cfef 22 = .ok (.iinc 4 1, 3) := by decide +kernel
theorem dJ2_indexOfCharUnsafe_4cfef_25 : decode cJ2_indexOfCharUnsafe_4cfef 25 = .ok (.goto (-22), 3) := by decide +kernel
theorem dJ2_indexOfCharUnsafe_4cfef_28 : decode cJ2_indexOfCharUnsafe_4cfef 28 = .ok (.iconst (-1), 1) := by decide +kernel
theorem dJ2_indexOfCharUnsafe_4cfef_29 : decode cJ2_indexOfCharUnsafe_4cfef 29 = .ok (.ireturn, 1) := by decide +kernel
theorem dJ2_indexOfSupplementary_4cfef_0 : decode cJ2_indexOfSupplementary_4cfef 0 = .ok (.iload_n 1, 1) := by decide +kernel
theorem dJ2_indexOfSupplementary_4cfef_1 : decode cJ2_indexOfSupplementary_4cfef 1 = .ok (.invokestatic 164, 3) := by decide +kernel
theorem dJ2_indexOfSupplementary_4cfef_4 : decode cJ2_indexOfSupplementary_4cfef 4 = .ok (.ifCond .eq 65, 3) := by decide +kernel
theorem dJ2_indexOfSupplementary_4cfef_7 : decode cJ2_indexOfSupplementary_4cfef 7 = .ok (.iload_n 1, 1) := by decide +kernel
theorem dJ2_indexOfSupplementary_4cfef_8 : decode cJ2_indexOfSupplementary_4cfef 8 = .ok (.invokestatic 157, 3) := by decide +kernel
theorem dJ2_indexOfSupplementary_4cfef_11 : decode cJ2_indexOfSupplementary_4cfef 11 = .ok (.istore 4, 2) := by decide +kernel
theorem dJ2_indexOfSupplementary_4cfef_13 : decode cJ2_indexOfSupplementary_4cfef 13 = .ok (.iload_n 1, 1) := by decide +kernel
theorem dJ2_indexOfSupplementary_4cfef_14 : decode cJ2_indexOfSupplementary_4cfef 14 = .ok (.invokestatic 161, 3) := by decide +kernel
theorem dJ2_indexOfSupplementary_4cfef_17 : decode cJ2_indexOfSupplementary_4cfef 17 = .ok (.istore 5, 2) := by decide +kernel
theorem dJ2_indexOfSupplementary_4cfef_19 : decode cJ2_indexOfSupplementary_4cfef 19 = .ok (.iload_n 2, 1) := by decide +kernel
theorem dJ2_indexOfSupplementary_4cfef_20 : decode cJ2_indexOfSupplementary_4cfef 20 = .ok (.iload_n 3, 1) := by decide +kernel
theorem dJ2_indexOfSupplementary_4cfef_21 : decode cJ2_indexOfSupplementary_4cfef 21 = .ok (.aload_n 0, 1) := by decide +kernel
theorem dJ2_indexOfSupplementary_4cfef_22 : decode cJ2_indexOfSupplementary_4cfef 22 = .ok (.invokestatic 96, 3) := by decide +kernel
theorem dJ2_indexOfSupplementary_4cfef_25 : decode cJ2_indexOfSupplementary_4cfef 25 = .ok (.iload_n 2, 1) := by decide +kernel
theorem dJ2_indexOfSupplementary_4cfef_26 : decode cJ2_indexOfSupplementary_4cfef 26 = .ok (.istore 6, 2) := by decide +kernel
theorem dJ2_indexOfSupplementary_4cfef_28 : decode cJ2_indexOfSupplementary_4cfef 28 = .ok (.iload 6, 2) := by decide +kernel
theorem dJ2_indexOfSupplementary_4cfef_30 : decode cJ2_indexOfSupplementary_4cfef 30 = .ok (.iload_n 3, 1) := by decide +kernel
theorem dJ2_indexOfSupplementary_4cfef_31 : decode cJ2_indexOfSupplementary_4cfef 31 = .ok (.iconst 1, 1) := by decide +kernel
theorem dJ2_indexOfSupplementary_4cfef_32 : decode cJ2_indexOfSupplementary_4cfef 32 = .ok (.isub, 1) := by decide +kernel
theorem dJ2_indexOfSupplementary_4cfef_33 : decode cJ2_indexOfSupplementary_4cfef 33 = .ok (.if_icmp .ge 36, 3) := by decide +kernel
theorem dJ2_indexOfSupplementary_4cfef_36 : decode cJ2_indexOfSupplementary_4cfef 36 = .ok (.aload_n 0, 1) := by decide +kernel
theorem dJ2_indexOfSupplementary_4cfef_37 : decode cJ2_indexOfSupplementary_4cfef 37 = .ok (.iload 6, 2) := by decide +kernel
theorem dJ2_indexOfSupplementary_4cfef_39 : decode cJ2_indexOfSupplementary_4cfef 39 = .ok (.invokestatic 71, 3) := by decide +kernel
theorem dJ2_indexOfSupplementary_4cfef_42 : decode cJ2_indexOfSupplementary_4cfef 42 = .ok (.iload 4, 2) := by decide +kernel
theorem dJ2_indexOfSupplementary_4cfef_44 : decode cJ2_indexOfSupplementary_4cfef 44 = .ok (.if_icmp .ne 19, 3) := by decide +kernel
theorem dJ2_indexOfSupplementary_4cfef_47 : decode cJ2_indexOfSupplementary_4cfef 47 = .ok (.aload_n 0, 1) := by decide +kernel
theorem dJ2_indexOfSupplementary_4cfef_48 : decode cJ2_indexOfSupplementary_4cfef 48 = .ok (.iload 6, 2) := by decide +kernel
theorem dJ2_indexOfSupplementary_4cfef_50 : decode cJ2_indexOfSupplementary_4cfef 50 = .ok (.iconst 1, 1) := by decide +kernel
theorem dJ2_indexOfSupplementary_4cfef_51 : decode cJ2_indexOfSupplementary_4cfef 51 = .ok (.iadd, 1) := by decide +kernel
theorem dJ2_indexOfSupplementary_4cfef_52 : decode cJ2_indexOfSupplementary_4cfef 52 = .ok (.invokestatic 71, 3) := by decide +kernel
theorem dJ2_indexOfSupplementary_4cfef_55 : decode cJ2_indexOfSupplementary_4cfef 55 = .ok (.iload 5, 2) := by decide +kernel
theorem dJ2_indexOfSupplementary_4cfef_57 : decode cJ2_indexOfSupplementary_4cfef 57 = .ok (.if_icmp .ne 6, 3) := by decide +kernel
theorem dJ2_indexOfSupplementary_4cfef_60 : decode cJ2_indexOfSupplementary_4cfef 60 = .ok (.iload 6, 2) := by decide +kernel
theorem dJ2_indexOfSupplementary_4cfef_62 : decode cJ2_indexOfSupplementary_4cfef 62 = .ok (.ireturn, 1) := by decide +kernel
