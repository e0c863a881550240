theorem dX7_night_140 : decode cX7_night 140 = .ok (.iconst 0, 1) := by decide +kernel
theorem dX7_night_141 : decode cX7_night 141 = .ok (.goto 9, 3) := by decide +kernel
theorem dX7_night_144 : decode cX7_night 144 = .ok (.aload_n 0, 1) := by decide +kernel
theorem dX7_night_145 : decode cX7_night 145 = .ok (.iload_n 3, 1) := by decide +kernel
theorem dX7_night_146 : decode cX7_night 146 = .ok (.iconst 3, 1) := by decide +kernel
theorem dX7_night_147 : decode cX7_night 147 = .ok (.invokevirtual 106, 3) := by decide +kernel
theorem dX7_night_150 : decode cX7_night 150 = .ok (.iadd, 1) := by decide +kernel
theorem dX7_night_151 : decode cX7_night 151 = .ok (.iconst 0, 1) := by decide +kernel
theorem dX7_night_152 : decode cX7_night 152 = .ok (.sipush 999, 3) := by decide +kernel
theorem dX7_night_155 : decode cX7_night 155 = .ok (.invokestatic 117, 3) := by decide +kernel
theorem dX7_night_158 : decode cX7_night 158 = .ok (.invokevirtual 96, 3) := by decide +kernel
theorem dX7_night_161 : decode cX7_night 161 = .ok (.iinc 3 1, 3) := by decide +kernel
theorem dX7_night_164 : decode cX7_night 164 = .ok (.goto (-51), 3) := by decide +kernel
theorem dX7_night_167 : decode cX7_night 167 = .ok (.aload_n 0, 1) := by decide +kernel
theorem dX7_night_168 : decode cX7_night 168 = .ok (.getfield 9, 3) := by decide +kernel
theorem dX7_night_171 : decode cX7_night 171 = .ok (.iconst 2, 1) := by decide +kernel
theorem dX7_night_172 : decode cX7_night 172 = .ok (.dup2, 1) := by decide +kernel
theorem dX7_night_173 : decode cX7_night 173 = .ok (.iaload, 1) := by decide +kernel
theorem dX7_night_174 : decode cX7_night 174 = .ok (.iconst 1, 1) := by decide +kernel
theorem dX7_night_175 : decode cX7_night 175 = .ok (.iadd, 1) := by decide +kernel
theorem dX7_night_176 : decode cX7_night 176 = .ok (.iastore, 1) := by decide +kernel
theorem dX7_night_177 : decode cX7_night 177 = .ok (.return_, 1) := by decide +kernel
theorem dX7_goesOn_0 : decode cX7_goesOn 0 = .ok (.iconst 0, 1) := by decide +kernel
theorem dX7_goesOn_1 : decode cX7_goesOn 1 = .ok (.istore_n 2, 1) := by decide +kernel
theorem dX7_goesOn_2 : decode cX7_goesOn 2 = .ok (.iload_n 2, 1) := by decide +kernel
theorem dX7_goesOn_3 : decode cX7_goesOn 3 = .ok (.iload_n 1, 1) := by decide +kernel
theorem dX7_goesOn_4 : decode cX7_goesOn 4 = .ok (.if_icmp .ge 13, 3) := by decide +kernel
theorem dX7_goesOn_7 : decode cX7_goesOn 7 = .ok (.aload_n 0, 1) := by decide +kernel
theorem dX7_goesOn_8 : decode cX7_goesOn 8 = .ok (.invokevirtual 163, 3) := by decide +kernel
theorem dX7_goesOn_11 : decode cX7_goesOn 11 = .ok (.iinc 2 1, 3) := by decide +kernel
theorem dX7_goesOn_14 : decode cX7_goesOn 14 = .ok (.goto (-12), 3) := by decide +kernel
theorem dX7_goesOn_17 : decode cX7_goesOn 17 = .ok (.return_, 1) := by decide +kernel
theorem dX7_nights_0 : decode cX7_nights 0 = .ok (.iload_n 1, 1) := by decide +kernel
theorem dX7_nights_1 : decode cX7_nights 1 = .ok (.iconst 1, 1) := by decide +kernel
theorem dX7_nights_2 : decode cX7_nights 2 = .ok (.bipush 100, 2) := by decide +kernel
theorem dX7_nights_4 : decode cX7_nights 4 = .ok (.invokestatic 92, 3) := by decide +kernel
theorem dX7_nights_7 : decode cX7_nights 7 = .ok (.ifCond .ne 6, 3) := by decide +kernel
theorem dX7_nights_10 : decode cX7_nights 10 = .ok (.ldc 100, 2) := by decide +kernel
theorem dX7_nights_12 : decode cX7_nights 12 = .ok (.ireturn, 1) := by decide +kernel
theorem dX7_nights_13 : decode cX7_nights 13 = .ok (.aload_n 0, 1) := by decide +kernel
theorem dX7_nights_14 : decode cX7_nights 14 = .ok (.getfield 9, 3) := by decide +kernel
theorem dX7_nights_17 : decode cX7_nights 17 = .ok (.bipush 6, 2) := by decide +kernel
theorem dX7_nights_19 : decode cX7_nights 19 = .ok (.iaload, 1) := by decide +kernel
theorem dX7_nights_20 : decode cX7_nights 20 = .ok (.istore_n 2, 1) := by decide +kernel
theorem dX7_nights_21 : decode cX7_nights 21 = .ok (.aload_n 0, 1) := by decide +kernel
theorem dX7_nights_22 : decode cX7_nights 22 = .ok (.sipush 9999, 3) := by decide +kernel
theorem dX7_nights_25 : decode cX7_nights 25 = .ok (.aload_n 0, 1) := by decide +kernel
theorem dX7_nights_26 : decode cX7_nights 26 = .ok (.getfield 9, 3) := by decide +kernel
theorem dX7_nights_29 : decode cX7_nights 29 = .ok (.iconst 2, 1) := by decide +kernel
theorem dX7_nights_30 : decode cX7_nights 30 = .ok (.iaload, 1) := by decide +kernel
theorem dX7_nights_31 : decode cX7_nights 31 = .ok (.isub, 1) := by decide +kernel
theorem dX7_nights_32 : decode cX7_nights 32 = .ok (.iconst 0, 1) := by decide +kernel
theorem dX7_nights_33 : decode cX7_nights 33 = .ok (.iload_n 1, 1) := by decide +kernel
theorem dX7_nights_34 : decode cX7_nights 34 = .ok (.invokestatic 117, 3) := by decide +kernel
theorem dX7_nights_37 : decode cX7_nights 37 = .ok (.invokevirtual 166, 3) := by decide +kernel
theorem dX7_nights_40 : decode cX7_nights 40 = .ok (.aload_n 0, 1) := by decide +kernel
theorem dX7_nights_41 : decode cX7_nights 41 = .ok (.getfield 9, 3) := by decide +kernel
theorem dX7_nights_44 : decode cX7_nights 44 = .ok (.bipush 6, 2) := by decide +kernel
theorem dX7_nights_46 : decode cX7_nights 46 = .ok (.iaload, 1) := by decide +kernel
theorem dX7_nights_47 : decode cX7_nights 47 = .ok (.iload_n 2, 1) := by decide +kernel
theorem dX7_nights_48 : decode cX7_nights 48 = .ok (.isub, 1) := by decide +kernel
theorem dX7_nights_49 : decode cX7_nights 49 = .ok (.ireturn, 1) := by decide +kernel
theorem dX7_way_0 : decode cX7_way 0 = .ok (.aload_n 0, 1) := by decide +kernel
theorem dX7_way_1 : decode cX7_way 1 = .ok (.invokevirtual 153, 3) := by decide +kernel
theorem dX7_way_4 : decode cX7_way 4 = .ok (.iconst 0, 1) := by decide +kernel
theorem dX7_way_5 : decode cX7_way 5 = .ok (.istore_n 1, 1) := by decide +kernel
theorem dX7_way_6 : decode cX7_way 6 = .ok (.iconst 0, 1) := by decide +kernel
theorem dX7_way_7 : decode cX7_way 7 = .ok (.istore_n 2, 1) := by decide +kernel
theorem dX7_way_8 : decode cX7_way 8 = .ok (.iconst 0, 1) := by decide +kernel
theorem dX7_way_9 : decode cX7_way 9 = .ok (.istore_n 3, 1) := by decide +kernel
theorem dX7_way_10 : decode cX7_way 10 = .ok (.iload_n 3, 1) := by decide +kernel
theorem dX7_way_11 : decode cX7_way 11 = .ok (.aload_n 0, 1) := by decide +kernel
theorem dX7_way_12 : decode cX7_way 12 = .ok (.getfield 9, 3) := by decide +kernel
theorem dX7_way_15 : decode cX7_way 15 = .ok (.iconst 1, 1) := by decide +kernel
theorem dX7_way_16 : decode cX7_way 16 = .ok (.iaload, 1) := by decide +kernel
theorem dX7_way_17 : decode cX7_way 17 = .ok (.if_icmp .ge 41, 3) := by decide +kernel
theorem dX7_way_20 : decode cX7_way 20 = .ok (.iload_n 2, 1) := by decide +kernel
theorem dX7_way_21 : decode cX7_way 21 = .ok (.aload_n 0, 1) := by decide +kernel
theorem dX7_way_22 : decode cX7_way 22 = .ok (.aload_n 0, 1) := by decide +kernel
theorem dX7_way_23 : decode cX7_way 23 = .ok (.getfield 23, 3) := by decide +kernel
theorem dX7_way_26 : decode cX7_way 26 = .ok (.iload_n 3, 1) := by decide +kernel
theorem dX7_way_27 : decode cX7_way 27 = .ok (.iaload, 1) := by decide +kernel
theorem dX7_way_28 : decode cX7_way 28 = .ok (.iconst 1, 1) := by decide +kernel
theorem dX7_way_29 : decode cX7_way 29 = .ok (.invokevirtual 106, 3) := by decide +kernel
theorem dX7_way_32 : decode cX7_way 32 = .ok (.iload_n 1, 1) := by decide +kernel
theorem dX7_way_33 : decode cX7_way 33 = .ok (.invokestatic 156, 3) := by decide +kernel
theorem dX7_way_36 : decode cX7_way 36 = .ok (.iconst 1, 1) := by decide +kernel
theorem dX7_way_37 : decode cX7_way 37 = .ok (.iadd, 1) := by decide +kernel
theorem dX7_way_38 : decode cX7_way 38 = .ok (.iadd, 1) := by decide +kernel
theorem dX7_way_39 : decode cX7_way 39 = .ok (.istore_n 2, 1) := by decide +kernel
theorem dX7_way_40 : decode cX7_way 40 = .ok (.aload_n 0, 1) := by decide +kernel
theorem dX7_way_41 : decode cX7_way 41 = .ok (.aload_n 0, 1) := by decide +kernel
theorem dX7_way_42 : decode cX7_way 42 = .ok (.getfield 23, 3) := by decide +kernel
theorem dX7_way_45 : decode cX7_way 45 = .ok (.iload_n 3, 1) := by decide +kernel
theorem dX7_way_46 : decode cX7_way 46 = .ok (.iaload, 1) := by decide +kernel
theorem dX7_way_47 : decode cX7_way 47 = .ok (.iconst 1, 1) := by decide +kernel
theorem dX7_way_48 : decode cX7_way 48 = .ok (.invokevirtual 106, 3) := by decide +kernel
theorem dX7_way_51 : decode cX7_way 51 = .ok (.istore_n 1, 1) := by decide +kernel
theorem dX7_way_52 : decode cX7_way 52 = .ok (.iinc 3 1, 3) := by decide +kernel
theorem dX7_way_55 : decode cX7_way 55 = .ok (.goto (-45), 3) := by decide +kernel
theorem dX7_way_58 : decode cX7_way 58 = .ok (.iload_n 2, 1) := by decide +kernel
theorem dX7_way_59 : decode cX7_way 59 = .ok (.ireturn, 1) := by decide +kernel
theorem dX7_dark_0 : decode cX7_dark 0 = .ok (.iload_n 1, 1) := by decide +kernel
theorem dX7_dark_1 : decode cX7_dark 1 = .ok (.iconst 0, 1) := by decide +kernel
theorem dX7_dark_2 : decode cX7_dark 2 = .ok (.sipush 9999, 3) := by decide +kernel
theorem dX7_dark_5 : decode cX7_dark 5 = .ok (.invokestatic 92, 3) := by decide +kernel
theorem dX7_dark_8 : decode cX7_dark 8 = .ok (.ifCond .ne 6, 3) := by decide +kernel
theorem dX7_dark_11 : decode cX7_dark 11 = .ok (.ldc 100, 2) := by decide +kernel
theorem dX7_dark_13 : decode cX7_dark 13 = .ok (.ireturn, 1) := by decide +kernel
theorem dX7_dark_14 : decode cX7_dark 14 = .ok (.iconst 0, 1) := by decide +kernel
theorem dX7_dark_15 : decode cX7_dark 15 = .ok (.istore_n 2, 1) := by decide +kernel
theorem dX7_dark_16 : decode cX7_dark 16 = .ok (.iconst 0, 1) := by decide +kernel
theorem dX7_dark_17 : decode cX7_dark 17 = .ok (.istore_n 3, 1) := by decide +kernel
theorem dX7_dark_18 : decode cX7_dark 18 = .ok (.iload_n 3, 1) := by decide +kernel
theorem dX7_dark_19 : decode cX7_dark 19 = .ok (.aload_n 0, 1) := by decide +kernel
theorem dX7_dark_20 : decode cX7_dark 20 = .ok (.getfield 9, 3) := by decide +kernel
theorem dX7_dark_23 : decode cX7_dark 23 = .ok (.iconst 1, 1) := by decide +kernel
theorem dX7_dark_24 : decode cX7_dark 24 = .ok (.iaload, 1) := by decide +kernel
theorem dX7_dark_25 : decode cX7_dark 25 = .ok (.if_icmp .ge 39, 3) := by decide +kernel
theorem dX7_dark_28 : decode cX7_dark 28 = .ok (.iload_n 2, 1) := by decide +kernel
theorem dX7_dark_29 : decode cX7_dark 29 = .ok (.aload_n 0, 1) := by decide +kernel
theorem dX7_dark_30 : decode cX7_dark 30 = .ok (.iload_n 3, 1) := by decide +kernel
theorem dX7_dark_31 : decode cX7_dark 31 = .ok (.iconst 5, 1) := by decide +kernel
theorem dX7_dark_32 : decode cX7_dark 32 = .ok (.invokevirtual 106, 3) := by decide +kernel
theorem dX7_dark_35 : decode cX7_dark 35 = .ok (.iload_n 1, 1) := by decide +kernel
theorem dX7_dark_36 : decode cX7_dark 36 = .ok (.if_icmp .gt 13, 3) := by decide +kernel
theorem dX7_dark_39 : decode cX7_dark 39 = .ok (.aload_n 0, 1) := by decide +kernel
theorem dX7_dark_40 : decode cX7_dark 40 = .ok (.iload_n 3, 1) := by decide +kernel
theorem dX7_dark_41 : decode cX7_dark 41 = .ok (.iconst 4, 1) := by decide +kernel
theorem dX7_dark_42 : decode cX7_dark 42 = .ok (.invokevirtual 106, 3) := by decide +kernel
theorem dX7_dark_45 : decode cX7_dark 45 = .ok (.iload_n 1, 1) := by decide +kernel
theorem dX7_dark_46 : decode cX7_dark 46 = .ok (.if_icmp .gt 9, 3) := by decide +kernel
theorem dX7_dark_49 : decode cX7_dark 49 = .ok (.iconst 1, 1) := by decide +kernel
theorem dX7_dark_50 : decode cX7_dark 50 = .ok (.iload_n 3, 1) := by decide +kernel
theorem dX7_dark_51 : decode cX7_dark 51 = .ok (.ishl, 1) := by decide +kernel
theorem dX7_dark_52 : decode cX7_dark 52 = .ok (.goto 4, 3) := by decide +kernel
theorem dX7_dark_55 : decode cX7_dark 55 = .ok (.iconst 0, 1) := by decide +kernel
theorem dX7_dark_56 : decode cX7_dark 56 = .ok (.ior, 1) := by decide +kernel
theorem dX7_dark_57 : decode cX7_dark 57 = .ok (.istore_n 2, 1) := by decide +kernel
theorem dX7_dark_58 : decode cX7_dark 58 = .ok (.iinc 3 1, 3) := by decide +kernel
theorem dX7_dark_61 : decode cX7_dark 61 = .ok (.goto (-43), 3) := by decide +kernel
theorem dX7_dark_64 : decode cX7_dark 64 = .ok (.iload_n 2, 1) := by decide +kernel
theorem dX7_dark_65 : decode cX7_dark 65 = .ok (.ireturn, 1) := by decide +kernel
theorem dX7_sumOf_0 : decode cX7_sumOf 0 = .ok (.iconst 0, 1) := by decide +kernel
theorem dX7_sumOf_1 : decode cX7_sumOf 1 = .ok (.istore_n 2, 1) := by decide +kernel
theorem dX7_sumOf_2 : decode cX7_sumOf 2 = .ok (.iconst 0, 1) := by decide +kernel
theorem dX7_sumOf_3 : decode cX7_sumOf 3 = .ok (.istore_n 3, 1) := by decide +kernel
theorem dX7_sumOf_4 : decode cX7_sumOf 4 = .ok (.iload_n 3, 1) := by decide +kernel
theorem dX7_sumOf_5 : decode cX7_sumOf 5 = .ok (.aload_n 0, 1) := by decide +kernel
theorem dX7_sumOf_6 : decode cX7_sumOf 6 = .ok (.getfield 9, 3) := by decide +kernel
theorem dX7_sumOf_9 : decode cX7_sumOf 9 = .ok (.iconst 1, 1) := by decide +kernel
theorem dX7_sumOf_10 : decode cX7_sumOf 10 = .ok (.iaload, 1) := by decide +kernel
theorem dX7_sumOf_11 : decode cX7_sumOf 11 = .ok (.if_icmp .ge 18, 3) := by decide +kernel
theorem dX7_sumOf_14 : decode cX7_sumOf 14 = .ok (.iload_n 2, 1) := by decide +kernel
theorem dX7_sumOf_15 : decode cX7_sumOf 15 = .ok (.aload_n 0, 1) := by decide +kernel
theorem dX7_sumOf_16 : decode cX7_sumOf 16 = .ok (.iload_n 3, 1) := by decide +kernel
theorem dX7_sumOf_17 : decode cX7_sumOf 17 = .ok (.iload_n 1, 1) := by decide +kernel
theorem dX7_sumOf_18 : decode cX7_sumOf 18 = .ok (.invokevirtual 106, 3) := by decide +kernel
theorem dX7_sumOf_21 : decode cX7_sumOf 21 = .ok (.iadd, 1) := by decide +kernel
theorem dX7_sumOf_22 : decode cX7_sumOf 22 = .ok (.istore_n 2, 1) := by decide +kernel
theorem dX7_sumOf_23 : decode cX7_sumOf 23 = .ok (.iinc 3 1, 3) := by decide +kernel
theorem dX7_sumOf_26 : decode cX7_sumOf 26 = .ok (.goto (-22), 3) := by decide +kernel
theorem dX7_sumOf_29 : decode cX7_sumOf 29 = .ok (.iload_n 2, 1) := by decide +kernel
theorem dX7_sumOf_30 : decode cX7_sumOf 30 = .ok (.ireturn, 1) := by decide +kernel
theorem dX7_street_0 : decode cX7_street 0 = .ok (.iload_n 1, 1) := by decide +kernel
theorem dX7_street_1 : decode cX7_street 1 = .ok (.tableswitch 58 0 3 #[31, 39, 46, 52], 31) := by decide +kernel
theorem dX7_street_32 : decode cX7_street 32 = .ok (.aload_n 0, 1) := by decide +kernel
theorem dX7_street_33 : decode cX7_street 33 = .ok (.getfield 9, 3) := by decide +kernel
theorem dX7_street_36 : decode cX7_street 36 = .ok (.bipush 6, 2) := by decide +kernel
theorem dX7_street_38 : decode cX7_street 38 = .ok (.iaload, 1) := by decide +kernel
theorem dX7_street_39 : decode cX7_street 39 = .ok (.ireturn, 1) := by decide +kernel
theorem dX7_street_40 : decode cX7_street 40 = .ok (.aload_n 0, 1) := by decide +kernel
theorem dX7_street_41 : decode cX7_street 41 = .ok (.bipush 6, 2) := by decide +kernel
theorem dX7_street_43 : decode cX7_street 43 = .ok (.invokevirtual 170, 3) := by decide +kernel
theorem dX7_street_46 : decode cX7_street 46 = .ok (.ireturn, 1) := by decide +kernel
theorem dX7_street_47 : decode cX7_street 47 = .ok (.aload_n 0, 1) := by decide +kernel
theorem dX7_street_48 : decode cX7_street 48 = .ok (.iconst 2, 1) := by decide +kernel
theorem dX7_street_49 : decode cX7_street 49 = .ok (.invokevirtual 170, 3) := by decide +kernel
theorem dX7_street_52 : decode cX7_street 52 = .ok (.ireturn, 1) := by decide +kernel
theorem dX7_street_53 : decode cX7_street 53 = .ok (.aload_n 0, 1) := by decide +kernel
theorem dX7_street_54 : decode cX7_street 54 = .ok (.iconst 3, 1) := by decide +kernel
theorem dX7_street_55 : decode cX7_street 55 = .ok (.invokevirtual 170, 3) := by decide +kernel
theorem dX7_street_58 : decode cX7_street 58 = .ok (.ireturn, 1) := by decide +kernel
theorem dX7_street_59 : decode cX7_street 59 = .ok (.ldc 100, 2) := by decide +kernel
theorem dX7_street_61 : decode cX7_street 61 = .ok (.ireturn, 1) := by decide +kernel
theorem dX7_thinks_0 : decode cX7_thinks 0 = .ok (.iconst 0, 1) := by decide +kernel
theorem dX7_thinks_1 : decode cX7_thinks 1 = .ok (.istore_n 1, 1) := by decide +kernel
theorem dX7_thinks_2 : decode cX7_thinks 2 = .ok (.iload_n 1, 1) := by decide +kernel
theorem dX7_thinks_3 : decode cX7_thinks 3 = .ok (.bipush 78, 2) := by decide +kernel
theorem dX7_thinks_5 : decode cX7_thinks 5 = .ok (.if_icmp .ge 21, 3) := by decide +kernel
theorem dX7_thinks_8 : decode cX7_thinks 8 = .ok (.aload_n 0, 1) := by decide +kernel
theorem dX7_thinks_9 : decode cX7_thinks 9 = .ok (.getfield 30, 3) := by decide +kernel
theorem dX7_thinks_12 : decode cX7_thinks 12 = .ok (.iload_n 1, 1) := by decide +kernel
theorem dX7_thinks_13 : decode cX7_thinks 13 = .ok (.aload_n 0, 1) := by decide +kernel
theorem dX7_thinks_14 : decode cX7_thinks 14 = .ok (.getfield 9, 3) := by decide +kernel
theorem dX7_thinks_17 : decode cX7_thinks 17 = .ok (.iload_n 1, 1) := by decide +kernel
theorem dX7_thinks_18 : decode cX7_thinks 18 = .ok (.iaload, 1) := by decide +kernel
theorem dX7_thinks_19 : decode cX7_thinks 19 = .ok (.iastore, 1) := by decide +kernel
theorem dX7_thinks_20 : decode cX7_thinks 20 = .ok (.iinc 1 1, 3) := by decide +kernel
theorem dX7_thinks_23 : decode cX7_thinks 23 = .ok (.goto (-21), 3) := by decide +kernel
theorem dX7_thinks_26 : decode cX7_thinks 26 = .ok (.return_, 1) := by decide +kernel
theorem dX7_putsBack_0 : decode cX7_putsBack 0 = .ok (.iconst 0, 1) := by decide +kernel
theorem dX7_putsBack_1 : decode cX7_putsBack 1 = .ok (.istore_n 1, 1) := by decide +kernel
theorem dX7_putsBack_2 : decode cX7_putsBack 2 = .ok (.iload_n 1, 1) := by decide +kernel
theorem dX7_putsBack_3 : decode cX7_putsBack 3 = .ok (.bipush 78, 2) := by decide +kernel
theorem dX7_putsBack_5 : decode cX7_putsBack 5 = .ok (.if_icmp .ge 21, 3) := by decide +kernel
theorem dX7_putsBack_8 : decode cX7_putsBack 8 = .ok (.aload_n 0, 1) := by decide +kernel
theorem dX7_putsBack_9 : decode cX7_putsBack 9 = .ok (.getfield 9, 3) := by decide +kernel
theorem dX7_putsBack_12 : decode cX7_putsBack 12 = .ok (.iload_n 1, 1) := by decide +kernel
theorem dX7_putsBack_13 : decode cX7_putsBack 13 = .ok (.aload_n 0, 1) := by decide +kernel
theorem dX7_putsBack_14 : decode cX7_putsBack 14 = .ok (.getfield 30, 3) := by decide +kernel
theorem dX7_putsBack_17 : decode cX7_putsBack 17 = .ok (.iload_n 1, 1) := by decide +kernel
theorem dX7_putsBack_18 : decode cX7_putsBack 18 = .ok (.iaload, 1) := by decide +kernel
theorem dX7_putsBack_19 : decode cX7_putsBack 19 = .ok (.iastore, 1) := by decide +kernel
theorem dX7_putsBack_20 : decode cX7_putsBack 20 = .ok (.iinc 1 1, 3) := by decide +kernel
theorem dX7_putsBack_23 : decode cX7_putsBack 23 = .ok (.goto (-21), 3) := by decide +kernel
theorem dX7_putsBack_26 : decode cX7_putsBack 26 = .ok (.aload_n 0, 1) := by decide +kernel
theorem dX7_putsBack_27 : decode cX7_putsBack 27 = .ok (.iconst (-1), 1) := by decide +kernel
theorem dX7_putsBack_28 : decode cX7_putsBack 28 = .ok (.putfield 19, 3) := by decide +kernel
theorem dX7_putsBack_31 : decode cX7_putsBack 31 = .ok (.return_, 1) := by decide +kernel
theorem dX7_firstNow_0 : decode cX7_firstNow 0 = .ok (.aload_n 0, 1) := by decide +kernel
theorem dX7_firstNow_1 : decode cX7_firstNow 1 = .ok (.getfield 9, 3) := by decide +kernel
theorem dX7_firstNow_4 : decode cX7_firstNow 4 = .ok (.iconst 1, 1) := by decide +kernel
theorem dX7_firstNow_5 : decode cX7_firstNow 5 = .ok (.iaload, 1) := by decide +kernel
theorem dX7_firstNow_6 : decode cX7_firstNow 6 = .ok (.ifCond .ne 5, 3) := by decide +kernel
theorem dX7_firstNow_9 : decode cX7_firstNow 9 = .ok (.iconst (-1), 1) := by decide +kernel
theorem dX7_firstNow_10 : decode cX7_firstNow 10 = .ok (.ireturn, 1) := by decide +kernel
theorem dX7_firstNow_11 : decode cX7_firstNow 11 = .ok (.aload_n 0, 1) := by decide +kernel
theorem dX7_firstNow_12 : decode cX7_firstNow 12 = .ok (.invokevirtual 153, 3) := by decide +kernel
theorem dX7_firstNow_15 : decode cX7_firstNow 15 = .ok (.aload_n 0, 1) := by decide +kernel
theorem dX7_firstNow_16 : decode cX7_firstNow 16 = .ok (.getfield 23, 3) := by decide +kernel
theorem dX7_firstNow_19 : decode cX7_firstNow 19 = .ok (.iconst 0, 1) := by decide +kernel
theorem dX7_firstNow_20 : decode cX7_firstNow 20 = .ok (.iaload, 1) := by decide +kernel
theorem dX7_firstNow_21 : decode cX7_firstNow 21 = .ok (.ireturn, 1) := by decide +kernel
theorem dX7_behind_0 : decode cX7_behind 0 = .ok (.iload_n 1, 1) := by decide +kernel
theorem dX7_behind_1 : decode cX7_behind 1 = .ok (.iconst 0, 1) := by decide +kernel
theorem dX7_behind_2 : decode cX7_behind 2 = .ok (.bipush 100, 2) := by decide +kernel
theorem dX7_behind_4 : decode cX7_behind 4 = .ok (.invokestatic 92, 3) := by decide +kernel
theorem dX7_behind_7 : decode cX7_behind 7 = .ok (.ifCond .eq 12, 3) := by decide +kernel
theorem dX7_behind_10 : decode cX7_behind 10 = .ok (.iload_n 2, 1) := by decide +kernel
theorem dX7_behind_11 : decode cX7_behind 11 = .ok (.iconst 0, 1) := by decide +kernel
theorem dX7_behind_12 : decode cX7_behind 12 = .ok (.iconst 3, 1) := by decide +kernel
theorem dX7_behind_13 : decode cX7_behind 13 = .ok (.invokestatic 92, 3) := by decide +kernel
theorem dX7_behind_16 : decode cX7_behind 16 = .ok (.ifCond .ne 6, 3) := by decide +kernel
theorem dX7_behind_19 : decode cX7_behind 19 = .ok (.ldc 100, 2) := by decide +kernel
theorem dX7_behind_21 : decode cX7_behind 21 = .ok (.ireturn, 1) := by decide +kernel
theorem dX7_behind_22 : decode cX7_behind 22 = .ok (.aload_n 0, 1) := by decide +kernel
theorem dX7_behind_23 : decode cX7_behind 23 = .ok (.invokevirtual 173, 3) := by decide +kernel
theorem dX7_behind_26 : decode cX7_behind 26 = .ok (.aload_n 0, 1) := by decide +kernel
theorem dX7_behind_27 : decode cX7_behind 27 = .ok (.iload_n 1, 1) := by decide +kernel
theorem dX7_behind_28 : decode cX7_behind 28 = .ok (.invokevirtual 166, 3) := by decide +kernel
theorem dX7_behind_31 : decode cX7_behind 31 = .ok (.iload_n 2, 1) := by decide +kernel
theorem dX7_behind_32 : decode cX7_behind 32 = .ok (.iconst 3, 1) := by decide +kernel
theorem dX7_behind_33 : decode cX7_behind 33 = .ok (.if_icmp .ne 13, 3) := by decide +kernel
theorem dX7_behind_36 : decode cX7_behind 36 = .ok (.aload_n 0, 1) := by decide +kernel
theorem dX7_behind_37 : decode cX7_behind 37 = .ok (.invokevirtual 176, 3) := by decide +kernel
theorem dX7_behind_40 : decode cX7_behind 40 = .ok (.invokestatic 179, 3) := by decide +kernel
theorem dX7_behind_43 : decode cX7_behind 43 = .ok (.goto 8, 3) := by decide +kernel
theorem dX7_behind_46 : decode cX7_behind 46 = .ok (.aload_n 0, 1) := by decide +kernel
theorem dX7_behind_47 : decode cX7_behind 47 = .ok (.iload_n 2, 1) := by decide +kernel
theorem dX7_behind_48 : decode cX7_behind 48 = .ok (.invokevirtual 182, 3) := by decide +kernel
theorem dX7_behind_51 : decode cX7_behind 51 = .ok (.istore_n 3, 1) := by decide +kernel
theorem dX7_behind_52 : decode cX7_behind 52 = .ok (.aload_n 0, 1) := by decide +kernel
theorem dX7_behind_53 : decode cX7_behind 53 = .ok (.invokevirtual 185, 3) := by decide +kernel
theorem dX7_behind_56 : decode cX7_behind 56 = .ok (.iload_n 3, 1) := by decide +kernel
theorem dX7_behind_57 : decode cX7_behind 57 = .ok (.ireturn, 1) := by decide +kernel
theorem dX7_isAsFirst_0 : decode cX7_isAsFirst 0 = .ok (.aload_n 0, 1) := by decide +kernel
theorem dX7_isAsFirst_1 : decode cX7_isAsFirst 1 = .ok (.invokevirtual 153, 3) := by decide +kernel
theorem dX7_isAsFirst_4 : decode cX7_isAsFirst 4 = .ok (.iconst 0, 1) := by decide +kernel
theorem dX7_isAsFirst_5 : decode cX7_isAsFirst 5 = .ok (.istore_n 1, 1) := by decide +kernel
theorem dX7_isAsFirst_6 : decode cX7_isAsFirst 6 = .ok (.iload_n 1, 1) := by decide +kernel
theorem dX7_isAsFirst_7 : decode cX7_isAsFirst 7 = .ok (.aload_n 0, 1) := by decide +kernel
theorem dX7_isAsFirst_8 : decode cX7_isAsFirst 8 = .ok (.getfield 9, 3) := by decide +kernel
theorem dX7_isAsFirst_11 : decode cX7_isAsFirst 11 = .ok (.iconst 1, 1) := by decide +kernel
theorem dX7_isAsFirst_12 : decode cX7_isAsFirst 12 = .ok (.iaload, 1) := by decide +kernel
theorem dX7_isAsFirst_13 : decode cX7_isAsFirst 13 = .ok (.if_icmp .ge 26, 3) := by decide +kernel
theorem dX7_isAsFirst_16 : decode cX7_isAsFirst 16 = .ok (.aload_n 0, 1) := by decide +kernel
theorem dX7_isAsFirst_17 : decode cX7_isAsFirst 17 = .ok (.getfield 23, 3) := by decide +kernel
theorem dX7_isAsFirst_20 : decode cX7_isAsFirst 20 = .ok (.iload_n 1, 1) := by decide +kernel
theorem dX7_isAsFirst_21 : decode cX7_isAsFirst 21 = .ok (.iaload, 1) := by decide +kernel
theorem dX7_isAsFirst_22 : decode cX7_isAsFirst 22 = .ok (.aload_n 0, 1) := by decide +kernel
theorem dX7_isAsFirst_23 : decode cX7_isAsFirst 23 = .ok (.getfield 33, 3) := by decide +kernel
theorem dX7_isAsFirst_26 : decode cX7_isAsFirst 26 = .ok (.iload_n 1, 1) := by decide +kernel
theorem dX7_isAsFirst_27 : decode cX7_isAsFirst 27 = .ok (.iaload, 1) := by decide +kernel
theorem dX7_isAsFirst_28 : decode cX7_isAsFirst 28 = .ok (.if_icmp .eq 5, 3) := by decide +kernel
theorem dX7_isAsFirst_31 : decode cX7_isAsFirst 31 = .ok (.iconst 0, 1) := by decide +kernel
theorem dX7_isAsFirst_32 : decode cX7_isAsFirst 32 = .ok (.ireturn, 1) := by decide +kernel
theorem dX7_isAsFirst_33 : decode cX7_isAsFirst 33 = .ok (.iinc 1 1, 3) := by decide +kernel
theorem dX7_isAsFirst_36 : decode cX7_isAsFirst 36 = .ok (.goto (-30), 3) := by decide +kernel
theorem dX7_isAsFirst_39 : decode cX7_isAsFirst 39 = .ok (.iconst 1, 1) := by decide +kernel
theorem dX7_isAsFirst_40 : decode cX7_isAsFirst 40 = .ok (.ireturn, 1) := by decide +kernel
theorem dX7_round_0 : decode cX7_round 0 = .ok (.aload_n 0, 1) := by decide +kernel
theorem dX7_round_1 : decode cX7_round 1 = .ok (.invokevirtual 173, 3) := by decide +kernel
theorem dX7_round_4 : decode cX7_round 4 = .ok (.aload_n 0, 1) := by decide +kernel
theorem dX7_round_5 : decode cX7_round 5 = .ok (.invokevirtual 153, 3) := by decide +kernel
theorem dX7_round_8 : decode cX7_round 8 = .ok (.iconst 0, 1) := by decide +kernel
theorem dX7_round_9 : decode cX7_round 9 = .ok (.istore_n 1, 1) := by decide +kernel
theorem dX7_round_10 : decode cX7_round 10 = .ok (.iload_n 1, 1) := by decide +kernel
theorem dX7_round_11 : decode cX7_round 11 = .ok (.bipush 10, 2) := by decide +kernel
theorem dX7_round_13 : decode cX7_round 13 = .ok (.if_icmp .ge 21, 3) := by decide +kernel
theorem dX7_round_16 : decode cX7_round 16 = .ok (.aload_n 0, 1) := by decide +kernel
theorem dX7_round_17 : decode cX7_round 17 = .ok (.getfield 33, 3) := by decide +kernel
theorem dX7_round_20 : decode cX7_round 20 = .ok (.iload_n 1, 1) := by decide +kernel
theorem dX7_round_21 : decode cX7_round 21 = .ok (.aload_n 0, 1) := by decide +kernel
theorem dX7_round_22 : decode cX7_round 22 = .ok (.getfield 23, 3) := by decide +kernel
theorem dX7_round_25 : decode cX7_round 25 = .ok (.iload_n 1, 1) := by decide +kernel
theorem dX7_round_26 : decode cX7_round 26 = .ok (.iaload, 1) := by decide +kernel
theorem dX7_round_27 : decode cX7_round 27 = .ok (.iastore, 1) := by decide +kernel
theorem dX7_round_28 : decode cX7_round 28 = .ok (.iinc 1 1, 3) := by decide +kernel
theorem dX7_round_31 : decode cX7_round 31 = .ok (.goto (-21), 3) := by decide +kernel
theorem dX7_round_34 : decode cX7_round 34 = .ok (.iconst 1, 1) := by decide +kernel
theorem dX7_round_35 : decode cX7_round 35 = .ok (.istore_n 1, 1) := by decide +kernel
theorem dX7_round_36 : decode cX7_round 36 = .ok (.aload_n 0, 1) := by decide +kernel
theorem dX7_round_37 : decode cX7_round 37 = .ok (.invokevirtual 163, 3) := by decide +kernel
theorem dX7_round_40 : decode cX7_round 40 = .ok (.iload_n 1, 1) := by decide +kernel
theorem dX7_round_41 : decode cX7_round 41 = .ok (.sipush 200, 3) := by decide +kernel
theorem dX7_round_44 : decode cX7_round 44 = .ok (.if_icmp .gt 20, 3) := by decide +kernel
theorem dX7_round_47 : decode cX7_round 47 = .ok (.aload_n 0, 1) := by decide +kernel
theorem dX7_round_48 : decode cX7_round 48 = .ok (.invokevirtual 188, 3) := by decide +kernel
theorem dX7_round_51 : decode cX7_round 51 = .ok (.ifCond .ne 13, 3) := by decide +kernel
theorem dX7_round_54 : decode cX7_round 54 = .ok (.aload_n 0, 1) := by decide +kernel
theorem dX7_round_55 : decode cX7_round 55 = .ok (.invokevirtual 163, 3) := by decide +kernel
theorem dX7_round_58 : decode cX7_round 58 = .ok (.iinc 1 1, 3) := by decide +kernel
theorem dX7_round_61 : decode cX7_round 61 = .ok (.goto (-21), 3) := by decide +kernel
theorem dX7_round_64 : decode cX7_round 64 = .ok (.aload_n 0, 1) := by decide +kernel
theorem dX7_round_65 : decode cX7_round 65 = .ok (.invokevirtual 185, 3) := by decide +kernel
theorem dX7_round_68 : decode cX7_round 68 = .ok (.iload_n 1, 1) := by decide +kernel
theorem dX7_round_69 : decode cX7_round 69 = .ok (.sipush 200, 3) := by decide +kernel
theorem dX7_round_72 : decode cX7_round 72 = .ok (.if_icmp .gt 7, 3) := by decide +kernel
theorem dX7_round_75 : decode cX7_round 75 = .ok (.iload_n 1, 1) := by decide +kernel
theorem dX7_round_76 : decode cX7_round 76 = .ok (.goto 5, 3) := by decide +kernel
theorem dX7_round_79 : decode cX7_round 79 = .ok (.ldc 91, 2) := by decide +kernel
theorem dX7_round_81 : decode cX7_round 81 = .ok (.ireturn, 1) := by decide +kernel
theorem dX7_first_0 : decode cX7_first 0 = .ok (.aload_n 0, 1) := by decide +kernel
theorem dX7_first_1 : decode cX7_first 1 = .ok (.iload_n 1, 1) := by decide +kernel
theorem dX7_first_2 : decode cX7_first 2 = .ok (.invokevirtual 121, 3) := by decide +kernel
theorem dX7_first_5 : decode cX7_first 5 = .ok (.ifCond .eq 13, 3) := by decide +kernel
theorem dX7_first_8 : decode cX7_first 8 = .ok (.iload_n 2, 1) := by decide +kernel
theorem dX7_first_9 : decode cX7_first 9 = .ok (.iconst 1, 1) := by decide +kernel
theorem dX7_first_10 : decode cX7_first 10 = .ok (.bipush 20, 2) := by decide +kernel
theorem dX7_first_12 : decode cX7_first 12 = .ok (.invokestatic 92, 3) := by decide +kernel
theorem dX7_first_15 : decode cX7_first 15 = .ok (.ifCond .ne 6, 3) := by decide +kernel
theorem dX7_first_18 : decode cX7_first 18 = .ok (.ldc 100, 2) := by decide +kernel
theorem dX7_first_20 : decode cX7_first 20 = .ok (.ireturn, 1) := by decide +kernel
theorem dX7_first_21 : decode cX7_first 21 = .ok (.aload_n 0, 1) := by decide +kernel
theorem dX7_first_22 : decode cX7_first 22 = .ok (.invokevirtual 173, 3) := by decide +kernel
theorem dX7_first_25 : decode cX7_first 25 = .ok (.ldc 91, 2) := by decide +kernel
theorem dX7_first_27 : decode cX7_first 27 = .ok (.istore_n 3, 1) := by decide +kernel
theorem dX7_first_28 : decode cX7_first 28 = .ok (.iconst 0, 1) := by decide +kernel
theorem dX7_first_29 : decode cX7_first 29 = .ok (.istore 4, 2) := by decide +kernel
theorem dX7_first_31 : decode cX7_first 31 = .ok (.iload 4, 2) := by decide +kernel
theorem dX7_first_33 : decode cX7_first 33 = .ok (.bipush 100, 2) := by decide +kernel
theorem dX7_first_35 : decode cX7_first 35 = .ok (.if_icmp .ge 48, 3) := by decide +kernel
theorem dX7_first_38 : decode cX7_first 38 = .ok (.iload_n 3, 1) := by decide +kernel
theorem dX7_first_39 : decode cX7_first 39 = .ok (.ldc 91, 2) := by decide +kernel
theorem dX7_first_41 : decode cX7_first 41 = .ok (.if_icmp .ne 42, 3) := by decide +kernel
theorem dX7_first_44 : decode cX7_first 44 = .ok (.aload_n 0, 1) := by decide +kernel
theorem dX7_first_45 : decode cX7_first 45 = .ok (.iload_n 1, 1) := by decide +kernel
theorem dX7_first_46 : decode cX7_first 46 = .ok (.iconst 3, 1) := by decide +kernel
theorem dX7_first_47 : decode cX7_first 47 = .ok (.iload 4, 2) := by decide +kernel
theorem dX7_first_49 : decode cX7_first 49 = .ok (.invokevirtual 96, 3) := by decide +kernel
theorem dX7_first_52 : decode cX7_first 52 = .ok (.aload_n 0, 1) := by decide +kernel
theorem dX7_first_53 : decode cX7_first 53 = .ok (.iload_n 2, 1) := by decide +kernel
theorem dX7_first_54 : decode cX7_first 54 = .ok (.invokevirtual 166, 3) := by decide +kernel
theorem dX7_first_57 : decode cX7_first 57 = .ok (.aload_n 0, 1) := by decide +kernel
theorem dX7_first_58 : decode cX7_first 58 = .ok (.invokevirtual 176, 3) := by decide +kernel
theorem dX7_first_61 : decode cX7_first 61 = .ok (.iload_n 1, 1) := by decide +kernel
theorem dX7_first_62 : decode cX7_first 62 = .ok (.if_icmp .ne 8, 3) := by decide +kernel
theorem dX7_first_65 : decode cX7_first 65 = .ok (.iload 4, 2) := by decide +kernel
theorem dX7_first_67 : decode cX7_first 67 = .ok (.goto 5, 3) := by decide +kernel
theorem dX7_first_70 : decode cX7_first 70 = .ok (.ldc 91, 2) := by decide +kernel
theorem dX7_first_72 : decode cX7_first 72 = .ok (.istore_n 3, 1) := by decide +kernel
theorem dX7_first_73 : decode cX7_first 73 = .ok (.aload_n 0, 1) := by decide +kernel
theorem dX7_first_74 : decode cX7_first 74 = .ok (.invokevirtual 185, 3) := by decide +kernel
theorem dX7_first_77 : decode cX7_first 77 = .ok (.iinc 4 1, 3) := by decide +kernel
theorem dX7_first_80 : decode cX7_first 80 = .ok (.goto (-49), 3) := by decide +kernel
theorem dX7_first_83 : decode cX7_first 83 = .ok (.iload_n 3, 1) := by decide +kernel
theorem dX7_first_84 : decode cX7_first 84 = .ok (.ireturn, 1) := by decide +kernel
theorem dX7_walkedBehind_0 : decode cX7_walkedBehind 0 = .ok (.aload_n 0, 1) := by decide +kernel
theorem dX7_walkedBehind_1 : decode cX7_walkedBehind 1 = .ok (.iload_n 1, 1) := by decide +kernel
theorem dX7_walkedBehind_2 : decode cX7_walkedBehind 2 = .ok (.invokevirtual 166, 3) := by decide +kernel
theorem dX7_walkedBehind_5 : decode cX7_walkedBehind 5 = .ok (.aload_n 0, 1) := by decide +kernel
theorem dX7_walkedBehind_6 : decode cX7_walkedBehind 6 = .ok (.getfield 9, 3) := by decide +kernel
theorem dX7_walkedBehind_9 : decode cX7_walkedBehind 9 = .ok (.bipush 6, 2) := by decide +kernel
theorem dX7_walkedBehind_11 : decode cX7_walkedBehind 11 = .ok (.iaload, 1) := by decide +kernel
theorem dX7_walkedBehind_12 : decode cX7_walkedBehind 12 = .ok (.istore_n 2, 1) := by decide +kernel
theorem dX7_walkedBehind_13 : decode cX7_walkedBehind 13 = .ok (.aload_n 0, 1) := by decide +kernel
theorem dX7_walkedBehind_14 : decode cX7_walkedBehind 14 = .ok (.invokevirtual 185, 3) := by decide +kernel
theorem dX7_walkedBehind_17 : decode cX7_walkedBehind 17 = .ok (.iload_n 2, 1) := by decide +kernel
theorem dX7_walkedBehind_18 : decode cX7_walkedBehind 18 = .ok (.ireturn, 1) := by decide +kernel
theorem dX7_leastLaw_0 : decode cX7_leastLaw 0 = .ok (.iload_n 1, 1) := by decide +kernel
theorem dX7_leastLaw_1 : decode cX7_leastLaw 1 = .ok (.iconst 1, 1) := by decide +kernel
theorem dX7_leastLaw_2 : decode cX7_leastLaw 2 = .ok (.bipush 60, 2) := by decide +kernel
theorem dX7_leastLaw_4 : decode cX7_leastLaw 4 = .ok (.invokestatic 92, 3) := by decide +kernel
theorem dX7_leastLaw_7 : decode cX7_leastLaw 7 = .ok (.ifCond .eq 12, 3) := by decide +kernel
theorem dX7_leastLaw_10 : decode cX7_leastLaw 10 = .ok (.iload_n 2, 1) := by decide +kernel
theorem dX7_leastLaw_11 : decode cX7_leastLaw 11 = .ok (.iconst 0, 1) := by decide +kernel
theorem dX7_leastLaw_12 : decode cX7_leastLaw 12 = .ok (.iconst 1, 1) := by decide +kernel
theorem dX7_leastLaw_13 : decode cX7_leastLaw 13 = .ok (.invokestatic 92, 3) := by decide +kernel
theorem dX7_leastLaw_16 : decode cX7_leastLaw 16 = .ok (.ifCond .ne 6, 3) := by decide +kernel
theorem dX7_leastLaw_19 : decode cX7_leastLaw 19 = .ok (.ldc 100, 2) := by decide +kernel
theorem dX7_leastLaw_21 : decode cX7_leastLaw 21 = .ok (.ireturn, 1) := by decide +kernel
theorem dX7_leastLaw_22 : decode cX7_leastLaw 22 = .ok (.aload_n 0, 1) := by decide +kernel
theorem dX7_leastLaw_23 : decode cX7_leastLaw 23 = .ok (.invokevirtual 173, 3) := by decide +kernel
theorem dX7_leastLaw_26 : decode cX7_leastLaw 26 = .ok (.iconst (-1), 1) := by decide +kernel
theorem dX7_leastLaw_27 : decode cX7_leastLaw 27 = .ok (.istore_n 3, 1) := by decide +kernel
theorem dX7_leastLaw_28 : decode cX7_leastLaw 28 = .ok (.iconst 0, 1) := by decide +kernel
theorem dX7_leastLaw_29 : decode cX7_leastLaw 29 = .ok (.istore 4, 2) := by decide +kernel
theorem dX7_leastLaw_31 : decode cX7_leastLaw 31 = .ok (.iconst 0, 1) := by decide +kernel
theorem dX7_leastLaw_32 : decode cX7_leastLaw 32 = .ok (.istore 5, 2) := by decide +kernel
theorem dX7_leastLaw_34 : decode cX7_leastLaw 34 = .ok (.iload 5, 2) := by decide +kernel
theorem dX7_leastLaw_36 : decode cX7_leastLaw 36 = .ok (.iconst 3, 1) := by decide +kernel
theorem dX7_leastLaw_37 : decode cX7_leastLaw 37 = .ok (.if_icmp .ge 57, 3) := by decide +kernel
theorem dX7_leastLaw_40 : decode cX7_leastLaw 40 = .ok (.aload_n 0, 1) := by decide +kernel
theorem dX7_leastLaw_41 : decode cX7_leastLaw 41 = .ok (.getfield 9, 3) := by decide +kernel
theorem dX7_leastLaw_44 : decode cX7_leastLaw 44 = .ok (.iconst 3, 1) := by decide +kernel
theorem dX7_leastLaw_45 : decode cX7_leastLaw 45 = .ok (.iload 5, 2) := by decide +kernel
theorem dX7_leastLaw_47 : decode cX7_leastLaw 47 = .ok (.iastore, 1) := by decide +kernel
theorem dX7_leastLaw_48 : decode cX7_leastLaw 48 = .ok (.aload_n 0, 1) := by decide +kernel
theorem dX7_leastLaw_49 : decode cX7_leastLaw 49 = .ok (.iload_n 1, 1) := by decide +kernel
theorem dX7_leastLaw_50 : decode cX7_leastLaw 50 = .ok (.invokevirtual 192, 3) := by decide +kernel
theorem dX7_leastLaw_53 : decode cX7_leastLaw 53 = .ok (.istore 6, 2) := by decide +kernel
theorem dX7_leastLaw_55 : decode cX7_leastLaw 55 = .ok (.iload_n 3, 1) := by decide +kernel
theorem dX7_leastLaw_56 : decode cX7_leastLaw 56 = .ok (.ifCond .lt 10, 3) := by decide +kernel
theorem dX7_leastLaw_59 : decode cX7_leastLaw 59 = .ok (.iload 6, 2) := by decide +kernel
theorem dX7_leastLaw_61 : decode cX7_leastLaw 61 = .ok (.iload 4, 2) := by decide +kernel
theorem dX7_leastLaw_63 : decode cX7_leastLaw 63 = .ok (.if_icmp .ge 8, 3) := by decide +kernel
theorem dX7_leastLaw_66 : decode cX7_leastLaw 66 = .ok (.iload 5, 2) := by decide +kernel
theorem dX7_leastLaw_68 : decode cX7_leastLaw 68 = .ok (.goto 4, 3) := by decide +kernel
theorem dX7_leastLaw_71 : decode cX7_leastLaw 71 = .ok (.iload_n 3, 1) := by decide +kernel
theorem dX7_leastLaw_72 : decode cX7_leastLaw 72 = .ok (.istore_n 3, 1) := by decide +kernel
theorem dX7_leastLaw_73 : decode cX7_leastLaw 73 = .ok (.iload_n 3, 1) := by decide +kernel
theorem dX7_leastLaw_74 : decode cX7_leastLaw 74 = .ok (.iload 5, 2) := by decide +kernel
theorem dX7_leastLaw_76 : decode cX7_leastLaw 76 = .ok (.if_icmp .ne 8, 3) := by decide +kernel
theorem dX7_leastLaw_79 : decode cX7_leastLaw 79 = .ok (.iload 6, 2) := by decide +kernel
theorem dX7_leastLaw_81 : decode cX7_leastLaw 81 = .ok (.goto 5, 3) := by decide +kernel
theorem dX7_leastLaw_84 : decode cX7_leastLaw 84 = .ok (.iload 4, 2) := by decide +kernel
theorem dX7_leastLaw_86 : decode cX7_leastLaw 86 = .ok (.istore 4, 2) := by decide +kernel
theorem dX7_leastLaw_88 : decode cX7_leastLaw 88 = .ok (.iinc 5 1, 3) := by decide +kernel
theorem dX7_leastLaw_91 : decode cX7_leastLaw 91 = .ok (.goto (-57), 3) := by decide +kernel
theorem dX7_leastLaw_94 : decode cX7_leastLaw 94 = .ok (.iload_n 2, 1) := by decide +kernel
theorem dX7_leastLaw_95 : decode cX7_leastLaw 95 = .ok (.ifCond .ne 7, 3) := by decide +kernel
theorem dX7_leastLaw_98 : decode cX7_leastLaw 98 = .ok (.iload_n 3, 1) := by decide +kernel
theorem dX7_leastLaw_99 : decode cX7_leastLaw 99 = .ok (.goto 5, 3) := by decide +kernel
theorem dX7_leastLaw_102 : decode cX7_leastLaw 102 = .ok (.iload 4, 2) := by decide +kernel
theorem dX7_leastLaw_104 : decode cX7_leastLaw 104 = .ok (.ireturn, 1) := by decide +kernel
theorem dX7_spared_0 : decode cX7_spared 0 = .ok (.iload_n 1, 1) := by decide +kernel
theorem dX7_spared_1 : decode cX7_spared 1 = .ok (.iconst 1, 1) := by decide +kernel
theorem dX7_spared_2 : decode cX7_spared 2 = .ok (.bipush 60, 2) := by decide +kernel
theorem dX7_spared_4 : decode cX7_spared 4 = .ok (.invokestatic 92, 3) := by decide +kernel
theorem dX7_spared_7 : decode cX7_spared 7 = .ok (.ifCond .eq 12, 3) := by decide +kernel
theorem dX7_spared_10 : decode cX7_spared 10 = .ok (.iload_n 2, 1) := by decide +kernel
theorem dX7_spared_11 : decode cX7_spared 11 = .ok (.iconst 0, 1) := by decide +kernel
theorem dX7_spared_12 : decode cX7_spared 12 = .ok (.iconst 1, 1) := by decide +kernel
theorem dX7_spared_13 : decode cX7_spared 13 = .ok (.invokestatic 92, 3) := by decide +kernel
theorem dX7_spared_16 : decode cX7_spared 16 = .ok (.ifCond .ne 6, 3) := by decide +kernel
theorem dX7_spared_19 : decode cX7_spared 19 = .ok (.ldc 100, 2) := by decide +kernel
theorem dX7_spared_21 : decode cX7_spared 21 = .ok (.ireturn, 1) := by decide +kernel
theorem dX7_spared_22 : decode cX7_spared 22 = .ok (.aload_n 0, 1) := by decide +kernel
theorem dX7_spared_23 : decode cX7_spared 23 = .ok (.invokevirtual 173, 3) := by decide +kernel
theorem dX7_spared_26 : decode cX7_spared 26 = .ok (.iconst (-1), 1) := by decide +kernel
theorem dX7_spared_27 : decode cX7_spared 27 = .ok (.istore_n 3, 1) := by decide +kernel
theorem dX7_spared_28 : decode cX7_spared 28 = .ok (.iconst 0, 1) := by decide +kernel
theorem dX7_spared_29 : decode cX7_spared 29 = .ok (.istore 4, 2) := by decide +kernel
theorem dX7_spared_31 : decode cX7_spared 31 = .ok (.iconst 0, 1) := by decide +kernel
theorem dX7_spared_32 : decode cX7_spared 32 = .ok (.istore 5, 2) := by decide +kernel
theorem dX7_spared_34 : decode cX7_spared 34 = .ok (.iload 5, 2) := by decide +kernel
theorem dX7_spared_36 : decode cX7_spared 36 = .ok (.aload_n 0, 1) := by decide +kernel
theorem dX7_spared_37 : decode cX7_spared 37 = .ok (.getfield 9, 3) := by decide +kernel
theorem dX7_spared_40 : decode cX7_spared 40 = .ok (.iconst 1, 1) := by decide +kernel
theorem dX7_spared_41 : decode cX7_spared 41 = .ok (.iaload, 1) := by decide +kernel
theorem dX7_spared_42 : decode cX7_spared 42 = .ok (.if_icmp .ge 55, 3) := by decide +kernel
theorem dX7_spared_45 : decode cX7_spared 45 = .ok (.aload_n 0, 1) := by decide +kernel
theorem dX7_spared_46 : decode cX7_spared 46 = .ok (.iload 5, 2) := by decide +kernel
theorem dX7_spared_48 : decode cX7_spared 48 = .ok (.putfield 19, 3) := by decide +kernel
theorem dX7_spared_51 : decode cX7_spared 51 = .ok (.aload_n 0, 1) := by decide +kernel
theorem dX7_spared_52 : decode cX7_spared 52 = .ok (.iload_n 1, 1) := by decide +kernel
theorem dX7_spared_53 : decode cX7_spared 53 = .ok (.invokevirtual 192, 3) := by decide +kernel
theorem dX7_spared_56 : decode cX7_spared 56 = .ok (.istore 6, 2) := by decide +kernel
theorem dX7_spared_58 : decode cX7_spared 58 = .ok (.iload_n 3, 1) := by decide +kernel
theorem dX7_spared_59 : decode cX7_spared 59 = .ok (.ifCond .lt 10, 3) := by decide +kernel
theorem dX7_spared_62 : decode cX7_spared 62 = .ok (.iload 6, 2) := by decide +kernel
theorem dX7_spared_64 : decode cX7_spared 64 = .ok (.iload 4, 2) := by decide +kernel
theorem dX7_spared_66 : decode cX7_spared 66 = .ok (.if_icmp .ge 8, 3) := by decide +kernel
theorem dX7_spared_69 : decode cX7_spared 69 = .ok (.iload 5, 2) := by decide +kernel
theorem dX7_spared_71 : decode cX7_spared 71 = .ok (.goto 4, 3) := by decide +kernel
theorem dX7_spared_74 : decode cX7_spared 74 = .ok (.iload_n 3, 1) := by decide +kernel
theorem dX7_spared_75 : decode cX7_spared 75 = .ok (.istore_n 3, 1) := by decide +kernel
theorem dX7_spared_76 : decode cX7_spared 76 = .ok (.iload_n 3, 1) := by decide +kernel
theorem dX7_spared_77 : decode cX7_spared 77 = .ok (.iload 5, 2) := by decide +kernel
theorem dX7_spared_79 : decode cX7_spared 79 = .ok (.if_icmp .ne 8, 3) := by decide +kernel
theorem dX7_spared_82 : decode cX7_spared 82 = .ok (.iload 6, 2) := by decide +kernel
theorem dX7_spared_84 : decode cX7_spared 84 = .ok (.goto 5, 3) := by decide +kernel
theorem dX7_spared_87 : decode cX7_spared 87 = .ok (.iload 4, 2) := by decide +kernel
theorem dX7_spared_89 : decode cX7_spared 89 = .ok (.istore 4, 2) := by decide +kernel
theorem dX7_spared_91 : decode cX7_spared 91 = .ok (.iinc 5 1, 3) := by decide +kernel
theorem dX7_spared_94 : decode cX7_spared 94 = .ok (.goto (-60), 3) := by decide +kernel
theorem dX7_spared_97 : decode cX7_spared 97 = .ok (.iload_n 3, 1) := by decide +kernel
theorem dX7_spared_98 : decode cX7_spared 98 = .ok (.ifCond .ge 8, 3) := by decide +kernel
theorem dX7_spared_101 : decode cX7_spared 101 = .ok (.ldc 91, 2) := by decide +kernel
theorem dX7_spared_103 : decode cX7_spared 103 = .ok (.goto 13, 3) := by decide +kernel
theorem dX7_spared_106 : decode cX7_spared 106 = .ok (.iload_n 2, 1) := by decide +kernel
theorem dX7_spared_107 : decode cX7_spared 107 = .ok (.ifCond .ne 7, 3) := by decide +kernel
theorem dX7_spared_110 : decode cX7_spared 110 = .ok (.iload_n 3, 1) := by decide +kernel
theorem dX7_spared_111 : decode cX7_spared 111 = .ok (.goto 5, 3) := by decide +kernel
theorem dX7_spared_114 : decode cX7_spared 114 = .ok (.iload 4, 2) := by decide +kernel
theorem dX7_spared_116 : decode cX7_spared 116 = .ok (.ireturn, 1) := by decide +kernel
theorem dX7_last_0 : decode cX7_last 0 = .ok (.iload_n 1, 1) := by decide +kernel
theorem dX7_last_1 : decode cX7_last 1 = .ok (.iconst 1, 1) := by decide +kernel
theorem dX7_last_2 : decode cX7_last 2 = .ok (.bipush 60, 2) := by decide +kernel
theorem dX7_last_4 : decode cX7_last 4 = .ok (.invokestatic 92, 3) := by decide +kernel
theorem dX7_last_7 : decode cX7_last 7 = .ok (.ifCond .eq 12, 3) := by decide +kernel
theorem dX7_last_10 : decode cX7_last 10 = .ok (.iload_n 2, 1) := by decide +kernel
theorem dX7_last_11 : decode cX7_last 11 = .ok (.iconst 0, 1) := by decide +kernel
theorem dX7_last_12 : decode cX7_last 12 = .ok (.iconst 1, 1) := by decide +kernel
theorem dX7_last_13 : decode cX7_last 13 = .ok (.invokestatic 92, 3) := by decide +kernel
theorem dX7_last_16 : decode cX7_last 16 = .ok (.ifCond .ne 6, 3) := by decide +kernel
theorem dX7_last_19 : decode cX7_last 19 = .ok (.ldc 100, 2) := by decide +kernel
theorem dX7_last_21 : decode cX7_last 21 = .ok (.ireturn, 1) := by decide +kernel
theorem dX7_last_22 : decode cX7_last 22 = .ok (.aload_n 0, 1) := by decide +kernel
theorem dX7_last_23 : decode cX7_last 23 = .ok (.getfield 9, 3) := by decide +kernel
theorem dX7_last_26 : decode cX7_last 26 = .ok (.iconst 1, 1) := by decide +kernel
theorem dX7_last_27 : decode cX7_last 27 = .ok (.iaload, 1) := by decide +kernel
theorem dX7_last_28 : decode cX7_last 28 = .ok (.ifCond .ne 6, 3) := by decide +kernel
theorem dX7_last_31 : decode cX7_last 31 = .ok (.ldc 91, 2) := by decide +kernel
theorem dX7_last_33 : decode cX7_last 33 = .ok (.ireturn, 1) := by decide +kernel
theorem dX7_last_34 : decode cX7_last 34 = .ok (.iconst 0, 1) := by decide +kernel
theorem dX7_last_35 : decode cX7_last 35 = .ok (.istore_n 3, 1) := by decide +kernel
theorem dX7_last_36 : decode cX7_last 36 = .ok (.iload_n 3, 1) := by decide +kernel
theorem dX7_last_37 : decode cX7_last 37 = .ok (.bipush 10, 2) := by decide +kernel
theorem dX7_last_39 : decode cX7_last 39 = .ok (.if_icmp .ge 16, 3) := by decide +kernel
theorem dX7_last_42 : decode cX7_last 42 = .ok (.aload_n 0, 1) := by decide +kernel
theorem dX7_last_43 : decode cX7_last 43 = .ok (.getfield 36, 3) := by decide +kernel
theorem dX7_last_46 : decode cX7_last 46 = .ok (.iload_n 3, 1) := by decide +kernel
theorem dX7_last_47 : decode cX7_last 47 = .ok (.iconst 0, 1) := by decide +kernel
theorem dX7_last_48 : decode cX7_last 48 = .ok (.iastore, 1) := by decide +kernel
theorem dX7_last_49 : decode cX7_last 49 = .ok (.iinc 3 1, 3) := by decide +kernel
theorem dX7_last_52 : decode cX7_last 52 = .ok (.goto (-16), 3) := by decide +kernel
theorem dX7_last_55 : decode cX7_last 55 = .ok (.aload_n 0, 1) := by decide +kernel
theorem dX7_last_56 : decode cX7_last 56 = .ok (.invokevirtual 173, 3) := by decide +kernel
theorem dX7_last_59 : decode cX7_last 59 = .ok (.iconst 0, 1) := by decide +kernel
theorem dX7_last_60 : decode cX7_last 60 = .ok (.istore_n 3, 1) := by decide +kernel
theorem dX7_last_61 : decode cX7_last 61 = .ok (.iload_n 3, 1) := by decide +kernel
theorem dX7_last_62 : decode cX7_last 62 = .ok (.iload_n 1, 1) := by decide +kernel
theorem dX7_last_63 : decode cX7_last 63 = .ok (.if_icmp .ge 39, 3) := by decide +kernel
theorem dX7_last_66 : decode cX7_last 66 = .ok (.aload_n 0, 1) := by decide +kernel
theorem dX7_last_67 : decode cX7_last 67 = .ok (.invokevirtual 153, 3) := by decide +kernel
theorem dX7_last_70 : decode cX7_last 70 = .ok (.aload_n 0, 1) := by decide +kernel
theorem dX7_last_71 : decode cX7_last 71 = .ok (.getfield 36, 3) := by decide +kernel
theorem dX7_last_74 : decode cX7_last 74 = .ok (.aload_n 0, 1) := by decide +kernel
theorem dX7_last_75 : decode cX7_last 75 = .ok (.getfield 23, 3) := by decide +kernel
theorem dX7_last_78 : decode cX7_last 78 = .ok (.aload_n 0, 1) := by decide +kernel
theorem dX7_last_79 : decode cX7_last 79 = .ok (.getfield 9, 3) := by decide +kernel
theorem dX7_last_82 : decode cX7_last 82 = .ok (.iconst 1, 1) := by decide +kernel
theorem dX7_last_83 : decode cX7_last 83 = .ok (.iaload, 1) := by decide +kernel
theorem dX7_last_84 : decode cX7_last 84 = .ok (.iconst 1, 1) := by decide +kernel
theorem dX7_last_85 : decode cX7_last 85 = .ok (.isub, 1) := by decide +kernel
theorem dX7_last_86 : decode cX7_last 86 = .ok (.iaload, 1) := by decide +kernel
theorem dX7_last_87 : decode cX7_last 87 = .ok (.dup2, 1) := by decide +kernel
theorem dX7_last_88 : decode cX7_last 88 = .ok (.iaload, 1) := by decide +kernel
theorem dX7_last_89 : decode cX7_last 89 = .ok (.iconst 1, 1) := by decide +kernel
theorem dX7_last_90 : decode cX7_last 90 = .ok (.iadd, 1) := by decide +kernel
theorem dX7_last_91 : decode cX7_last 91 = .ok (.iastore, 1) := by decide +kernel
theorem dX7_last_92 : decode cX7_last 92 = .ok (.aload_n 0, 1) := by decide +kernel
theorem dX7_last_93 : decode cX7_last 93 = .ok (.invokevirtual 163, 3) := by decide +kernel
theorem dX7_last_96 : decode cX7_last 96 = .ok (.iinc 3 1, 3) := by decide +kernel
theorem dX7_last_99 : decode cX7_last 99 = .ok (.goto (-38), 3) := by decide +kernel
theorem dX7_last_102 : decode cX7_last 102 = .ok (.aload_n 0, 1) := by decide +kernel
theorem dX7_last_103 : decode cX7_last 103 = .ok (.invokevirtual 185, 3) := by decide +kernel
theorem dX7_last_106 : decode cX7_last 106 = .ok (.iconst 0, 1) := by decide +kernel
theorem dX7_last_107 : decode cX7_last 107 = .ok (.istore_n 3, 1) := by decide +kernel
theorem dX7_last_108 : decode cX7_last 108 = .ok (.iconst 1, 1) := by decide +kernel
theorem dX7_last_109 : decode cX7_last 109 = .ok (.istore 4, 2) := by decide +kernel
theorem dX7_last_111 : decode cX7_last 111 = .ok (.iload 4, 2) := by decide +kernel
theorem dX7_last_113 : decode cX7_last 113 = .ok (.aload_n 0, 1) := by decide +kernel
theorem dX7_last_114 : decode cX7_last 114 = .ok (.getfield 9, 3) := by decide +kernel
theorem dX7_last_117 : decode cX7_last 117 = .ok (.iconst 1, 1) := by decide +kernel
theorem dX7_last_118 : decode cX7_last 118 = .ok (.iaload, 1) := by decide +kernel
theorem dX7_last_119 : decode cX7_last 119 = .ok (.if_icmp .ge 32, 3) := by decide +kernel
theorem dX7_last_122 : decode cX7_last 122 = .ok (.aload_n 0, 1) := by decide +kernel
theorem dX7_last_123 : decode cX7_last 123 = .ok (.getfield 36, 3) := by decide +kernel
theorem dX7_last_126 : decode cX7_last 126 = .ok (.iload 4, 2) := by decide +kernel
theorem dX7_last_128 : decode cX7_last 128 = .ok (.iaload, 1) := by decide +kernel
theorem dX7_last_129 : decode cX7_last 129 = .ok (.aload_n 0, 1) := by decide +kernel
theorem dX7_last_130 : decode cX7_last 130 = .ok (.getfield 36, 3) := by decide +kernel
theorem dX7_last_133 : decode cX7_last 133 = .ok (.iload_n 3, 1) := by decide +kernel
theorem dX7_last_134 : decode cX7_last 134 = .ok (.iaload, 1) := by decide +kernel
theorem dX7_last_135 : decode cX7_last 135 = .ok (.if_icmp .le 8, 3) := by decide +kernel
theorem dX7_last_138 : decode cX7_last 138 = .ok (.iload 4, 2) := by decide +kernel
theorem dX7_last_140 : decode cX7_last 140 = .ok (.goto 4, 3) := by decide +kernel
theorem dX7_last_143 : decode cX7_last 143 = .ok (.iload_n 3, 1) := by decide +kernel
theorem dX7_last_144 : decode cX7_last 144 = .ok (.istore_n 3, 1) := by decide +kernel
theorem dX7_last_145 : decode cX7_last 145 = .ok (.iinc 4 1, 3) := by decide +kernel
theorem dX7_last_148 : decode cX7_last 148 = .ok (.goto (-37), 3) := by decide +kernel
theorem dX7_last_151 : decode cX7_last 151 = .ok (.iload_n 2, 1) := by decide +kernel
theorem dX7_last_152 : decode cX7_last 152 = .ok (.ifCond .ne 7, 3) := by decide +kernel
theorem dX7_last_155 : decode cX7_last 155 = .ok (.iload_n 3, 1) := by decide +kernel
theorem dX7_last_156 : decode cX7_last 156 = .ok (.goto 9, 3) := by decide +kernel
theorem dX7_last_159 : decode cX7_last 159 = .ok (.aload_n 0, 1) := by decide +kernel
theorem dX7_last_160 : decode cX7_last 160 = .ok (.getfield 36, 3) := by decide +kernel
theorem dX7_last_163 : decode cX7_last 163 = .ok (.iload_n 3, 1) := by decide +kernel
theorem dX7_last_164 : decode cX7_last 164 = .ok (.iaload, 1) := by decide +kernel
theorem dX7_last_165 : decode cX7_last 165 = .ok (.ireturn, 1) := by decide +kernel
theorem dX7_offBy_0 : decode cX7_offBy 0 = .ok (.aload_n 0, 1) := by decide +kernel
theorem dX7_offBy_1 : decode cX7_offBy 1 = .ok (.iload_n 2, 1) := by decide +kernel
theorem dX7_offBy_2 : decode cX7_offBy 2 = .ok (.iconst 2, 1) := by decide +kernel
theorem dX7_offBy_3 : decode cX7_offBy 3 = .ok (.iload_n 3, 1) := by decide +kernel
theorem dX7_offBy_4 : decode cX7_offBy 4 = .ok (.invokevirtual 96, 3) := by decide +kernel
theorem dX7_offBy_7 : decode cX7_offBy 7 = .ok (.lconst 0, 1) := by decide +kernel
theorem dX7_offBy_8 : decode cX7_offBy 8 = .ok (.lstore 4, 2) := by decide +kernel
theorem dX7_offBy_10 : decode cX7_offBy 10 = .ok (.iconst 0, 1) := by decide +kernel
theorem dX7_offBy_11 : decode cX7_offBy 11 = .ok (.istore 6, 2) := by decide +kernel
theorem dX7_offBy_13 : decode cX7_offBy 13 = .ok (.iload 6, 2) := by decide +kernel
theorem dX7_offBy_15 : decode cX7_offBy 15 = .ok (.aload_n 0, 1) := by decide +kernel
theorem dX7_offBy_16 : decode cX7_offBy 16 = .ok (.getfield 67, 3) := by decide +kernel
theorem dX7_offBy_19 : decode cX7_offBy 19 = .ok (.iload_n 1, 1) := by decide +kernel
theorem dX7_offBy_20 : decode cX7_offBy 20 = .ok (.iaload, 1) := by decide +kernel
theorem dX7_offBy_21 : decode cX7_offBy 21 = .ok (.if_icmp .ge 71, 3) := by decide +kernel
theorem dX7_offBy_24 : decode cX7_offBy 24 = .ok (.aload_n 0, 1) := by decide +kernel
theorem dX7_offBy_25 : decode cX7_offBy 25 = .ok (.invokevirtual 163, 3) := by decide +kernel
theorem dX7_offBy_28 : decode cX7_offBy 28 = .ok (.aload_n 0, 1) := by decide +kernel
theorem dX7_offBy_29 : decode cX7_offBy 29 = .ok (.getfield 70, 3) := by decide +kernel
theorem dX7_offBy_32 : decode cX7_offBy 32 = .ok (.bipush 24, 2) := by decide +kernel
theorem dX7_offBy_34 : decode cX7_offBy 34 = .ok (.iload_n 1, 1) := by decide +kernel
theorem dX7_offBy_35 : decode cX7_offBy 35 = .ok (.imul, 1) := by decide +kernel
theorem dX7_offBy_36 : decode cX7_offBy 36 = .ok (.iload 6, 2) := by decide +kernel
theorem dX7_offBy_38 : decode cX7_offBy 38 = .ok (.iadd, 1) := by decide +kernel
theorem dX7_offBy_39 : decode cX7_offBy 39 = .ok (.iaload, 1) := by decide +kernel
theorem dX7_offBy_40 : decode cX7_offBy 40 = .ok (.istore 7, 2) := by decide +kernel
theorem dX7_offBy_42 : decode cX7_offBy 42 = .ok (.iload 7, 2) := by decide +kernel
theorem dX7_offBy_44 : decode cX7_offBy 44 = .ok (.i2l, 1) := by decide +kernel
theorem dX7_offBy_45 : decode cX7_offBy 45 = .ok (.aload_n 0, 1) := by decide +kernel
theorem dX7_offBy_46 : decode cX7_offBy 46 = .ok (.iload_n 2, 1) := by decide +kernel
theorem dX7_offBy_47 : decode cX7_offBy 47 = .ok (.iconst 4, 1) := by decide +kernel
theorem dX7_offBy_48 : decode cX7_offBy 48 = .ok (.invokevirtual 106, 3) := by decide +kernel
theorem dX7_offBy_51 : decode cX7_offBy 51 = .ok (.i2l, 1) := by decide +kernel
theorem dX7_offBy_52 : decode cX7_offBy 52 = .ok (.lsub, 1) := by decide +kernel
theorem dX7_offBy_53 : decode cX7_offBy 53 = .ok (.lstore 8, 2) := by decide +kernel
theorem dX7_offBy_55 : decode cX7_offBy 55 = .ok (.lload 4, 2) := by decide +kernel
theorem dX7_offBy_57 : decode cX7_offBy 57 = .ok (.iload 7, 2) := by decide +kernel
theorem dX7_offBy_59 : decode cX7_offBy 59 = .ok (.ldc 91, 2) := by decide +kernel
theorem dX7_offBy_61 : decode cX7_offBy 61 = .ok (.if_icmp .ne 7, 3) := by decide +kernel
theorem dX7_offBy_64 : decode cX7_offBy 64 = .ok (.lconst 0, 1) := by decide +kernel
theorem dX7_offBy_65 : decode cX7_offBy 65 = .ok (.goto 18, 3) := by decide +kernel
theorem dX7_offBy_68 : decode cX7_offBy 68 = .ok (.lload 8, 2) := by decide +kernel
theorem dX7_offBy_70 : decode cX7_offBy 70 = .ok (.lconst 0, 1) := by decide +kernel
theorem dX7_offBy_71 : decode cX7_offBy 71 = .ok (.lcmp, 1) := by decide +kernel
theorem dX7_offBy_72 : decode cX7_offBy 72 = .ok (.ifCond .ge 9, 3) := by decide +kernel
theorem dX7_offBy_75 : decode cX7_offBy 75 = .ok (.lload 8, 2) := by decide +kernel
theorem dX7_offBy_77 : decode cX7_offBy 77 = .ok (.lneg, 1) := by decide +kernel
theorem dX7_offBy_78 : decode cX7_offBy 78 = .ok (.goto 5, 3) := by decide +kernel
theorem dX7_offBy_81 : decode cX7_offBy 81 = .ok (.lload 8, 2) := by decide +kernel
theorem dX7_offBy_83 : decode cX7_offBy 83 = .ok (.ladd, 1) := by decide +kernel
theorem dX7_offBy_84 : decode cX7_offBy 84 = .ok (.lstore 4, 2) := by decide +kernel
theorem dX7_offBy_86 : decode cX7_offBy 86 = .ok (.iinc 6 1, 3) := by decide +kernel
theorem dX7_offBy_89 : decode cX7_offBy 89 = .ok (.goto (-76), 3) := by decide +kernel
theorem dX7_offBy_92 : decode cX7_offBy 92 = .ok (.aload_n 0, 1) := by decide +kernel
theorem dX7_offBy_93 : decode cX7_offBy 93 = .ok (.invokevirtual 185, 3) := by decide +kernel
theorem dX7_offBy_96 : decode cX7_offBy 96 = .ok (.lload 4, 2) := by decide +kernel
theorem dX7_offBy_98 : decode cX7_offBy 98 = .ok (.lreturn, 1) := by decide +kernel
theorem dX7_oiled_0 : decode cX7_oiled 0 = .ok (.iload_n 1, 1) := by decide +kernel
theorem dX7_oiled_1 : decode cX7_oiled 1 = .ok (.invokestatic 195, 3) := by decide +kernel
theorem dX7_oiled_4 : decode cX7_oiled 4 = .ok (.ifCond .eq 20, 3) := by decide +kernel
theorem dX7_oiled_7 : decode cX7_oiled 7 = .ok (.aload_n 0, 1) := by decide +kernel
theorem dX7_oiled_8 : decode cX7_oiled 8 = .ok (.iload_n 2, 1) := by decide +kernel
theorem dX7_oiled_9 : decode cX7_oiled 9 = .ok (.invokevirtual 121, 3) := by decide +kernel
theorem dX7_oiled_12 : decode cX7_oiled 12 = .ok (.ifCond .eq 12, 3) := by decide +kernel
theorem dX7_oiled_15 : decode cX7_oiled 15 = .ok (.iload_n 3, 1) := by decide +kernel
theorem dX7_oiled_16 : decode cX7_oiled 16 = .ok (.iconst 0, 1) := by decide +kernel
theorem dX7_oiled_17 : decode cX7_oiled 17 = .ok (.iconst 1, 1) := by decide +kernel
theorem dX7_oiled_18 : decode cX7_oiled 18 = .ok (.invokestatic 92, 3) := by decide +kernel
theorem dX7_oiled_21 : decode cX7_oiled 21 = .ok (.ifCond .ne 6, 3) := by decide +kernel
theorem dX7_oiled_24 : decode cX7_oiled 24 = .ok (.ldc 100, 2) := by decide +kernel
theorem dX7_oiled_26 : decode cX7_oiled 26 = .ok (.ireturn, 1) := by decide +kernel
theorem dX7_oiled_27 : decode cX7_oiled 27 = .ok (.aload_n 0, 1) := by decide +kernel
theorem dX7_oiled_28 : decode cX7_oiled 28 = .ok (.getfield 64, 3) := by decide +kernel
theorem dX7_oiled_31 : decode cX7_oiled 31 = .ok (.iload_n 1, 1) := by decide +kernel
theorem dX7_oiled_32 : decode cX7_oiled 32 = .ok (.iaload, 1) := by decide +kernel
theorem dX7_oiled_33 : decode cX7_oiled 33 = .ok (.ifCond .ge 6, 3) := by decide +kernel
theorem dX7_oiled_36 : decode cX7_oiled 36 = .ok (.ldc 198, 2) := by decide +kernel
theorem dX7_oiled_38 : decode cX7_oiled 38 = .ok (.ireturn, 1) := by decide +kernel
theorem dX7_oiled_39 : decode cX7_oiled 39 = .ok (.aload_n 0, 1) := by decide +kernel
theorem dX7_oiled_40 : decode cX7_oiled 40 = .ok (.invokevirtual 173, 3) := by decide +kernel
theorem dX7_oiled_43 : decode cX7_oiled 43 = .ok (.iconst 0, 1) := by decide +kernel
theorem dX7_oiled_44 : decode cX7_oiled 44 = .ok (.istore 4, 2) := by decide +kernel
theorem dX7_oiled_46 : decode cX7_oiled 46 = .ok (.aload_n 0, 1) := by decide +kernel
theorem dX7_oiled_47 : decode cX7_oiled 47 = .ok (.iload_n 1, 1) := by decide +kernel
theorem dX7_oiled_48 : decode cX7_oiled 48 = .ok (.iload_n 2, 1) := by decide +kernel
theorem dX7_oiled_49 : decode cX7_oiled 49 = .ok (.iconst 0, 1) := by decide +kernel
theorem dX7_oiled_50 : decode cX7_oiled 50 = .ok (.invokevirtual 199, 3) := by decide +kernel
theorem dX7_oiled_53 : decode cX7_oiled 53 = .ok (.lstore 5, 2) := by decide +kernel
theorem dX7_oiled_55 : decode cX7_oiled 55 = .ok (.iconst 1, 1) := by decide +kernel
theorem dX7_oiled_56 : decode cX7_oiled 56 = .ok (.istore 7, 2) := by decide +kernel
theorem dX7_oiled_58 : decode cX7_oiled 58 = .ok (.iload 7, 2) := by decide +kernel
theorem dX7_oiled_60 : decode cX7_oiled 60 = .ok (.bipush 100, 2) := by decide +kernel
theorem dX7_oiled_62 : decode cX7_oiled 62 = .ok (.if_icmp .ge 53, 3) := by decide +kernel
theorem dX7_oiled_65 : decode cX7_oiled 65 = .ok (.aload_n 0, 1) := by decide +kernel
theorem dX7_oiled_66 : decode cX7_oiled 66 = .ok (.iload_n 1, 1) := by decide +kernel
theorem dX7_oiled_67 : decode cX7_oiled 67 = .ok (.iload_n 2, 1) := by decide +kernel
theorem dX7_oiled_68 : decode cX7_oiled 68 = .ok (.iload 7, 2) := by decide +kernel
theorem dX7_oiled_70 : decode cX7_oiled 70 = .ok (.invokevirtual 199, 3) := by decide +kernel
theorem dX7_oiled_73 : decode cX7_oiled 73 = .ok (.lstore 8, 2) := by decide +kernel
theorem dX7_oiled_75 : decode cX7_oiled 75 = .ok (.lload 8, 2) := by decide +kernel
theorem dX7_oiled_77 : decode cX7_oiled 77 = .ok (.lload 5, 2) := by decide +kernel
theorem dX7_oiled_79 : decode cX7_oiled 79 = .ok (.lcmp, 1) := by decide +kernel
theorem dX7_oiled_80 : decode cX7_oiled 80 = .ok (.ifCond .ge 8, 3) := by decide +kernel
theorem dX7_oiled_83 : decode cX7_oiled 83 = .ok (.iload 7, 2) := by decide +kernel
theorem dX7_oiled_85 : decode cX7_oiled 85 = .ok (.goto 5, 3) := by decide +kernel
theorem dX7_oiled_88 : decode cX7_oiled 88 = .ok (.iload 4, 2) := by decide +kernel
theorem dX7_oiled_90 : decode cX7_oiled 90 = .ok (.istore 4, 2) := by decide +kernel
theorem dX7_oiled_92 : decode cX7_oiled 92 = .ok (.lload 8, 2) := by decide +kernel
theorem dX7_oiled_94 : decode cX7_oiled 94 = .ok (.lload 5, 2) := by decide +kernel
theorem dX7_oiled_96 : decode cX7_oiled 96 = .ok (.lcmp, 1) := by decide +kernel
theorem dX7_oiled_97 : decode cX7_oiled 97 = .ok (.ifCond .ge 8, 3) := by decide +kernel
theorem dX7_oiled_100 : decode cX7_oiled 100 = .ok (.lload 8, 2) := by decide +kernel
theorem dX7_oiled_102 : decode cX7_oiled 102 = .ok (.goto 5, 3) := by decide +kernel
theorem dX7_oiled_105 : decode cX7_oiled 105 = .ok (.lload 5, 2) := by decide +kernel
theorem dX7_oiled_107 : decode cX7_oiled 107 = .ok (.lstore 5, 2) := by decide +kernel
theorem dX7_oiled_109 : decode cX7_oiled 109 = .ok (.iinc 7 1, 3) := by decide +kernel
theorem dX7_oiled_112 : decode cX7_oiled 112 = .ok (.goto (-54), 3) := by decide +kernel
theorem dX7_oiled_115 : decode cX7_oiled 115 = .ok (.iload_n 3, 1) := by decide +kernel
theorem dX7_oiled_116 : decode cX7_oiled 116 = .ok (.ifCond .ne 8, 3) := by decide +kernel
theorem dX7_oiled_119 : decode cX7_oiled 119 = .ok (.iload 4, 2) := by decide +kernel
theorem dX7_oiled_121 : decode cX7_oiled 121 = .ok (.goto 6, 3) := by decide +kernel
theorem dX7_oiled_124 : decode cX7_oiled 124 = .ok (.lload 5, 2) := by decide +kernel
theorem dX7_oiled_126 : decode cX7_oiled 126 = .ok (.l2i, 1) := by decide +kernel
theorem dX7_oiled_127 : decode cX7_oiled 127 = .ok (.ireturn, 1) := by decide +kernel
theorem dX7_fee_0 : decode cX7_fee 0 = .ok (.aload_n 0, 1) := by decide +kernel
theorem dX7_fee_1 : decode cX7_fee 1 = .ok (.iconst 1, 1) := by decide +kernel
theorem dX7_fee_2 : decode cX7_fee 2 = .ok (.invokevirtual 110, 3) := by decide +kernel
theorem dX7_fee_5 : decode cX7_fee 5 = .ok (.istore_n 1, 1) := by decide +kernel
theorem dX7_fee_6 : decode cX7_fee 6 = .ok (.aload_n 0, 1) := by decide +kernel
theorem dX7_fee_7 : decode cX7_fee 7 = .ok (.getfield 61, 3) := by decide +kernel
theorem dX7_fee_10 : decode cX7_fee 10 = .ok (.iconst 0, 1) := by decide +kernel
theorem dX7_fee_11 : decode cX7_fee 11 = .ok (.aload_n 0, 1) := by decide +kernel
theorem dX7_fee_12 : decode cX7_fee 12 = .ok (.getfield 9, 3) := by decide +kernel
theorem dX7_fee_15 : decode cX7_fee 15 = .ok (.iconst 2, 1) := by decide +kernel
theorem dX7_fee_16 : decode cX7_fee 16 = .ok (.iaload, 1) := by decide +kernel
theorem dX7_fee_17 : decode cX7_fee 17 = .ok (.iastore, 1) := by decide +kernel
theorem dX7_fee_18 : decode cX7_fee 18 = .ok (.aload_n 0, 1) := by decide +kernel
theorem dX7_fee_19 : decode cX7_fee 19 = .ok (.getfield 61, 3) := by decide +kernel
theorem dX7_fee_22 : decode cX7_fee 22 = .ok (.iconst 1, 1) := by decide +kernel
theorem dX7_fee_23 : decode cX7_fee 23 = .ok (.aload_n 0, 1) := by decide +kernel
theorem dX7_fee_24 : decode cX7_fee 24 = .ok (.getfield 9, 3) := by decide +kernel
theorem dX7_fee_27 : decode cX7_fee 27 = .ok (.bipush 6, 2) := by decide +kernel
theorem dX7_fee_29 : decode cX7_fee 29 = .ok (.iaload, 1) := by decide +kernel
theorem dX7_fee_30 : decode cX7_fee 30 = .ok (.iastore, 1) := by decide +kernel
theorem dX7_fee_31 : decode cX7_fee 31 = .ok (.iload_n 1, 1) := by decide +kernel
theorem dX7_fee_32 : decode cX7_fee 32 = .ok (.ifCond .ge 13, 3) := by decide +kernel
theorem dX7_fee_35 : decode cX7_fee 35 = .ok (.aload_n 0, 1) := by decide +kernel
theorem dX7_fee_36 : decode cX7_fee 36 = .ok (.getfield 9, 3) := by decide +kernel
theorem dX7_fee_39 : decode cX7_fee 39 = .ok (.bipush 6, 2) := by decide +kernel
theorem dX7_fee_41 : decode cX7_fee 41 = .ok (.iaload, 1) := by decide +kernel
theorem dX7_fee_42 : decode cX7_fee 42 = .ok (.goto 8, 3) := by decide +kernel
theorem dX7_fee_45 : decode cX7_fee 45 = .ok (.aload_n 0, 1) := by decide +kernel
theorem dX7_fee_46 : decode cX7_fee 46 = .ok (.iload_n 1, 1) := by decide +kernel
theorem dX7_fee_47 : decode cX7_fee 47 = .ok (.invokevirtual 114, 3) := by decide +kernel
theorem dX7_fee_50 : decode cX7_fee 50 = .ok (.ireturn, 1) := by decide +kernel
theorem dX7_fine_0 : decode cX7_fine 0 = .ok (.aload_n 0, 1) := by decide +kernel
theorem dX7_fine_1 : decode cX7_fine 1 = .ok (.iload_n 1, 1) := by decide +kernel
theorem dX7_fine_2 : decode cX7_fine 2 = .ok (.invokevirtual 121, 3) := by decide +kernel
theorem dX7_fine_5 : decode cX7_fine 5 = .ok (.ifCond .ne 6, 3) := by decide +kernel
theorem dX7_fine_8 : decode cX7_fine 8 = .ok (.ldc 100, 2) := by decide +kernel
theorem dX7_fine_10 : decode cX7_fine 10 = .ok (.ireturn, 1) := by decide +kernel
theorem dX7_fine_11 : decode cX7_fine 11 = .ok (.aload_n 0, 1) := by decide +kernel
theorem dX7_fine_12 : decode cX7_fine 12 = .ok (.iconst 2, 1) := by decide +kernel
theorem dX7_fine_13 : decode cX7_fine 13 = .ok (.invokevirtual 110, 3) := by decide +kernel
theorem dX7_fine_16 : decode cX7_fine 16 = .ok (.istore_n 2, 1) := by decide +kernel
theorem dX7_fine_17 : decode cX7_fine 17 = .ok (.aload_n 0, 1) := by decide +kernel
theorem dX7_fine_18 : decode cX7_fine 18 = .ok (.getfield 61, 3) := by decide +kernel
theorem dX7_fine_21 : decode cX7_fine 21 = .ok (.iconst 0, 1) := by decide +kernel
theorem dX7_fine_22 : decode cX7_fine 22 = .ok (.aload_n 0, 1) := by decide +kernel
theorem dX7_fine_23 : decode cX7_fine 23 = .ok (.iload_n 1, 1) := by decide +kernel
theorem dX7_fine_24 : decode cX7_fine 24 = .ok (.iconst 3, 1) := by decide +kernel
theorem dX7_fine_25 : decode cX7_fine 25 = .ok (.invokevirtual 106, 3) := by decide +kernel
theorem dX7_fine_28 : decode cX7_fine 28 = .ok (.iastore, 1) := by decide +kernel
theorem dX7_fine_29 : decode cX7_fine 29 = .ok (.aload_n 0, 1) := by decide +kernel
theorem dX7_fine_30 : decode cX7_fine 30 = .ok (.getfield 61, 3) := by decide +kernel
theorem dX7_fine_33 : decode cX7_fine 33 = .ok (.iconst 1, 1) := by decide +kernel
theorem dX7_fine_34 : decode cX7_fine 34 = .ok (.aload_n 0, 1) := by decide +kernel
theorem dX7_fine_35 : decode cX7_fine 35 = .ok (.iload_n 1, 1) := by decide +kernel
theorem dX7_fine_36 : decode cX7_fine 36 = .ok (.bipush 6, 2) := by decide +kernel
theorem dX7_fine_38 : decode cX7_fine 38 = .ok (.invokevirtual 106, 3) := by decide +kernel
theorem dX7_fine_41 : decode cX7_fine 41 = .ok (.iastore, 1) := by decide +kernel
theorem dX7_fine_42 : decode cX7_fine 42 = .ok (.iload_n 2, 1) := by decide +kernel
theorem dX7_fine_43 : decode cX7_fine 43 = .ok (.ifCond .ge 13, 3) := by decide +kernel
theorem dX7_fine_46 : decode cX7_fine 46 = .ok (.aload_n 0, 1) := by decide +kernel
theorem dX7_fine_47 : decode cX7_fine 47 = .ok (.iload_n 1, 1) := by decide +kernel
theorem dX7_fine_48 : decode cX7_fine 48 = .ok (.bipush 6, 2) := by decide +kernel
theorem dX7_fine_50 : decode cX7_fine 50 = .ok (.invokevirtual 106, 3) := by decide +kernel
theorem dX7_fine_53 : decode cX7_fine 53 = .ok (.goto 8, 3) := by decide +kernel
theorem dX7_fine_56 : decode cX7_fine 56 = .ok (.aload_n 0, 1) := by decide +kernel
theorem dX7_fine_57 : decode cX7_fine 57 = .ok (.iload_n 2, 1) := by decide +kernel
theorem dX7_fine_58 : decode cX7_fine 58 = .ok (.invokevirtual 114, 3) := by decide +kernel
theorem dX7_fine_61 : decode cX7_fine 61 = .ok (.ireturn, 1) := by decide +kernel
theorem dX7_feed_0 : decode cX7_feed 0 = .ok (.aload_n 0, 1) := by decide +kernel
theorem dX7_feed_1 : decode cX7_feed 1 = .ok (.getfield 203, 3) := by decide +kernel
theorem dX7_feed_4 : decode cX7_feed 4 = .ok (.bipush 12, 2) := by decide +kernel
theorem dX7_feed_6 : decode cX7_feed 6 = .ok (.iadd, 1) := by decide +kernel
theorem dX7_feed_7 : decode cX7_feed 7 = .ok (.bipush 96, 2) := by decide +kernel
theorem dX7_feed_9 : decode cX7_feed 9 = .ok (.if_icmp .le 6, 3) := by decide +kernel
theorem dX7_feed_12 : decode cX7_feed 12 = .ok (.ldc 101, 2) := by decide +kernel
theorem dX7_feed_14 : decode cX7_feed 14 = .ok (.ireturn, 1) := by decide +kernel
theorem dX7_feed_15 : decode cX7_feed 15 = .ok (.iconst 0, 1) := by decide +kernel
theorem dX7_feed_16 : decode cX7_feed 16 = .ok (.istore 4, 2) := by decide +kernel
theorem dX7_feed_18 : decode cX7_feed 18 = .ok (.iload 4, 2) := by decide +kernel
theorem dX7_feed_20 : decode cX7_feed 20 = .ok (.bipush 12, 2) := by decide +kernel
theorem dX7_feed_22 : decode cX7_feed 22 = .ok (.if_icmp .ge 62, 3) := by decide +kernel
theorem dX7_feed_25 : decode cX7_feed 25 = .ok (.iload 4, 2) := by decide +kernel
theorem dX7_feed_27 : decode cX7_feed 27 = .ok (.iconst 4, 1) := by decide +kernel
theorem dX7_feed_28 : decode cX7_feed 28 = .ok (.if_icmp .ge 7, 3) := by decide +kernel
theorem dX7_feed_31 : decode cX7_feed 31 = .ok (.iload_n 1, 1) := by decide +kernel
theorem dX7_feed_32 : decode cX7_feed 32 = .ok (.goto 15, 3) := by decide +kernel
theorem dX7_feed_35 : decode cX7_feed 35 = .ok (.iload 4, 2) := by decide +kernel
theorem dX7_feed_37 : decode cX7_feed 37 = .ok (.bipush 8, 2) := by decide +kernel
theorem dX7_feed_39 : decode cX7_feed 39 = .ok (.if_icmp .ge 7, 3) := by decide +kernel
theorem dX7_feed_42 : decode cX7_feed 42 = .ok (.iload_n 2, 1) := by decide +kernel
theorem dX7_feed_43 : decode cX7_feed 43 = .ok (.goto 4, 3) := by decide +kernel
theorem dX7_feed_46 : decode cX7_feed 46 = .ok (.iload_n 3, 1) := by decide +kernel
theorem dX7_feed_47 : decode cX7_feed 47 = .ok (.istore 5, 2) := by decide +kernel
theorem dX7_feed_49 : decode cX7_feed 49 = .ok (.aload_n 0, 1) := by decide +kernel
theorem dX7_feed_50 : decode cX7_feed 50 = .ok (.getfield 39, 3) := by decide +kernel
theorem dX7_feed_53 : decode cX7_feed 53 = .ok (.aload_n 0, 1) := by decide +kernel
theorem dX7_feed_54 : decode cX7_feed 54 = .ok (.getfield 203, 3) := by decide +kernel
theorem dX7_feed_57 : decode cX7_feed 57 = .ok (.iload 4, 2) := by decide +kernel
theorem dX7_feed_59 : decode cX7_feed 59 = .ok (.iadd, 1) := by decide +kernel
theorem dX7_feed_60 : decode cX7_feed 60 = .ok (.iload 5, 2) := by decide +kernel
theorem dX7_feed_62 : decode cX7_feed 62 = .ok (.bipush 24, 2) := by decide +kernel
theorem dX7_feed_64 : decode cX7_feed 64 = .ok (.bipush 8, 2) := by decide +kernel
theorem dX7_feed_66 : decode cX7_feed 66 = .ok (.iload 4, 2) := by decide +kernel
theorem dX7_feed_68 : decode cX7_feed 68 = .ok (.iconst 4, 1) := by decide +kernel
theorem dX7_feed_69 : decode cX7_feed 69 = .ok (.irem, 1) := by decide +kernel
theorem dX7_feed_70 : decode cX7_feed 70 = .ok (.imul, 1) := by decide +kernel
theorem dX7_feed_71 : decode cX7_feed 71 = .ok (.isub, 1) := by decide +kernel
theorem dX7_feed_72 : decode cX7_feed 72 = .ok (.ishr, 1) := by decide +kernel
theorem dX7_feed_73 : decode cX7_feed 73 = .ok (.sipush 255, 3) := by decide +kernel
theorem dX7_feed_76 : decode cX7_feed 76 = .ok (.iand, 1) := by decide +kernel
theorem dX7_feed_77 : decode cX7_feed 77 = .ok (.iastore, 1) := by decide +kernel
theorem dX7_feed_78 : decode cX7_feed 78 = .ok (.iinc 4 1, 3) := by decide +kernel
theorem dX7_feed_81 : decode cX7_feed 81 = .ok (.goto (-63), 3) := by decide +kernel
theorem dX7_feed_84 : decode cX7_feed 84 = .ok (.aload_n 0, 1) := by decide +kernel
theorem dX7_feed_85 : decode cX7_feed 85 = .ok (.dup, 1) := by decide +kernel
theorem dX7_feed_86 : decode cX7_feed 86 = .ok (.getfield 203, 3) := by decide +kernel
theorem dX7_feed_89 : decode cX7_feed 89 = .ok (.bipush 12, 2) := by decide +kernel
theorem dX7_feed_91 : decode cX7_feed 91 = .ok (.iadd, 1) := by decide +kernel
theorem dX7_feed_92 : decode cX7_feed 92 = .ok (.putfield 203, 3) := by decide +kernel
theorem dX7_feed_95 : decode cX7_feed 95 = .ok (.aload_n 0, 1) := by decide +kernel
theorem dX7_feed_96 : decode cX7_feed 96 = .ok (.getfield 203, 3) := by decide +kernel
theorem dX7_feed_99 : decode cX7_feed 99 = .ok (.ireturn, 1) := by decide +kernel
theorem dX7_trim_0 : decode cX7_trim 0 = .ok (.iload_n 1, 1) := by decide +kernel
theorem dX7_trim_1 : decode cX7_trim 1 = .ok (.iconst 0, 1) := by decide +kernel
theorem dX7_trim_2 : decode cX7_trim 2 = .ok (.aload_n 0, 1) := by decide +kernel
theorem dX7_trim_3 : decode cX7_trim 3 = .ok (.getfield 203, 3) := by decide +kernel
theorem dX7_trim_6 : decode cX7_trim 6 = .ok (.invokestatic 92, 3) := by decide +kernel
theorem dX7_trim_9 : decode cX7_trim 9 = .ok (.ifCond .ne 6, 3) := by decide +kernel
theorem dX7_trim_12 : decode cX7_trim 12 = .ok (.ldc 100, 2) := by decide +kernel
theorem dX7_trim_14 : decode cX7_trim 14 = .ok (.ireturn, 1) := by decide +kernel
theorem dX7_trim_15 : decode cX7_trim 15 = .ok (.aload_n 0, 1) := by decide +kernel
theorem dX7_trim_16 : decode cX7_trim 16 = .ok (.iload_n 1, 1) := by decide +kernel
theorem dX7_trim_17 : decode cX7_trim 17 = .ok (.putfield 203, 3) := by decide +kernel
theorem dX7_trim_20 : decode cX7_trim 20 = .ok (.iload_n 1, 1) := by decide +kernel
theorem dX7_trim_21 : decode cX7_trim 21 = .ok (.ireturn, 1) := by decide +kernel
theorem dX7_isLetter_0 : decode cX7_isLetter 0 = .ok (.iload_n 1, 1) := by decide +kernel
theorem dX7_isLetter_1 : decode cX7_isLetter 1 = .ok (.aload_n 0, 1) := by decide +kernel
theorem dX7_isLetter_2 : decode cX7_isLetter 2 = .ok (.getfield 203, 3) := by decide +kernel
theorem dX7_isLetter_5 : decode cX7_isLetter 5 = .ok (.if_icmp .ge 29, 3) := by decide +kernel
theorem dX7_isLetter_8 : decode cX7_isLetter 8 = .ok (.aload_n 0, 1) := by decide +kernel
theorem dX7_isLetter_9 : decode cX7_isLetter 9 = .ok (.getfield 39, 3) := by decide +kernel
theorem dX7_isLetter_12 : decode cX7_isLetter 12 = .ok (.iload_n 1, 1) := by decide +kernel
theorem dX7_isLetter_13 : decode cX7_isLetter 13 = .ok (.iaload, 1) := by decide +kernel
theorem dX7_isLetter_14 : decode cX7_isLetter 14 = .ok (.bipush 97, 2) := by decide +kernel
theorem dX7_isLetter_16 : decode cX7_isLetter 16 = .ok (.if_icmp .lt 18, 3) := by decide +kernel
theorem dX7_isLetter_19 : decode cX7_isLetter 19 = .ok (.aload_n 0, 1) := by decide +kernel
theorem dX7_isLetter_20 : decode cX7_isLetter 20 = .ok (.getfield 39, 3) := by decide +kernel
theorem dX7_isLetter_23 : decode cX7_isLetter 23 = .ok (.iload_n 1, 1) := by decide +kernel
theorem dX7_isLetter_24 : decode cX7_isLetter 24 = .ok (.iaload, 1) := by decide +kernel
theorem dX7_isLetter_25 : decode cX7_isLetter 25 = .ok (.bipush 122, 2) := by decide +kernel
theorem dX7_isLetter_27 : decode cX7_isLetter 27 = .ok (.if_icmp .gt 7, 3) := by decide +kernel
theorem dX7_isLetter_30 : decode cX7_isLetter 30 = .ok (.iconst 1, 1) := by decide +kernel
theorem dX7_isLetter_31 : decode cX7_isLetter 31 = .ok (.goto 4, 3) := by decide +kernel
theorem dX7_isLetter_34 : decode cX7_isLetter 34 = .ok (.iconst 0, 1) := by decide +kernel
theorem dX7_isLetter_35 : decode cX7_isLetter 35 = .ok (.ireturn, 1) := by decide +kernel
theorem dX7_isFigure_0 : decode cX7_isFigure 0 = .ok (.iload_n 1, 1) := by decide +kernel
theorem dX7_isFigure_1 : decode cX7_isFigure 1 = .ok (.aload_n 0, 1) := by decide +kernel
theorem dX7_isFigure_2 : decode cX7_isFigure 2 = .ok (.getfield 203, 3) := by decide +kernel
theorem dX7_isFigure_5 : decode cX7_isFigure 5 = .ok (.if_icmp .ge 29, 3) := by decide +kernel
theorem dX7_isFigure_8 : decode cX7_isFigure 8 = .ok (.aload_n 0, 1) := by decide +kernel
theorem dX7_isFigure_9 : decode cX7_isFigure 9 = .ok (.getfield 39, 3) := by decide +kernel
theorem dX7_isFigure_12 : decode cX7_isFigure 12 = .ok (.iload_n 1, 1) := by decide +kernel
theorem dX7_isFigure_13 : decode cX7_isFigure 13 = .ok (.iaload, 1) := by decide +kernel
theorem dX7_isFigure_14 : decode cX7_isFigure 14 = .ok (.bipush 48, 2) := by decide +kernel
theorem dX7_isFigure_16 : decode cX7_isFigure 16 = .ok (.if_icmp .lt 18, 3) := by decide +kernel
theorem dX7_isFigure_19 : decode cX7_isFigure 19 = .ok (.aload_n 0, 1) := by decide +kernel
theorem dX7_isFigure_20 : decode cX7_isFigure 20 = .ok (.getfield 39, 3) := by decide +kernel
theorem dX7_isFigure_23 : decode cX7_isFigure 23 = .ok (.iload_n 1, 1) := by decide +kernel
theorem dX7_isFigure_24 : decode cX7_isFigure 24 = .ok (.iaload, 1) := by decide +kernel
theorem dX7_isFigure_25 : decode cX7_isFigure 25 = .ok (.bipush 57, 2) := by decide +kernel
theorem dX7_isFigure_27 : decode cX7_isFigure 27 = .ok (.if_icmp .gt 7, 3) := by decide +kernel
theorem dX7_isFigure_30 : decode cX7_isFigure 30 = .ok (.iconst 1, 1) := by decide +kernel
theorem dX7_isFigure_31 : decode cX7_isFigure 31 = .ok (.goto 4, 3) := by decide +kernel
theorem dX7_isFigure_34 : decode cX7_isFigure 34 = .ok (.iconst 0, 1) := by decide +kernel
theorem dX7_isFigure_35 : decode cX7_isFigure 35 = .ok (.ireturn, 1) := by decide +kernel
theorem dX7_go_0 : decode cX7_go 0 = .ok (.aload_n 0, 1) := by decide +kernel
theorem dX7_go_1 : decode cX7_go 1 = .ok (.getfield 206, 3) := by decide +kernel
theorem dX7_go_4 : decode cX7_go 4 = .ok (.aload_n 0, 1) := by decide +kernel
theorem dX7_go_5 : decode cX7_go 5 = .ok (.getfield 203, 3) := by decide +kernel
theorem dX7_go_8 : decode cX7_go 8 = .ok (.if_icmp .ge 30, 3) := by decide +kernel
theorem dX7_go_11 : decode cX7_go 11 = .ok (.aload_n 0, 1) := by decide +kernel
theorem dX7_go_12 : decode cX7_go 12 = .ok (.getfield 39, 3) := by decide +kernel
theorem dX7_go_15 : decode cX7_go 15 = .ok (.aload_n 0, 1) := by decide +kernel
theorem dX7_go_16 : decode cX7_go 16 = .ok (.getfield 206, 3) := by decide +kernel
theorem dX7_go_19 : decode cX7_go 19 = .ok (.iaload, 1) := by decide +kernel
theorem dX7_go_20 : decode cX7_go 20 = .ok (.bipush 32, 2) := by decide +kernel
theorem dX7_go_22 : decode cX7_go 22 = .ok (.if_icmp .ne 16, 3) := by decide +kernel
theorem dX7_go_25 : decode cX7_go 25 = .ok (.aload_n 0, 1) := by decide +kernel
theorem dX7_go_26 : decode cX7_go 26 = .ok (.dup, 1) := by decide +kernel
theorem dX7_go_27 : decode cX7_go 27 = .ok (.getfield 206, 3) := by decide +kernel
theorem dX7_go_30 : decode cX7_go 30 = .ok (.iconst 1, 1) := by decide +kernel
theorem dX7_go_31 : decode cX7_go 31 = .ok (.iadd, 1) := by decide +kernel
theorem dX7_go_32 : decode cX7_go 32 = .ok (.putfield 206, 3) := by decide +kernel
theorem dX7_go_35 : decode cX7_go 35 = .ok (.goto (-35), 3) := by decide +kernel
theorem dX7_go_38 : decode cX7_go 38 = .ok (.aload_n 0, 1) := by decide +kernel
theorem dX7_go_39 : decode cX7_go 39 = .ok (.aload_n 0, 1) := by decide +kernel
theorem dX7_go_40 : decode cX7_go 40 = .ok (.getfield 206, 3) := by decide +kernel
theorem dX7_go_43 : decode cX7_go 43 = .ok (.putfield 209, 3) := by decide +kernel
theorem dX7_go_46 : decode cX7_go 46 = .ok (.aload_n 0, 1) := by decide +kernel
theorem dX7_go_47 : decode cX7_go 47 = .ok (.getfield 209, 3) := by decide +kernel
theorem dX7_go_50 : decode cX7_go 50 = .ok (.aload_n 0, 1) := by decide +kernel
theorem dX7_go_51 : decode cX7_go 51 = .ok (.getfield 212, 3) := by decide +kernel
theorem dX7_go_54 : decode cX7_go 54 = .ok (.if_icmp .ne 7, 3) := by decide +kernel
theorem dX7_go_57 : decode cX7_go 57 = .ok (.iconst 1, 1) := by decide +kernel
theorem dX7_go_58 : decode cX7_go 58 = .ok (.goto 4, 3) := by decide +kernel
theorem dX7_go_61 : decode cX7_go 61 = .ok (.iconst 0, 1) := by decide +kernel
theorem dX7_go_62 : decode cX7_go 62 = .ok (.istore_n 1, 1) := by decide +kernel
theorem dX7_go_63 : decode cX7_go 63 = .ok (.aload_n 0, 1) := by decide +kernel
theorem dX7_go_64 : decode cX7_go 64 = .ok (.getfield 209, 3) := by decide +kernel
theorem dX7_go_67 : decode cX7_go 67 = .ok (.aload_n 0, 1) := by decide +kernel
theorem dX7_go_68 : decode cX7_go 68 = .ok (.getfield 203, 3) := by decide +kernel
theorem dX7_go_71 : decode cX7_go 71 = .ok (.if_icmp .ne 11, 3) := by decide +kernel
theorem dX7_go_74 : decode cX7_go 74 = .ok (.aload_n 0, 1) := by decide +kernel
theorem dX7_go_75 : decode cX7_go 75 = .ok (.iconst 0, 1) := by decide +kernel
theorem dX7_go_76 : decode cX7_go 76 = .ok (.putfield 215, 3) := by decide +kernel
theorem dX7_go_79 : decode cX7_go 79 = .ok (.goto 224, 3) := by decide +kernel
theorem dX7_go_82 : decode cX7_go 82 = .ok (.aload_n 0, 1) := by decide +kernel
theorem dX7_go_83 : decode cX7_go 83 = .ok (.aload_n 0, 1) := by decide +kernel
theorem dX7_go_84 : decode cX7_go 84 = .ok (.getfield 209, 3) := by decide +kernel
theorem dX7_go_87 : decode cX7_go 87 = .ok (.invokevirtual 218, 3) := by decide +kernel
theorem dX7_go_90 : decode cX7_go 90 = .ok (.ifCond .eq 64, 3) := by decide +kernel
theorem dX7_go_93 : decode cX7_go 93 = .ok (.aload_n 0, 1) := by decide +kernel
theorem dX7_go_94 : decode cX7_go 94 = .ok (.aload_n 0, 1) := by decide +kernel
theorem dX7_go_95 : decode cX7_go 95 = .ok (.getfield 206, 3) := by decide +kernel
theorem dX7_go_98 : decode cX7_go 98 = .ok (.invokevirtual 218, 3) := by decide +kernel
theorem dX7_go_101 : decode cX7_go 101 = .ok (.ifCond .eq 16, 3) := by decide +kernel
theorem dX7_go_104 : decode cX7_go 104 = .ok (.aload_n 0, 1) := by decide +kernel
theorem dX7_go_105 : decode cX7_go 105 = .ok (.dup, 1) := by decide +kernel
theorem dX7_go_106 : decode cX7_go 106 = .ok (.getfield 206, 3) := by decide +kernel
theorem dX7_go_109 : decode cX7_go 109 = .ok (.iconst 1, 1) := by decide +kernel
theorem dX7_go_110 : decode cX7_go 110 = .ok (.iadd, 1) := by decide +kernel
theorem dX7_go_111 : decode cX7_go 111 = .ok (.putfield 206, 3) := by decide +kernel
theorem dX7_go_114 : decode cX7_go 114 = .ok (.goto (-21), 3) := by decide +kernel
theorem dX7_go_117 : decode cX7_go 117 = .ok (.aload_n 0, 1) := by decide +kernel
theorem dX7_go_118 : decode cX7_go 118 = .ok (.iload_n 1, 1) := by decide +kernel
theorem dX7_go_119 : decode cX7_go 119 = .ok (.ifCond .eq 7, 3) := by decide +kernel
theorem dX7_go_122 : decode cX7_go 122 = .ok (.iconst 4, 1) := by decide +kernel
theorem dX7_go_123 : decode cX7_go 123 = .ok (.goto 4, 3) := by decide +kernel
theorem dX7_go_126 : decode cX7_go 126 = .ok (.iconst 1, 1) := by decide +kernel
theorem dX7_go_127 : decode cX7_go 127 = .ok (.putfield 215, 3) := by decide +kernel
theorem dX7_go_130 : decode cX7_go 130 = .ok (.aload_n 0, 1) := by decide +kernel
theorem dX7_go_131 : decode cX7_go 131 = .ok (.aload_n 0, 1) := by decide +kernel
theorem dX7_go_132 : decode cX7_go 132 = .ok (.getfield 39, 3) := by decide +kernel
theorem dX7_go_135 : decode cX7_go 135 = .ok (.aload_n 0, 1) := by decide +kernel
theorem dX7_go_136 : decode cX7_go 136 = .ok (.getfield 209, 3) := by decide +kernel
theorem dX7_go_139 : decode cX7_go 139 = .ok (.iaload, 1) := by decide +kernel
theorem dX7_go_140 : decode cX7_go 140 = .ok (.putfield 221, 3) := by decide +kernel
theorem dX7_go_143 : decode cX7_go 143 = .ok (.aload_n 0, 1) := by decide +kernel
theorem dX7_go_144 : decode cX7_go 144 = .ok (.aload_n 0, 1) := by decide +kernel
theorem dX7_go_145 : decode cX7_go 145 = .ok (.getfield 206, 3) := by decide +kernel
theorem dX7_go_148 : decode cX7_go 148 = .ok (.putfield 212, 3) := by decide +kernel
theorem dX7_go_151 : decode cX7_go 151 = .ok (.goto 152, 3) := by decide +kernel
theorem dX7_go_154 : decode cX7_go 154 = .ok (.aload_n 0, 1) := by decide +kernel
theorem dX7_go_155 : decode cX7_go 155 = .ok (.aload_n 0, 1) := by decide +kernel
theorem dX7_go_156 : decode cX7_go 156 = .ok (.getfield 209, 3) := by decide +kernel
theorem dX7_go_159 : decode cX7_go 159 = .ok (.invokevirtual 224, 3) := by decide +kernel
theorem dX7_go_162 : decode cX7_go 162 = .ok (.ifCond .eq 113, 3) := by decide +kernel
theorem dX7_go_165 : decode cX7_go 165 = .ok (.aload_n 0, 1) := by decide +kernel
theorem dX7_go_166 : decode cX7_go 166 = .ok (.iconst 0, 1) := by decide +kernel
theorem dX7_go_167 : decode cX7_go 167 = .ok (.putfield 221, 3) := by decide +kernel
theorem dX7_go_170 : decode cX7_go 170 = .ok (.aload_n 0, 1) := by decide +kernel
theorem dX7_go_171 : decode cX7_go 171 = .ok (.aload_n 0, 1) := by decide +kernel
theorem dX7_go_172 : decode cX7_go 172 = .ok (.getfield 206, 3) := by decide +kernel
theorem dX7_go_175 : decode cX7_go 175 = .ok (.invokevirtual 224, 3) := by decide +kernel
theorem dX7_go_178 : decode cX7_go 178 = .ok (.ifCond .eq 60, 3) := by decide +kernel
theorem dX7_go_181 : decode cX7_go 181 = .ok (.aload_n 0, 1) := by decide +kernel
theorem dX7_go_182 : decode cX7_go 182 = .ok (.aload_n 0, 1) := by decide +kernel
theorem dX7_go_183 : decode cX7_go 183 = .ok (.getfield 206, 3) := by decide +kernel
theorem dX7_go_186 : decode cX7_go 186 = .ok (.aload_n 0, 1) := by decide +kernel
theorem dX7_go_187 : decode cX7_go 187 = .ok (.getfield 209, 3) := by decide +kernel
theorem dX7_go_190 : decode cX7_go 190 = .ok (.isub, 1) := by decide +kernel
theorem dX7_go_191 : decode cX7_go 191 = .ok (.iconst 4, 1) := by decide +kernel
theorem dX7_go_192 : decode cX7_go 192 = .ok (.if_icmp .ge 26, 3) := by decide +kernel
theorem dX7_go_195 : decode cX7_go 195 = .ok (.bipush 10, 2) := by decide +kernel
theorem dX7_go_197 : decode cX7_go 197 = .ok (.aload_n 0, 1) := by decide +kernel
theorem dX7_go_198 : decode cX7_go 198 = .ok (.getfield 221, 3) := by decide +kernel
theorem dX7_go_201 : decode cX7_go 201 = .ok (.imul, 1) := by decide +kernel
theorem dX7_go_202 : decode cX7_go 202 = .ok (.aload_n 0, 1) := by decide +kernel
theorem dX7_go_203 : decode cX7_go 203 = .ok (.getfield 39, 3) := by decide +kernel
theorem dX7_go_206 : decode cX7_go 206 = .ok (.aload_n 0, 1) := by decide +kernel
theorem dX7_go_207 : decode cX7_go 207 = .ok (.getfield 206, 3) := by decide +kernel
theorem dX7_go_210 : decode cX7_go 210 = .ok (.iaload, 1) := by decide +kernel
theorem dX7_go_211 : decode cX7_go 211 = .ok (.iadd, 1) := by decide +kernel
theorem dX7_go_212 : decode cX7_go 212 = .ok (.bipush 48, 2) := by decide +kernel
theorem dX7_go_214 : decode cX7_go 214 = .ok (.isub, 1) := by decide +kernel
theorem dX7_go_215 : decode cX7_go 215 = .ok (.goto 7, 3) := by decide +kernel
theorem dX7_go_218 : decode cX7_go 218 = .ok (.aload_n 0, 1) := by decide +kernel
theorem dX7_go_219 : decode cX7_go 219 = .ok (.getfield 221, 3) := by decide +kernel
theorem dX7_go_222 : decode cX7_go 222 = .ok (.putfield 221, 3) := by decide +kernel
theorem dX7_go_225 : decode cX7_go 225 = .ok (.aload_n 0, 1) := by decide +kernel
theorem dX7_go_226 : decode cX7_go 226 = .ok (.dup, 1) := by decide +kernel
theorem dX7_go_227 : decode cX7_go 227 = .ok (.getfield 206, 3) := by decide +kernel
theorem dX7_go_230 : decode cX7_go 230 = .ok (.iconst 1, 1) := by decide +kernel
theorem dX7_go_231 : decode cX7_go 231 = .ok (.iadd, 1) := by decide +kernel
theorem dX7_go_232 : decode cX7_go 232 = .ok (.putfield 206, 3) := by decide +kernel
theorem dX7_go_235 : decode cX7_go 235 = .ok (.goto (-65), 3) := by decide +kernel
theorem dX7_go_238 : decode cX7_go 238 = .ok (.aload_n 0, 1) := by decide +kernel
theorem dX7_go_239 : decode cX7_go 239 = .ok (.iload_n 1, 1) := by decide +kernel
theorem dX7_go_240 : decode cX7_go 240 = .ok (.ifCond .ne 16, 3) := by decide +kernel
theorem dX7_go_243 : decode cX7_go 243 = .ok (.aload_n 0, 1) := by decide +kernel
theorem dX7_go_244 : decode cX7_go 244 = .ok (.getfield 206, 3) := by decide +kernel
theorem dX7_go_247 : decode cX7_go 247 = .ok (.aload_n 0, 1) := by decide +kernel
theorem dX7_go_248 : decode cX7_go 248 = .ok (.getfield 209, 3) := by decide +kernel
theorem dX7_go_251 : decode cX7_go 251 = .ok (.isub, 1) := by decide +kernel
theorem dX7_go_252 : decode cX7_go 252 = .ok (.iconst 4, 1) := by decide +kernel
theorem dX7_go_253 : decode cX7_go 253 = .ok (.if_icmp .le 7, 3) := by decide +kernel
theorem dX7_go_256 : decode cX7_go 256 = .ok (.iconst 4, 1) := by decide +kernel
theorem dX7_go_257 : decode cX7_go 257 = .ok (.goto 4, 3) := by decide +kernel
theorem dX7_go_260 : decode cX7_go 260 = .ok (.iconst 2, 1) := by decide +kernel
theorem dX7_go_261 : decode cX7_go 261 = .ok (.putfield 215, 3) := by decide +kernel
theorem dX7_go_264 : decode cX7_go 264 = .ok (.aload_n 0, 1) := by decide +kernel
theorem dX7_go_265 : decode cX7_go 265 = .ok (.aload_n 0, 1) := by decide +kernel
theorem dX7_go_266 : decode cX7_go 266 = .ok (.getfield 206, 3) := by decide +kernel
theorem dX7_go_269 : decode cX7_go 269 = .ok (.putfield 212, 3) := by decide +kernel
theorem dX7_go_272 : decode cX7_go 272 = .ok (.goto 31, 3) := by decide +kernel
theorem dX7_go_275 : decode cX7_go 275 = .ok (.aload_n 0, 1) := by decide +kernel
theorem dX7_go_276 : decode cX7_go 276 = .ok (.iconst 3, 1) := by decide +kernel
theorem dX7_go_277 : decode cX7_go 277 = .ok (.putfield 215, 3) := by decide +kernel
theorem dX7_go_280 : decode cX7_go 280 = .ok (.aload_n 0, 1) := by decide +kernel
theorem dX7_go_281 : decode cX7_go 281 = .ok (.aload_n 0, 1) := by decide +kernel
theorem dX7_go_282 : decode cX7_go 282 = .ok (.getfield 39, 3) := by decide +kernel
theorem dX7_go_285 : decode cX7_go 285 = .ok (.aload_n 0, 1) := by decide +kernel
theorem dX7_go_286 : decode cX7_go 286 = .ok (.getfield 209, 3) := by decide +kernel
theorem dX7_go_289 : decode cX7_go 289 = .ok (.iaload, 1) := by decide +kernel
theorem dX7_go_290 : decode cX7_go 290 = .ok (.putfield 221, 3) := by decide +kernel
theorem dX7_go_293 : decode cX7_go 293 = .ok (.aload_n 0, 1) := by decide +kernel
theorem dX7_go_294 : decode cX7_go 294 = .ok (.dup, 1) := by decide +kernel
theorem dX7_go_295 : decode cX7_go 295 = .ok (.getfield 206, 3) := by decide +kernel
theorem dX7_go_298 : decode cX7_go 298 = .ok (.iconst 1, 1) := by decide +kernel
theorem dX7_go_299 : decode cX7_go 299 = .ok (.iadd, 1) := by decide +kernel
theorem dX7_go_300 : decode cX7_go 300 = .ok (.putfield 206, 3) := by decide +kernel
theorem dX7_go_303 : decode cX7_go 303 = .ok (.return_, 1) := by decide +kernel
theorem dX7_takesKey_0 : decode cX7_takesKey 0 = .ok (.aload_n 0, 1) := by decide +kernel
theorem dX7_takesKey_1 : decode cX7_takesKey 1 = .ok (.getfield 215, 3) := by decide +kernel
theorem dX7_takesKey_4 : decode cX7_takesKey 4 = .ok (.iconst 1, 1) := by decide +kernel
theorem dX7_takesKey_5 : decode cX7_takesKey 5 = .ok (.if_icmp .eq 5, 3) := by decide +kernel
theorem dX7_takesKey_8 : decode cX7_takesKey 8 = .ok (.iconst 0, 1) := by decide +kernel
theorem dX7_takesKey_9 : decode cX7_takesKey 9 = .ok (.ireturn, 1) := by decide +kernel
theorem dX7_takesKey_10 : decode cX7_takesKey 10 = .ok (.iconst 0, 1) := by decide +kernel
theorem dX7_takesKey_11 : decode cX7_takesKey 11 = .ok (.istore_n 1, 1) := by decide +kernel
theorem dX7_takesKey_12 : decode cX7_takesKey 12 = .ok (.iload_n 1, 1) := by decide +kernel
theorem dX7_takesKey_13 : decode cX7_takesKey 13 = .ok (.iconst 3, 1) := by decide +kernel
theorem dX7_takesKey_14 : decode cX7_takesKey 14 = .ok (.if_icmp .ge 113, 3) := by decide +kernel
theorem dX7_takesKey_17 : decode cX7_takesKey 17 = .ok (.aload_n 0, 1) := by decide +kernel
theorem dX7_takesKey_18 : decode cX7_takesKey 18 = .ok (.getfield 46, 3) := by decide +kernel
theorem dX7_takesKey_21 : decode cX7_takesKey 21 = .ok (.iload_n 1, 1) := by decide +kernel
theorem dX7_takesKey_22 : decode cX7_takesKey 22 = .ok (.iconst 1, 1) := by decide +kernel
theorem dX7_takesKey_23 : decode cX7_takesKey 23 = .ok (.iadd, 1) := by decide +kernel
theorem dX7_takesKey_24 : decode cX7_takesKey 24 = .ok (.iaload, 1) := by decide +kernel
theorem dX7_takesKey_25 : decode cX7_takesKey 25 = .ok (.aload_n 0, 1) := by decide +kernel
theorem dX7_takesKey_26 : decode cX7_takesKey 26 = .ok (.getfield 46, 3) := by decide +kernel
theorem dX7_takesKey_29 : decode cX7_takesKey 29 = .ok (.iload_n 1, 1) := by decide +kernel
theorem dX7_takesKey_30 : decode cX7_takesKey 30 = .ok (.iaload, 1) := by decide +kernel
theorem dX7_takesKey_31 : decode cX7_takesKey 31 = .ok (.isub, 1) := by decide +kernel
theorem dX7_takesKey_32 : decode cX7_takesKey 32 = .ok (.istore_n 2, 1) := by decide +kernel
theorem dX7_takesKey_33 : decode cX7_takesKey 33 = .ok (.iload_n 2, 1) := by decide +kernel
theorem dX7_takesKey_34 : decode cX7_takesKey 34 = .ok (.aload_n 0, 1) := by decide +kernel
theorem dX7_takesKey_35 : decode cX7_takesKey 35 = .ok (.getfield 206, 3) := by decide +kernel
theorem dX7_takesKey_38 : decode cX7_takesKey 38 = .ok (.aload_n 0, 1) := by decide +kernel
theorem dX7_takesKey_39 : decode cX7_takesKey 39 = .ok (.getfield 209, 3) := by decide +kernel
theorem dX7_takesKey_42 : decode cX7_takesKey 42 = .ok (.isub, 1) := by decide +kernel
theorem dX7_takesKey_43 : decode cX7_takesKey 43 = .ok (.if_icmp .ne 7, 3) := by decide +kernel
theorem dX7_takesKey_46 : decode cX7_takesKey 46 = .ok (.iconst 1, 1) := by decide +kernel
theorem dX7_takesKey_47 : decode cX7_takesKey 47 = .ok (.goto 4, 3) := by decide +kernel
theorem dX7_takesKey_50 : decode cX7_takesKey 50 = .ok (.iconst 0, 1) := by decide +kernel
theorem dX7_takesKey_51 : decode cX7_takesKey 51 = .ok (.istore_n 3, 1) := by decide +kernel
theorem dX7_takesKey_52 : decode cX7_takesKey 52 = .ok (.iconst 0, 1) := by decide +kernel
theorem dX7_takesKey_53 : decode cX7_takesKey 53 = .ok (.istore 4, 2) := by decide +kernel
theorem dX7_takesKey_55 : decode cX7_takesKey 55 = .ok (.iload 4, 2) := by decide +kernel
theorem dX7_takesKey_57 : decode cX7_takesKey 57 = .ok (.iload_n 2, 1) := by decide +kernel
theorem dX7_takesKey_58 : decode cX7_takesKey 58 = .ok (.if_icmp .ge 48, 3) := by decide +kernel
theorem dX7_takesKey_61 : decode cX7_takesKey 61 = .ok (.iload_n 3, 1) := by decide +kernel
theorem dX7_takesKey_62 : decode cX7_takesKey 62 = .ok (.ifCond .eq 44, 3) := by decide +kernel
theorem dX7_takesKey_65 : decode cX7_takesKey 65 = .ok (.aload_n 0, 1) := by decide +kernel
theorem dX7_takesKey_66 : decode cX7_takesKey 66 = .ok (.getfield 39, 3) := by decide +kernel
theorem dX7_takesKey_69 : decode cX7_takesKey 69 = .ok (.aload_n 0, 1) := by decide +kernel
theorem dX7_takesKey_70 : decode cX7_takesKey 70 = .ok (.getfield 209, 3) := by decide +kernel
theorem dX7_takesKey_73 : decode cX7_takesKey 73 = .ok (.iload 4, 2) := by decide +kernel
theorem dX7_takesKey_75 : decode cX7_takesKey 75 = .ok (.iadd, 1) := by decide +kernel
theorem dX7_takesKey_76 : decode cX7_takesKey 76 = .ok (.iaload, 1) := by decide +kernel
theorem dX7_takesKey_77 : decode cX7_takesKey 77 = .ok (.aload_n 0, 1) := by decide +kernel
theorem dX7_takesKey_78 : decode cX7_takesKey 78 = .ok (.getfield 42, 3) := by decide +kernel
theorem dX7_takesKey_81 : decode cX7_takesKey 81 = .ok (.aload_n 0, 1) := by decide +kernel
theorem dX7_takesKey_82 : decode cX7_takesKey 82 = .ok (.getfield 46, 3) := by decide +kernel
theorem dX7_takesKey_85 : decode cX7_takesKey 85 = .ok (.iload_n 1, 1) := by decide +kernel
theorem dX7_takesKey_86 : decode cX7_takesKey 86 = .ok (.iaload, 1) := by decide +kernel
theorem dX7_takesKey_87 : decode cX7_takesKey 87 = .ok (.iload 4, 2) := by decide +kernel
theorem dX7_takesKey_89 : decode cX7_takesKey 89 = .ok (.iadd, 1) := by decide +kernel
theorem dX7_takesKey_90 : decode cX7_takesKey 90 = .ok (.caload, 1) := by decide +kernel
theorem dX7_takesKey_91 : decode cX7_takesKey 91 = .ok (.if_icmp .ne 7, 3) := by decide +kernel
theorem dX7_takesKey_94 : decode cX7_takesKey 94 = .ok (.iconst 1, 1) := by decide +kernel
theorem dX7_takesKey_95 : decode cX7_takesKey 95 = .ok (.goto 4, 3) := by decide +kernel
theorem dX7_takesKey_98 : decode cX7_takesKey 98 = .ok (.iconst 0, 1) := by decide +kernel
theorem dX7_takesKey_99 : decode cX7_takesKey 99 = .ok (.istore_n 3, 1) := by decide +kernel
theorem dX7_takesKey_100 : decode cX7_takesKey 100 = .ok (.iinc 4 1, 3) := by decide +kernel
theorem dX7_takesKey_103 : decode cX7_takesKey 103 = .ok (.goto (-48), 3) := by decide +kernel
theorem dX7_takesKey_106 : decode cX7_takesKey 106 = .ok (.iload_n 3, 1) := by decide +kernel
theorem dX7_takesKey_107 : decode cX7_takesKey 107 = .ok (.ifCond .eq 14, 3) := by decide +kernel
theorem dX7_takesKey_110 : decode cX7_takesKey 110 = .ok (.aload_n 0, 1) := by decide +kernel
theorem dX7_takesKey_111 : decode cX7_takesKey 111 = .ok (.iload_n 1, 1) := by decide +kernel
theorem dX7_takesKey_112 : decode cX7_takesKey 112 = .ok (.putfield 227, 3) := by decide +kernel
theorem dX7_takesKey_115 : decode cX7_takesKey 115 = .ok (.aload_n 0, 1) := by decide +kernel
theorem dX7_takesKey_116 : decode cX7_takesKey 116 = .ok (.invokevirtual 230, 3) := by decide +kernel
theorem dX7_takesKey_119 : decode cX7_takesKey 119 = .ok (.iconst 1, 1) := by decide +kernel
theorem dX7_takesKey_120 : decode cX7_takesKey 120 = .ok (.ireturn, 1) := by decide +kernel
theorem dX7_takesKey_121 : decode cX7_takesKey 121 = .ok (.iinc 1 1, 3) := by decide +kernel
theorem dX7_takesKey_124 : decode cX7_takesKey 124 = .ok (.goto (-112), 3) := by decide +kernel
theorem dX7_takesKey_127 : decode cX7_takesKey 127 = .ok (.iconst 0, 1) := by decide +kernel
theorem dX7_takesKey_128 : decode cX7_takesKey 128 = .ok (.ireturn, 1) := by decide +kernel
theorem dX7_nameOf_0 : decode cX7_nameOf 0 = .ok (.aload_n 0, 1) := by decide +kernel
theorem dX7_nameOf_1 : decode cX7_nameOf 1 = .ok (.getfield 227, 3) := by decide +kernel
theorem dX7_nameOf_4 : decode cX7_nameOf 4 = .ok (.lookupswitch 82 #[(0, 28), (1, 60)], 28) := by decide +kernel
theorem dX7_nameOf_32 : decode cX7_nameOf 32 = .ok (.iload_n 1, 1) := by decide +kernel
theorem dX7_nameOf_33 : decode cX7_nameOf 33 = .ok (.bipush 111, 2) := by decide +kernel
theorem dX7_nameOf_35 : decode cX7_nameOf 35 = .ok (.if_icmp .ne 7, 3) := by decide +kernel
theorem dX7_nameOf_38 : decode cX7_nameOf 38 = .ok (.iconst 0, 1) := by decide +kernel
theorem dX7_nameOf_39 : decode cX7_nameOf 39 = .ok (.goto 24, 3) := by decide +kernel
theorem dX7_nameOf_42 : decode cX7_nameOf 42 = .ok (.iload_n 1, 1) := by decide +kernel
theorem dX7_nameOf_43 : decode cX7_nameOf 43 = .ok (.bipush 119, 2) := by decide +kernel
theorem dX7_nameOf_45 : decode cX7_nameOf 45 = .ok (.if_icmp .ne 7, 3) := by decide +kernel
theorem dX7_nameOf_48 : decode cX7_nameOf 48 = .ok (.iconst 1, 1) := by decide +kernel
theorem dX7_nameOf_49 : decode cX7_nameOf 49 = .ok (.goto 14, 3) := by decide +kernel
theorem dX7_nameOf_52 : decode cX7_nameOf 52 = .ok (.iload_n 1, 1) := by decide +kernel
theorem dX7_nameOf_53 : decode cX7_nameOf 53 = .ok (.bipush 115, 2) := by decide +kernel
theorem dX7_nameOf_55 : decode cX7_nameOf 55 = .ok (.if_icmp .ne 7, 3) := by decide +kernel
theorem dX7_nameOf_58 : decode cX7_nameOf 58 = .ok (.iconst 2, 1) := by decide +kernel
theorem dX7_nameOf_59 : decode cX7_nameOf 59 = .ok (.goto 4, 3) := by decide +kernel
theorem dX7_nameOf_62 : decode cX7_nameOf 62 = .ok (.iconst (-1), 1) := by decide +kernel
theorem dX7_nameOf_63 : decode cX7_nameOf 63 = .ok (.ireturn, 1) := by decide +kernel
theorem dX7_nameOf_64 : decode cX7_nameOf 64 = .ok (.iload_n 1, 1) := by decide +kernel
theorem dX7_nameOf_65 : decode cX7_nameOf 65 = .ok (.bipush 110, 2) := by decide +kernel
theorem dX7_nameOf_67 : decode cX7_nameOf 67 = .ok (.if_icmp .ne 7, 3) := by decide +kernel
theorem dX7_nameOf_70 : decode cX7_nameOf 70 = .ok (.iconst 0, 1) := by decide +kernel
theorem dX7_nameOf_71 : decode cX7_nameOf 71 = .ok (.goto 14, 3) := by decide +kernel
theorem dX7_nameOf_74 : decode cX7_nameOf 74 = .ok (.iload_n 1, 1) := by decide +kernel
theorem dX7_nameOf_75 : decode cX7_nameOf 75 = .ok (.bipush 119, 2) := by decide +kernel
theorem dX7_nameOf_77 : decode cX7_nameOf 77 = .ok (.if_icmp .ne 7, 3) := by decide +kernel
theorem dX7_nameOf_80 : decode cX7_nameOf 80 = .ok (.iconst 1, 1) := by decide +kernel
theorem dX7_nameOf_81 : decode cX7_nameOf 81 = .ok (.goto 4, 3) := by decide +kernel
theorem dX7_nameOf_84 : decode cX7_nameOf 84 = .ok (.iconst (-1), 1) := by decide +kernel
theorem dX7_nameOf_85 : decode cX7_nameOf 85 = .ok (.ireturn, 1) := by decide +kernel
theorem dX7_nameOf_86 : decode cX7_nameOf 86 = .ok (.iload_n 1, 1) := by decide +kernel
theorem dX7_nameOf_87 : decode cX7_nameOf 87 = .ok (.bipush 112, 2) := by decide +kernel
theorem dX7_nameOf_89 : decode cX7_nameOf 89 = .ok (.if_icmp .ne 7, 3) := by decide +kernel
theorem dX7_nameOf_92 : decode cX7_nameOf 92 = .ok (.iconst 0, 1) := by decide +kernel
theorem dX7_nameOf_93 : decode cX7_nameOf 93 = .ok (.goto 14, 3) := by decide +kernel
theorem dX7_nameOf_96 : decode cX7_nameOf 96 = .ok (.iload_n 1, 1) := by decide +kernel
theorem dX7_nameOf_97 : decode cX7_nameOf 97 = .ok (.bipush 100, 2) := by decide +kernel
theorem dX7_nameOf_99 : decode cX7_nameOf 99 = .ok (.if_icmp .ne 7, 3) := by decide +kernel
theorem dX7_nameOf_102 : decode cX7_nameOf 102 = .ok (.iconst 1, 1) := by decide +kernel
theorem dX7_nameOf_103 : decode cX7_nameOf 103 = .ok (.goto 4, 3) := by decide +kernel
theorem dX7_nameOf_106 : decode cX7_nameOf 106 = .ok (.iconst (-1), 1) := by decide +kernel
theorem dX7_nameOf_107 : decode cX7_nameOf 107 = .ok (.ireturn, 1) := by decide +kernel
theorem dX7_rank_0 : decode cX7_rank 0 = .ok (.iload_n 0, 1) := by decide +kernel
theorem dX7_rank_1 : decode cX7_rank 1 = .ok (.iconst (-1), 1) := by decide +kernel
theorem dX7_rank_2 : decode cX7_rank 2 = .ok (.if_icmp .ne 7, 3) := by decide +kernel
theorem dX7_rank_5 : decode cX7_rank 5 = .ok (.iconst 1, 1) := by decide +kernel
theorem dX7_rank_6 : decode cX7_rank 6 = .ok (.goto 45, 3) := by decide +kernel
theorem dX7_rank_9 : decode cX7_rank 9 = .ok (.iload_n 0, 1) := by decide +kernel
theorem dX7_rank_10 : decode cX7_rank 10 = .ok (.bipush (-2), 2) := by decide +kernel
theorem dX7_rank_12 : decode cX7_rank 12 = .ok (.if_icmp .ne 7, 3) := by decide +kernel
theorem dX7_rank_15 : decode cX7_rank 15 = .ok (.iconst 2, 1) := by decide +kernel
theorem dX7_rank_16 : decode cX7_rank 16 = .ok (.goto 35, 3) := by decide +kernel
theorem dX7_rank_19 : decode cX7_rank 19 = .ok (.iload_n 0, 1) := by decide +kernel
theorem dX7_rank_20 : decode cX7_rank 20 = .ok (.bipush (-5), 2) := by decide +kernel
theorem dX7_rank_22 : decode cX7_rank 22 = .ok (.if_icmp .lt 7, 3) := by decide +kernel
theorem dX7_rank_25 : decode cX7_rank 25 = .ok (.iconst 3, 1) := by decide +kernel
theorem dX7_rank_26 : decode cX7_rank 26 = .ok (.goto 25, 3) := by decide +kernel
theorem dX7_rank_29 : decode cX7_rank 29 = .ok (.iload_n 0, 1) := by decide +kernel
theorem dX7_rank_30 : decode cX7_rank 30 = .ok (.bipush (-7), 2) := by decide +kernel
theorem dX7_rank_32 : decode cX7_rank 32 = .ok (.if_icmp .lt 7, 3) := by decide +kernel
theorem dX7_rank_35 : decode cX7_rank 35 = .ok (.iconst 4, 1) := by decide +kernel
theorem dX7_rank_36 : decode cX7_rank 36 = .ok (.goto 15, 3) := by decide +kernel
theorem dX7_rank_39 : decode cX7_rank 39 = .ok (.iload_n 0, 1) := by decide +kernel
theorem dX7_rank_40 : decode cX7_rank 40 = .ok (.bipush (-9), 2) := by decide +kernel
theorem dX7_rank_42 : decode cX7_rank 42 = .ok (.if_icmp .lt 7, 3) := by decide +kernel
theorem dX7_rank_45 : decode cX7_rank 45 = .ok (.iconst 5, 1) := by decide +kernel
theorem dX7_rank_46 : decode cX7_rank 46 = .ok (.goto 5, 3) := by decide +kernel
theorem dX7_rank_49 : decode cX7_rank 49 = .ok (.bipush 6, 2) := by decide +kernel
theorem dX7_rank_51 : decode cX7_rank 51 = .ok (.ireturn, 1) := by decide +kernel
theorem dX7_settle_0 : decode cX7_settle 0 = .ok (.aload_n 0, 1) := by decide +kernel
theorem dX7_settle_1 : decode cX7_settle 1 = .ok (.getfield 233, 3) := by decide +kernel
theorem dX7_settle_4 : decode cX7_settle 4 = .ok (.ifCond .le 78, 3) := by decide +kernel
theorem dX7_settle_7 : decode cX7_settle 7 = .ok (.aload_n 0, 1) := by decide +kernel
theorem dX7_settle_8 : decode cX7_settle 8 = .ok (.getfield 52, 3) := by decide +kernel
theorem dX7_settle_11 : decode cX7_settle 11 = .ok (.aload_n 0, 1) := by decide +kernel
theorem dX7_settle_12 : decode cX7_settle 12 = .ok (.getfield 233, 3) := by decide +kernel
theorem dX7_settle_15 : decode cX7_settle 15 = .ok (.iconst 1, 1) := by decide +kernel
theorem dX7_settle_16 : decode cX7_settle 16 = .ok (.isub, 1) := by decide +kernel
theorem dX7_settle_17 : decode cX7_settle 17 = .ok (.iaload, 1) := by decide +kernel
theorem dX7_settle_18 : decode cX7_settle 18 = .ok (.bipush (-11), 2) := by decide +kernel
theorem dX7_settle_20 : decode cX7_settle 20 = .ok (.if_icmp .eq 62, 3) := by decide +kernel
theorem dX7_settle_23 : decode cX7_settle 23 = .ok (.aload_n 0, 1) := by decide +kernel
theorem dX7_settle_24 : decode cX7_settle 24 = .ok (.getfield 52, 3) := by decide +kernel
theorem dX7_settle_27 : decode cX7_settle 27 = .ok (.aload_n 0, 1) := by decide +kernel
theorem dX7_settle_28 : decode cX7_settle 28 = .ok (.getfield 233, 3) := by decide +kernel
theorem dX7_settle_31 : decode cX7_settle 31 = .ok (.iconst 1, 1) := by decide +kernel
theorem dX7_settle_32 : decode cX7_settle 32 = .ok (.isub, 1) := by decide +kernel
theorem dX7_settle_33 : decode cX7_settle 33 = .ok (.iaload, 1) := by decide +kernel
theorem dX7_settle_34 : decode cX7_settle 34 = .ok (.invokestatic 236, 3) := by decide +kernel
theorem dX7_settle_37 : decode cX7_settle 37 = .ok (.iload_n 1, 1) := by decide +kernel
theorem dX7_settle_38 : decode cX7_settle 38 = .ok (.if_icmp .lt 44, 3) := by decide +kernel
theorem dX7_settle_41 : decode cX7_settle 41 = .ok (.aload_n 0, 1) := by decide +kernel
theorem dX7_settle_42 : decode cX7_settle 42 = .ok (.dup, 1) := by decide +kernel
theorem dX7_settle_43 : decode cX7_settle 43 = .ok (.getfield 233, 3) := by decide +kernel
theorem dX7_settle_46 : decode cX7_settle 46 = .ok (.iconst 1, 1) := by decide +kernel
theorem dX7_settle_47 : decode cX7_settle 47 = .ok (.isub, 1) := by decide +kernel
theorem dX7_settle_48 : decode cX7_settle 48 = .ok (.putfield 233, 3) := by decide +kernel
theorem dX7_settle_51 : decode cX7_settle 51 = .ok (.aload_n 0, 1) := by decide +kernel
theorem dX7_settle_52 : decode cX7_settle 52 = .ok (.getfield 49, 3) := by decide +kernel
theorem dX7_settle_55 : decode cX7_settle 55 = .ok (.aload_n 0, 1) := by decide +kernel
theorem dX7_settle_56 : decode cX7_settle 56 = .ok (.getfield 239, 3) := by decide +kernel
theorem dX7_settle_59 : decode cX7_settle 59 = .ok (.aload_n 0, 1) := by decide +kernel
theorem dX7_settle_60 : decode cX7_settle 60 = .ok (.getfield 52, 3) := by decide +kernel
theorem dX7_settle_63 : decode cX7_settle 63 = .ok (.aload_n 0, 1) := by decide +kernel
theorem dX7_settle_64 : decode cX7_settle 64 = .ok (.getfield 233, 3) := by decide +kernel
theorem dX7_settle_67 : decode cX7_settle 67 = .ok (.iaload, 1) := by decide +kernel
theorem dX7_settle_68 : decode cX7_settle 68 = .ok (.iastore, 1) := by decide +kernel
theorem dX7_settle_69 : decode cX7_settle 69 = .ok (.aload_n 0, 1) := by decide +kernel
theorem dX7_settle_70 : decode cX7_settle 70 = .ok (.dup, 1) := by decide +kernel
theorem dX7_settle_71 : decode cX7_settle 71 = .ok (.getfield 239, 3) := by decide +kernel
theorem dX7_settle_74 : decode cX7_settle 74 = .ok (.iconst 1, 1) := by decide +kernel
theorem dX7_settle_75 : decode cX7_settle 75 = .ok (.iadd, 1) := by decide +kernel
theorem dX7_settle_76 : decode cX7_settle 76 = .ok (.putfield 239, 3) := by decide +kernel
theorem dX7_settle_79 : decode cX7_settle 79 = .ok (.goto (-79), 3) := by decide +kernel
theorem dX7_settle_82 : decode cX7_settle 82 = .ok (.return_, 1) := by decide +kernel
theorem dX7_signHere_0 : decode cX7_signHere 0 = .ok (.aload_n 0, 1) := by decide +kernel
theorem dX7_signHere_1 : decode cX7_signHere 1 = .ok (.getfield 215, 3) := by decide +kernel
theorem dX7_signHere_4 : decode cX7_signHere 4 = .ok (.iconst 3, 1) := by decide +kernel
theorem dX7_signHere_5 : decode cX7_signHere 5 = .ok (.if_icmp .eq 5, 3) := by decide +kernel
theorem dX7_signHere_8 : decode cX7_signHere 8 = .ok (.iconst 0, 1) := by decide +kernel
theorem dX7_signHere_9 : decode cX7_signHere 9 = .ok (.ireturn, 1) := by decide +kernel
theorem dX7_signHere_10 : decode cX7_signHere 10 = .ok (.aload_n 0, 1) := by decide +kernel
theorem dX7_signHere_11 : decode cX7_signHere 11 = .ok (.getfield 221, 3) := by decide +kernel
theorem dX7_signHere_14 : decode cX7_signHere 14 = .ok (.lookupswitch 108 #[(38, 84), (42, 102), (43, 96), (45, 99), (47, 105), (60, 87), (61, 90), (62, 93), (124, 82)], 82) := by decide +kernel
theorem dX7_signHere_96 : decode cX7_signHere 96 = .ok (.iconst (-1), 1) := by decide +kernel
theorem dX7_signHere_97 : decode cX7_signHere 97 = .ok (.ireturn, 1) := by decide +kernel
theorem dX7_signHere_98 : decode cX7_signHere 98 = .ok (.bipush (-2), 2) := by decide +kernel
theorem dX7_signHere_100 : decode cX7_signHere 100 = .ok (.ireturn, 1) := by decide +kernel
theorem dX7_signHere_101 : decode cX7_signHere 101 = .ok (.bipush (-3), 2) := by decide +kernel
theorem dX7_signHere_103 : decode cX7_signHere 103 = .ok (.ireturn, 1) := by decide +kernel
theorem dX7_signHere_104 : decode cX7_signHere 104 = .ok (.bipush (-4), 2) := by decide +kernel
theorem dX7_signHere_106 : decode cX7_signHere 106 = .ok (.ireturn, 1) := by decide +kernel
theorem dX7_signHere_107 : decode cX7_signHere 107 = .ok (.bipush (-5), 2) := by decide +kernel
theorem dX7_signHere_109 : decode cX7_signHere 109 = .ok (.ireturn, 1) := by decide +kernel
theorem dX7_signHere_110 : decode cX7_signHere 110 = .ok (.bipush (-6), 2) := by decide +kernel
theorem dX7_signHere_112 : decode cX7_signHere 112 = .ok (.ireturn, 1) := by decide +kernel
theorem dX7_signHere_113 : decode cX7_signHere 113 = .ok (.bipush (-7), 2) := by decide +kernel
theorem dX7_signHere_115 : decode cX7_signHere 115 = .ok (.ireturn, 1) := by decide +kernel
theorem dX7_signHere_116 : decode cX7_signHere 116 = .ok (.bipush (-8), 2) := by decide +kernel
theorem dX7_signHere_118 : decode cX7_signHere 118 = .ok (.ireturn, 1) := by decide +kernel
theorem dX7_signHere_119 : decode cX7_signHere 119 = .ok (.bipush (-9), 2) := by decide +kernel
theorem dX7_signHere_121 : decode cX7_signHere 121 = .ok (.ireturn, 1) := by decide +kernel
theorem dX7_signHere_122 : decode cX7_signHere 122 = .ok (.iconst 0, 1) := by decide +kernel
theorem dX7_signHere_123 : decode cX7_signHere 123 = .ok (.ireturn, 1) := by decide +kernel
theorem dX7_takesPart_0 : decode cX7_takesPart 0 = .ok (.aload_n 0, 1) := by decide +kernel
theorem dX7_takesPart_1 : decode cX7_takesPart 1 = .ok (.getfield 215, 3) := by decide +kernel
theorem dX7_takesPart_4 : decode cX7_takesPart 4 = .ok (.iconst 1, 1) := by decide +kernel
theorem dX7_takesPart_5 : decode cX7_takesPart 5 = .ok (.if_icmp .ne 31, 3) := by decide +kernel
theorem dX7_takesPart_8 : decode cX7_takesPart 8 = .ok (.aload_n 0, 1) := by decide +kernel
theorem dX7_takesPart_9 : decode cX7_takesPart 9 = .ok (.getfield 206, 3) := by decide +kernel
theorem dX7_takesPart_12 : decode cX7_takesPart 12 = .ok (.aload_n 0, 1) := by decide +kernel
theorem dX7_takesPart_13 : decode cX7_takesPart 13 = .ok (.getfield 209, 3) := by decide +kernel
theorem dX7_takesPart_16 : decode cX7_takesPart 16 = .ok (.isub, 1) := by decide +kernel
theorem dX7_takesPart_17 : decode cX7_takesPart 17 = .ok (.iconst 1, 1) := by decide +kernel
theorem dX7_takesPart_18 : decode cX7_takesPart 18 = .ok (.if_icmp .ne 18, 3) := by decide +kernel
theorem dX7_takesPart_21 : decode cX7_takesPart 21 = .ok (.aload_n 0, 1) := by decide +kernel
theorem dX7_takesPart_22 : decode cX7_takesPart 22 = .ok (.aload_n 0, 1) := by decide +kernel
theorem dX7_takesPart_23 : decode cX7_takesPart 23 = .ok (.getfield 221, 3) := by decide +kernel
theorem dX7_takesPart_26 : decode cX7_takesPart 26 = .ok (.invokevirtual 242, 3) := by decide +kernel
theorem dX7_takesPart_29 : decode cX7_takesPart 29 = .ok (.ifCond .lt 7, 3) := by decide +kernel
theorem dX7_takesPart_32 : decode cX7_takesPart 32 = .ok (.iconst 1, 1) := by decide +kernel
theorem dX7_takesPart_33 : decode cX7_takesPart 33 = .ok (.goto 4, 3) := by decide +kernel
theorem dX7_takesPart_36 : decode cX7_takesPart 36 = .ok (.iconst 0, 1) := by decide +kernel
theorem dX7_takesPart_37 : decode cX7_takesPart 37 = .ok (.istore_n 1, 1) := by decide +kernel
theorem dX7_takesPart_38 : decode cX7_takesPart 38 = .ok (.aload_n 0, 1) := by decide +kernel
theorem dX7_takesPart_39 : decode cX7_takesPart 39 = .ok (.getfield 215, 3) := by decide +kernel
theorem dX7_takesPart_42 : decode cX7_takesPart 42 = .ok (.iconst 2, 1) := by decide +kernel
theorem dX7_takesPart_43 : decode cX7_takesPart 43 = .ok (.if_icmp .eq 9, 3) := by decide +kernel
theorem dX7_takesPart_46 : decode cX7_takesPart 46 = .ok (.iload_n 1, 1) := by decide +kernel
theorem dX7_takesPart_47 : decode cX7_takesPart 47 = .ok (.ifCond .ne 5, 3) := by decide +kernel
theorem dX7_takesPart_50 : decode cX7_takesPart 50 = .ok (.iconst 0, 1) := by decide +kernel
theorem dX7_takesPart_51 : decode cX7_takesPart 51 = .ok (.ireturn, 1) := by decide +kernel
theorem dX7_takesPart_52 : decode cX7_takesPart 52 = .ok (.aload_n 0, 1) := by decide +kernel
theorem dX7_takesPart_53 : decode cX7_takesPart 53 = .ok (.getfield 49, 3) := by decide +kernel
theorem dX7_takesPart_56 : decode cX7_takesPart 56 = .ok (.aload_n 0, 1) := by decide +kernel
theorem dX7_takesPart_57 : decode cX7_takesPart 57 = .ok (.getfield 239, 3) := by decide +kernel
theorem dX7_takesPart_60 : decode cX7_takesPart 60 = .ok (.aload_n 0, 1) := by decide +kernel
theorem dX7_takesPart_61 : decode cX7_takesPart 61 = .ok (.getfield 215, 3) := by decide +kernel
theorem dX7_takesPart_64 : decode cX7_takesPart 64 = .ok (.iconst 2, 1) := by decide +kernel
theorem dX7_takesPart_65 : decode cX7_takesPart 65 = .ok (.if_icmp .ne 10, 3) := by decide +kernel
theorem dX7_takesPart_68 : decode cX7_takesPart 68 = .ok (.aload_n 0, 1) := by decide +kernel
theorem dX7_takesPart_69 : decode cX7_takesPart 69 = .ok (.getfield 221, 3) := by decide +kernel
theorem dX7_takesPart_72 : decode cX7_takesPart 72 = .ok (.goto 15, 3) := by decide +kernel
theorem dX7_takesPart_75 : decode cX7_takesPart 75 = .ok (.sipush 10000, 3) := by decide +kernel
theorem dX7_takesPart_78 : decode cX7_takesPart 78 = .ok (.aload_n 0, 1) := by decide +kernel
theorem dX7_takesPart_79 : decode cX7_takesPart 79 = .ok (.aload_n 0, 1) := by decide +kernel
theorem dX7_takesPart_80 : decode cX7_takesPart 80 = .ok (.getfield 221, 3) := by decide +kernel
theorem dX7_takesPart_83 : decode cX7_takesPart 83 = .ok (.invokevirtual 242, 3) := by decide +kernel
theorem dX7_takesPart_86 : decode cX7_takesPart 86 = .ok (.iadd, 1) := by decide +kernel
theorem dX7_takesPart_87 : decode cX7_takesPart 87 = .ok (.iastore, 1) := by decide +kernel
theorem dX7_takesPart_88 : decode cX7_takesPart 88 = .ok (.aload_n 0, 1) := by decide +kernel
theorem dX7_takesPart_89 : decode cX7_takesPart 89 = .ok (.dup, 1) := by decide +kernel
theorem dX7_takesPart_90 : decode cX7_takesPart 90 = .ok (.getfield 239, 3) := by decide +kernel
theorem dX7_takesPart_93 : decode cX7_takesPart 93 = .ok (.iconst 1, 1) := by decide +kernel
theorem dX7_takesPart_94 : decode cX7_takesPart 94 = .ok (.iadd, 1) := by decide +kernel
theorem dX7_takesPart_95 : decode cX7_takesPart 95 = .ok (.putfield 239, 3) := by decide +kernel
theorem dX7_takesPart_98 : decode cX7_takesPart 98 = .ok (.aload_n 0, 1) := by decide +kernel
theorem dX7_takesPart_99 : decode cX7_takesPart 99 = .ok (.dup, 1) := by decide +kernel
theorem dX7_takesPart_100 : decode cX7_takesPart 100 = .ok (.getfield 245, 3) := by decide +kernel
theorem dX7_takesPart_103 : decode cX7_takesPart 103 = .ok (.iconst 1, 1) := by decide +kernel
theorem dX7_takesPart_104 : decode cX7_takesPart 104 = .ok (.iadd, 1) := by decide +kernel
theorem dX7_takesPart_105 : decode cX7_takesPart 105 = .ok (.putfield 245, 3) := by decide +kernel
theorem dX7_takesPart_108 : decode cX7_takesPart 108 = .ok (.aload_n 0, 1) := by decide +kernel
theorem dX7_takesPart_109 : decode cX7_takesPart 109 = .ok (.bipush 6, 2) := by decide +kernel
theorem dX7_takesPart_111 : decode cX7_takesPart 111 = .ok (.invokevirtual 248, 3) := by decide +kernel
theorem dX7_takesPart_114 : decode cX7_takesPart 114 = .ok (.aload_n 0, 1) := by decide +kernel
theorem dX7_takesPart_115 : decode cX7_takesPart 115 = .ok (.invokevirtual 230, 3) := by decide +kernel
theorem dX7_takesPart_118 : decode cX7_takesPart 118 = .ok (.iconst 1, 1) := by decide +kernel
theorem dX7_takesPart_119 : decode cX7_takesPart 119 = .ok (.ireturn, 1) := by decide +kernel
theorem dX7_takesE_0 : decode cX7_takesE 0 = .ok (.iconst 0, 1) := by decide +kernel
theorem dX7_takesE_1 : decode cX7_takesE 1 = .ok (.istore_n 1, 1) := by decide +kernel
theorem dX7_takesE_2 : decode cX7_takesE 2 = .ok (.iconst 0, 1) := by decide +kernel
theorem dX7_takesE_3 : decode cX7_takesE 3 = .ok (.istore_n 2, 1) := by decide +kernel
theorem dX7_takesE_4 : decode cX7_takesE 4 = .ok (.iconst 1, 1) := by decide +kernel
theorem dX7_takesE_5 : decode cX7_takesE 5 = .ok (.istore_n 3, 1) := by decide +kernel
theorem dX7_takesE_6 : decode cX7_takesE 6 = .ok (.aload_n 0, 1) := by decide +kernel
theorem dX7_takesE_7 : decode cX7_takesE 7 = .ok (.iconst 0, 1) := by decide +kernel
theorem dX7_takesE_8 : decode cX7_takesE 8 = .ok (.putfield 239, 3) := by decide +kernel
theorem dX7_takesE_11 : decode cX7_takesE 11 = .ok (.aload_n 0, 1) := by decide +kernel
theorem dX7_takesE_12 : decode cX7_takesE 12 = .ok (.iconst 0, 1) := by decide +kernel
theorem dX7_takesE_13 : decode cX7_takesE 13 = .ok (.putfield 245, 3) := by decide +kernel
theorem dX7_takesE_16 : decode cX7_takesE 16 = .ok (.aload_n 0, 1) := by decide +kernel
theorem dX7_takesE_17 : decode cX7_takesE 17 = .ok (.iconst 0, 1) := by decide +kernel
theorem dX7_takesE_18 : decode cX7_takesE 18 = .ok (.putfield 233, 3) := by decide +kernel
theorem dX7_takesE_21 : decode cX7_takesE 21 = .ok (.aload_n 0, 1) := by decide +kernel
theorem dX7_takesE_22 : decode cX7_takesE 22 = .ok (.getfield 55, 3) := by decide +kernel
theorem dX7_takesE_25 : decode cX7_takesE 25 = .ok (.iconst 0, 1) := by decide +kernel
theorem dX7_takesE_26 : decode cX7_takesE 26 = .ok (.iconst 0, 1) := by decide +kernel
theorem dX7_takesE_27 : decode cX7_takesE 27 = .ok (.bastore, 1) := by decide +kernel
theorem dX7_takesE_28 : decode cX7_takesE 28 = .ok (.iload_n 3, 1) := by decide +kernel
theorem dX7_takesE_29 : decode cX7_takesE 29 = .ok (.ifCond .ne 10, 3) := by decide +kernel
theorem dX7_takesE_32 : decode cX7_takesE 32 = .ok (.aload_n 0, 1) := by decide +kernel
theorem dX7_takesE_33 : decode cX7_takesE 33 = .ok (.getfield 215, 3) := by decide +kernel
theorem dX7_takesE_36 : decode cX7_takesE 36 = .ok (.ifCond .eq 309, 3) := by decide +kernel
theorem dX7_takesE_39 : decode cX7_takesE 39 = .ok (.iload_n 3, 1) := by decide +kernel
theorem dX7_takesE_40 : decode cX7_takesE 40 = .ok (.ifCond .eq 140, 3) := by decide +kernel
theorem dX7_takesE_43 : decode cX7_takesE 43 = .ok (.aload_n 0, 1) := by decide +kernel
theorem dX7_takesE_44 : decode cX7_takesE 44 = .ok (.getfield 215, 3) := by decide +kernel
theorem dX7_takesE_47 : decode cX7_takesE 47 = .ok (.iconst 3, 1) := by decide +kernel
theorem dX7_takesE_48 : decode cX7_takesE 48 = .ok (.if_icmp .ne 49, 3) := by decide +kernel
theorem dX7_takesE_51 : decode cX7_takesE 51 = .ok (.aload_n 0, 1) := by decide +kernel
theorem dX7_takesE_52 : decode cX7_takesE 52 = .ok (.getfield 221, 3) := by decide +kernel
theorem dX7_takesE_55 : decode cX7_takesE 55 = .ok (.bipush 33, 2) := by decide +kernel
theorem dX7_takesE_57 : decode cX7_takesE 57 = .ok (.if_icmp .ne 40, 3) := by decide +kernel
theorem dX7_takesE_60 : decode cX7_takesE 60 = .ok (.iload_n 2, 1) := by decide +kernel
theorem dX7_takesE_61 : decode cX7_takesE 61 = .ok (.bipush 8, 2) := by decide +kernel
theorem dX7_takesE_63 : decode cX7_takesE 63 = .ok (.if_icmp .ge 34, 3) := by decide +kernel
theorem dX7_takesE_66 : decode cX7_takesE 66 = .ok (.aload_n 0, 1) := by decide +kernel
theorem dX7_takesE_67 : decode cX7_takesE 67 = .ok (.getfield 52, 3) := by decide +kernel
theorem dX7_takesE_70 : decode cX7_takesE 70 = .ok (.aload_n 0, 1) := by decide +kernel
theorem dX7_takesE_71 : decode cX7_takesE 71 = .ok (.getfield 233, 3) := by decide +kernel
theorem dX7_takesE_74 : decode cX7_takesE 74 = .ok (.bipush (-10), 2) := by decide +kernel
theorem dX7_takesE_76 : decode cX7_takesE 76 = .ok (.iastore, 1) := by decide +kernel
theorem dX7_takesE_77 : decode cX7_takesE 77 = .ok (.aload_n 0, 1) := by decide +kernel
theorem dX7_takesE_78 : decode cX7_takesE 78 = .ok (.dup, 1) := by decide +kernel
theorem dX7_takesE_79 : decode cX7_takesE 79 = .ok (.getfield 233, 3) := by decide +kernel
theorem dX7_takesE_82 : decode cX7_takesE 82 = .ok (.iconst 1, 1) := by decide +kernel
theorem dX7_takesE_83 : decode cX7_takesE 83 = .ok (.iadd, 1) := by decide +kernel
theorem dX7_takesE_84 : decode cX7_takesE 84 = .ok (.putfield 233, 3) := by decide +kernel
theorem dX7_takesE_87 : decode cX7_takesE 87 = .ok (.iinc 2 1, 3) := by decide +kernel
theorem dX7_takesE_90 : decode cX7_takesE 90 = .ok (.aload_n 0, 1) := by decide +kernel
theorem dX7_takesE_91 : decode cX7_takesE 91 = .ok (.invokevirtual 230, 3) := by decide +kernel
theorem dX7_takesE_94 : decode cX7_takesE 94 = .ok (.goto 78, 3) := by decide +kernel
theorem dX7_takesE_97 : decode cX7_takesE 97 = .ok (.aload_n 0, 1) := by decide +kernel
theorem dX7_takesE_98 : decode cX7_takesE 98 = .ok (.getfield 215, 3) := by decide +kernel
theorem dX7_takesE_101 : decode cX7_takesE 101 = .ok (.iconst 3, 1) := by decide +kernel
theorem dX7_takesE_102 : decode cX7_takesE 102 = .ok (.if_icmp .ne 56, 3) := by decide +kernel
theorem dX7_takesE_105 : decode cX7_takesE 105 = .ok (.aload_n 0, 1) := by decide +kernel
theorem dX7_takesE_106 : decode cX7_takesE 106 = .ok (.getfield 221, 3) := by decide +kernel
theorem dX7_takesE_109 : decode cX7_takesE 109 = .ok (.bipush 40, 2) := by decide +kernel
theorem dX7_takesE_111 : decode cX7_takesE 111 = .ok (.if_icmp .ne 47, 3) := by decide +kernel
theorem dX7_takesE_114 : decode cX7_takesE 114 = .ok (.iload_n 1, 1) := by decide +kernel
theorem dX7_takesE_115 : decode cX7_takesE 115 = .ok (.bipush 8, 2) := by decide +kernel
theorem dX7_takesE_117 : decode cX7_takesE 117 = .ok (.if_icmp .ge 41, 3) := by decide +kernel
theorem dX7_takesE_120 : decode cX7_takesE 120 = .ok (.aload_n 0, 1) := by decide +kernel
theorem dX7_takesE_121 : decode cX7_takesE 121 = .ok (.getfield 52, 3) := by decide +kernel
theorem dX7_takesE_124 : decode cX7_takesE 124 = .ok (.aload_n 0, 1) := by decide +kernel
theorem dX7_takesE_125 : decode cX7_takesE 125 = .ok (.getfield 233, 3) := by decide +kernel
theorem dX7_takesE_128 : decode cX7_takesE 128 = .ok (.bipush (-11), 2) := by decide +kernel
theorem dX7_takesE_130 : decode cX7_takesE 130 = .ok (.iastore, 1) := by decide +kernel
theorem dX7_takesE_131 : decode cX7_takesE 131 = .ok (.aload_n 0, 1) := by decide +kernel
theorem dX7_takesE_132 : decode cX7_takesE 132 = .ok (.dup, 1) := by decide +kernel
theorem dX7_takesE_133 : decode cX7_takesE 133 = .ok (.getfield 233, 3) := by decide +kernel
theorem dX7_takesE_136 : decode cX7_takesE 136 = .ok (.iconst 1, 1) := by decide +kernel
theorem dX7_takesE_137 : decode cX7_takesE 137 = .ok (.iadd, 1) := by decide +kernel
theorem dX7_takesE_138 : decode cX7_takesE 138 = .ok (.putfield 233, 3) := by decide +kernel
theorem dX7_takesE_141 : decode cX7_takesE 141 = .ok (.iinc 1 1, 3) := by decide +kernel
theorem dX7_takesE_144 : decode cX7_takesE 144 = .ok (.aload_n 0, 1) := by decide +kernel
theorem dX7_takesE_145 : decode cX7_takesE 145 = .ok (.getfield 55, 3) := by decide +kernel
theorem dX7_takesE_148 : decode cX7_takesE 148 = .ok (.iload_n 1, 1) := by decide +kernel
theorem dX7_takesE_149 : decode cX7_takesE 149 = .ok (.iconst 0, 1) := by decide +kernel
theorem dX7_takesE_150 : decode cX7_takesE 150 = .ok (.bastore, 1) := by decide +kernel
theorem dX7_takesE_151 : decode cX7_takesE 151 = .ok (.aload_n 0, 1) := by decide +kernel
theorem dX7_takesE_152 : decode cX7_takesE 152 = .ok (.invokevirtual 230, 3) := by decide +kernel
theorem dX7_takesE_155 : decode cX7_takesE 155 = .ok (.goto 17, 3) := by decide +kernel
theorem dX7_takesE_158 : decode cX7_takesE 158 = .ok (.aload_n 0, 1) := by decide +kernel
theorem dX7_takesE_159 : decode cX7_takesE 159 = .ok (.invokevirtual 251, 3) := by decide +kernel
theorem dX7_takesE_162 : decode cX7_takesE 162 = .ok (.ifCond .eq 8, 3) := by decide +kernel
theorem dX7_takesE_165 : decode cX7_takesE 165 = .ok (.iconst 0, 1) := by decide +kernel
theorem dX7_takesE_166 : decode cX7_takesE 166 = .ok (.istore_n 3, 1) := by decide +kernel
theorem dX7_takesE_167 : decode cX7_takesE 167 = .ok (.goto 5, 3) := by decide +kernel
theorem dX7_takesE_170 : decode cX7_takesE 170 = .ok (.iconst 0, 1) := by decide +kernel
theorem dX7_takesE_171 : decode cX7_takesE 171 = .ok (.ireturn, 1) := by decide +kernel
theorem dX7_takesE_172 : decode cX7_takesE 172 = .ok (.aload_n 0, 1) := by decide +kernel
theorem dX7_takesE_173 : decode cX7_takesE 173 = .ok (.invokevirtual 254, 3) := by decide +kernel
theorem dX7_takesE_176 : decode cX7_takesE 176 = .ok (.istore_n 2, 1) := by decide +kernel
theorem dX7_takesE_177 : decode cX7_takesE 177 = .ok (.goto (-149), 3) := by decide +kernel
theorem dX7_takesE_180 : decode cX7_takesE 180 = .ok (.aload_n 0, 1) := by decide +kernel
theorem dX7_takesE_181 : decode cX7_takesE 181 = .ok (.getfield 215, 3) := by decide +kernel
theorem dX7_takesE_184 : decode cX7_takesE 184 = .ok (.iconst 3, 1) := by decide +kernel
theorem dX7_takesE_185 : decode cX7_takesE 185 = .ok (.if_icmp .ne 52, 3) := by decide +kernel
theorem dX7_takesE_188 : decode cX7_takesE 188 = .ok (.aload_n 0, 1) := by decide +kernel
theorem dX7_takesE_189 : decode cX7_takesE 189 = .ok (.getfield 221, 3) := by decide +kernel
theorem dX7_takesE_192 : decode cX7_takesE 192 = .ok (.bipush 41, 2) := by decide +kernel
theorem dX7_takesE_194 : decode cX7_takesE 194 = .ok (.if_icmp .ne 43, 3) := by decide +kernel
theorem dX7_takesE_197 : decode cX7_takesE 197 = .ok (.iload_n 1, 1) := by decide +kernel
theorem dX7_takesE_198 : decode cX7_takesE 198 = .ok (.ifCond .le 39, 3) := by decide +kernel
theorem dX7_takesE_201 : decode cX7_takesE 201 = .ok (.aload_n 0, 1) := by decide +kernel
theorem dX7_takesE_202 : decode cX7_takesE 202 = .ok (.iconst 0, 1) := by decide +kernel
theorem dX7_takesE_203 : decode cX7_takesE 203 = .ok (.invokevirtual 248, 3) := by decide +kernel
theorem dX7_takesE_206 : decode cX7_takesE 206 = .ok (.aload_n 0, 1) := by decide +kernel
theorem dX7_takesE_207 : decode cX7_takesE 207 = .ok (.dup, 1) := by decide +kernel
theorem dX7_takesE_208 : decode cX7_takesE 208 = .ok (.getfield 233, 3) := by decide +kernel
theorem dX7_takesE_211 : decode cX7_takesE 211 = .ok (.iconst 1, 1) := by decide +kernel
theorem dX7_takesE_212 : decode cX7_takesE 212 = .ok (.isub, 1) := by decide +kernel
theorem dX7_takesE_213 : decode cX7_takesE 213 = .ok (.putfield 233, 3) := by decide +kernel
theorem dX7_takesE_216 : decode cX7_takesE 216 = .ok (.iinc 1 (-1), 3) := by decide +kernel
theorem dX7_takesE_219 : decode cX7_takesE 219 = .ok (.aload_n 0, 1) := by decide +kernel
theorem dX7_takesE_220 : decode cX7_takesE 220 = .ok (.bipush 6, 2) := by decide +kernel
theorem dX7_takesE_222 : decode cX7_takesE 222 = .ok (.invokevirtual 248, 3) := by decide +kernel
theorem dX7_takesE_225 : decode cX7_takesE 225 = .ok (.aload_n 0, 1) := by decide +kernel
theorem dX7_takesE_226 : decode cX7_takesE 226 = .ok (.invokevirtual 254, 3) := by decide +kernel
theorem dX7_takesE_229 : decode cX7_takesE 229 = .ok (.istore_n 2, 1) := by decide +kernel
theorem dX7_takesE_230 : decode cX7_takesE 230 = .ok (.aload_n 0, 1) := by decide +kernel
theorem dX7_takesE_231 : decode cX7_takesE 231 = .ok (.invokevirtual 230, 3) := by decide +kernel
theorem dX7_takesE_234 : decode cX7_takesE 234 = .ok (.goto (-206), 3) := by decide +kernel
theorem dX7_takesE_237 : decode cX7_takesE 237 = .ok (.aload_n 0, 1) := by decide +kernel
theorem dX7_takesE_238 : decode cX7_takesE 238 = .ok (.invokevirtual 257, 3) := by decide +kernel
theorem dX7_takesE_241 : decode cX7_takesE 241 = .ok (.istore 4, 2) := by decide +kernel
theorem dX7_takesE_243 : decode cX7_takesE 243 = .ok (.iload 4, 2) := by decide +kernel
theorem dX7_takesE_245 : decode cX7_takesE 245 = .ok (.ifCond .eq 21, 3) := by decide +kernel
theorem dX7_takesE_248 : decode cX7_takesE 248 = .ok (.iload 4, 2) := by decide +kernel
theorem dX7_takesE_250 : decode cX7_takesE 250 = .ok (.invokestatic 236, 3) := by decide +kernel
theorem dX7_takesE_253 : decode cX7_takesE 253 = .ok (.iconst 3, 1) := by decide +kernel
theorem dX7_takesE_254 : decode cX7_takesE 254 = .ok (.if_icmp .ne 14, 3) := by decide +kernel
theorem dX7_takesE_257 : decode cX7_takesE 257 = .ok (.aload_n 0, 1) := by decide +kernel
theorem dX7_takesE_258 : decode cX7_takesE 258 = .ok (.getfield 55, 3) := by decide +kernel
theorem dX7_takesE_261 : decode cX7_takesE 261 = .ok (.iload_n 1, 1) := by decide +kernel
theorem dX7_takesE_262 : decode cX7_takesE 262 = .ok (.baload, 1) := by decide +kernel
theorem dX7_takesE_263 : decode cX7_takesE 263 = .ok (.ifCond .eq 5, 3) := by decide +kernel
theorem dX7_takesE_266 : decode cX7_takesE 266 = .ok (.iconst 0, 1) := by decide +kernel
theorem dX7_takesE_267 : decode cX7_takesE 267 = .ok (.ireturn, 1) := by decide +kernel
theorem dX7_takesE_268 : decode cX7_takesE 268 = .ok (.aload_n 0, 1) := by decide +kernel
theorem dX7_takesE_269 : decode cX7_takesE 269 = .ok (.getfield 55, 3) := by decide +kernel
theorem dX7_takesE_272 : decode cX7_takesE 272 = .ok (.iload_n 1, 1) := by decide +kernel
theorem dX7_takesE_273 : decode cX7_takesE 273 = .ok (.iload 4, 2) := by decide +kernel
theorem dX7_takesE_275 : decode cX7_takesE 275 = .ok (.invokestatic 236, 3) := by decide +kernel
theorem dX7_takesE_278 : decode cX7_takesE 278 = .ok (.iconst 3, 1) := by decide +kernel
theorem dX7_takesE_279 : decode cX7_takesE 279 = .ok (.if_icmp .eq 21, 3) := by decide +kernel
theorem dX7_takesE_282 : decode cX7_takesE 282 = .ok (.iload 4, 2) := by decide +kernel
theorem dX7_takesE_284 : decode cX7_takesE 284 = .ok (.invokestatic 236, 3) := by decide +kernel
theorem dX7_takesE_287 : decode cX7_takesE 287 = .ok (.iconst 3, 1) := by decide +kernel
