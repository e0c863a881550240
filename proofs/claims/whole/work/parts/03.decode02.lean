theorem dX6_lay_88 : decode cX6_lay 88 = .ok (.invokevirtual 300, 3) := by decide +kernel
theorem dX6_lay_91 : decode cX6_lay 91 = .ok (.goto 31, 3) := by decide +kernel
theorem dX6_lay_94 : decode cX6_lay 94 = .ok (.iload_n 2, 1) := by decide +kernel
theorem dX6_lay_95 : decode cX6_lay 95 = .ok (.iconst 2, 1) := by decide +kernel
theorem dX6_lay_96 : decode cX6_lay 96 = .ok (.if_icmp .ne 20, 3) := by decide +kernel
theorem dX6_lay_99 : decode cX6_lay 99 = .ok (.aload 4, 2) := by decide +kernel
theorem dX6_lay_101 : decode cX6_lay 101 = .ok (.getfield 303, 3) := by decide +kernel
theorem dX6_lay_104 : decode cX6_lay 104 = .ok (.aload_n 0, 1) := by decide +kernel
theorem dX6_lay_105 : decode cX6_lay 105 = .ok (.getfield 31, 3) := by decide +kernel
theorem dX6_lay_108 : decode cX6_lay 108 = .ok (.iload_n 3, 1) := by decide +kernel
theorem dX6_lay_109 : decode cX6_lay 109 = .ok (.aaload, 1) := by decide +kernel
theorem dX6_lay_110 : decode cX6_lay 110 = .ok (.invokevirtual 307, 3) := by decide +kernel
theorem dX6_lay_113 : decode cX6_lay 113 = .ok (.goto 9, 3) := by decide +kernel
theorem dX6_lay_116 : decode cX6_lay 116 = .ok (.aload 4, 2) := by decide +kernel
theorem dX6_lay_118 : decode cX6_lay 118 = .ok (.iload_n 3, 1) := by decide +kernel
theorem dX6_lay_119 : decode cX6_lay 119 = .ok (.putfield 310, 3) := by decide +kernel
theorem dX6_lay_122 : decode cX6_lay 122 = .ok (.iload 5, 2) := by decide +kernel
theorem dX6_lay_124 : decode cX6_lay 124 = .ok (.ireturn, 1) := by decide +kernel
theorem dX6_ask_0 : decode cX6_ask 0 = .ok (.iload_n 1, 1) := by decide +kernel
theorem dX6_ask_1 : decode cX6_ask 1 = .ok (.invokestatic 287, 3) := by decide +kernel
theorem dX6_ask_4 : decode cX6_ask 4 = .ok (.ifCond .eq 10, 3) := by decide +kernel
theorem dX6_ask_7 : decode cX6_ask 7 = .ok (.iload_n 2, 1) := by decide +kernel
theorem dX6_ask_8 : decode cX6_ask 8 = .ok (.invokestatic 50, 3) := by decide +kernel
theorem dX6_ask_11 : decode cX6_ask 11 = .ok (.ifCond .ne 6, 3) := by decide +kernel
theorem dX6_ask_14 : decode cX6_ask 14 = .ok (.ldc 60, 2) := by decide +kernel
theorem dX6_ask_16 : decode cX6_ask 16 = .ok (.ireturn, 1) := by decide +kernel
theorem dX6_ask_17 : decode cX6_ask 17 = .ok (.aload_n 0, 1) := by decide +kernel
theorem dX6_ask_18 : decode cX6_ask 18 = .ok (.getfield 37, 3) := by decide +kernel
theorem dX6_ask_21 : decode cX6_ask 21 = .ok (.iload_n 1, 1) := by decide +kernel
theorem dX6_ask_22 : decode cX6_ask 22 = .ok (.aaload, 1) := by decide +kernel
theorem dX6_ask_23 : decode cX6_ask 23 = .ok (.astore_n 3, 1) := by decide +kernel
theorem dX6_ask_24 : decode cX6_ask 24 = .ok (.aload_n 3, 1) := by decide +kernel
theorem dX6_ask_25 : decode cX6_ask 25 = .ok (.getfield 293, 3) := by decide +kernel
theorem dX6_ask_28 : decode cX6_ask 28 = .ok (.ifCond .ne 6, 3) := by decide +kernel
theorem dX6_ask_31 : decode cX6_ask 31 = .ok (.ldc 192, 2) := by decide +kernel
theorem dX6_ask_33 : decode cX6_ask 33 = .ok (.ireturn, 1) := by decide +kernel
theorem dX6_ask_34 : decode cX6_ask 34 = .ok (.aload_n 3, 1) := by decide +kernel
theorem dX6_ask_35 : decode cX6_ask 35 = .ok (.getfield 293, 3) := by decide +kernel
theorem dX6_ask_38 : decode cX6_ask 38 = .ok (.iconst 1, 1) := by decide +kernel
theorem dX6_ask_39 : decode cX6_ask 39 = .ok (.if_icmp .ne 24, 3) := by decide +kernel
theorem dX6_ask_42 : decode cX6_ask 42 = .ok (.aload_n 3, 1) := by decide +kernel
theorem dX6_ask_43 : decode cX6_ask 43 = .ok (.getfield 296, 3) := by decide +kernel
theorem dX6_ask_46 : decode cX6_ask 46 = .ok (.iload_n 2, 1) := by decide +kernel
theorem dX6_ask_47 : decode cX6_ask 47 = .ok (.invokevirtual 95, 3) := by decide +kernel
theorem dX6_ask_50 : decode cX6_ask 50 = .ok (.ifCond .eq 13, 3) := by decide +kernel
theorem dX6_ask_53 : decode cX6_ask 53 = .ok (.aload_n 3, 1) := by decide +kernel
theorem dX6_ask_54 : decode cX6_ask 54 = .ok (.getfield 296, 3) := by decide +kernel
theorem dX6_ask_57 : decode cX6_ask 57 = .ok (.invokevirtual 85, 3) := by decide +kernel
theorem dX6_ask_60 : decode cX6_ask 60 = .ok (.goto 5, 3) := by decide +kernel
theorem dX6_ask_63 : decode cX6_ask 63 = .ok (.ldc 101, 2) := by decide +kernel
theorem dX6_ask_65 : decode cX6_ask 65 = .ok (.ireturn, 1) := by decide +kernel
theorem dX6_item_0 : decode cX6_item 0 = .ok (.iload_n 1, 1) := by decide +kernel
theorem dX6_item_1 : decode cX6_item 1 = .ok (.invokestatic 287, 3) := by decide +kernel
theorem dX6_item_4 : decode cX6_item 4 = .ok (.ifCond .ne 6, 3) := by decide +kernel
theorem dX6_item_7 : decode cX6_item 7 = .ok (.ldc 60, 2) := by decide +kernel
theorem dX6_item_9 : decode cX6_item 9 = .ok (.ireturn, 1) := by decide +kernel
theorem dX6_item_10 : decode cX6_item 10 = .ok (.aload_n 0, 1) := by decide +kernel
theorem dX6_item_11 : decode cX6_item 11 = .ok (.getfield 37, 3) := by decide +kernel
theorem dX6_item_14 : decode cX6_item 14 = .ok (.iload_n 1, 1) := by decide +kernel
theorem dX6_item_15 : decode cX6_item 15 = .ok (.aaload, 1) := by decide +kernel
theorem dX6_item_16 : decode cX6_item 16 = .ok (.astore_n 3, 1) := by decide +kernel
theorem dX6_item_17 : decode cX6_item 17 = .ok (.aload_n 3, 1) := by decide +kernel
theorem dX6_item_18 : decode cX6_item 18 = .ok (.getfield 293, 3) := by decide +kernel
theorem dX6_item_21 : decode cX6_item 21 = .ok (.ifCond .ne 6, 3) := by decide +kernel
theorem dX6_item_24 : decode cX6_item 24 = .ok (.ldc 192, 2) := by decide +kernel
theorem dX6_item_26 : decode cX6_item 26 = .ok (.ireturn, 1) := by decide +kernel
theorem dX6_item_27 : decode cX6_item 27 = .ok (.aload_n 3, 1) := by decide +kernel
theorem dX6_item_28 : decode cX6_item 28 = .ok (.getfield 293, 3) := by decide +kernel
theorem dX6_item_31 : decode cX6_item 31 = .ok (.iconst 2, 1) := by decide +kernel
theorem dX6_item_32 : decode cX6_item 32 = .ok (.if_icmp .eq 6, 3) := by decide +kernel
theorem dX6_item_35 : decode cX6_item 35 = .ok (.ldc 101, 2) := by decide +kernel
theorem dX6_item_37 : decode cX6_item 37 = .ok (.ireturn, 1) := by decide +kernel
theorem dX6_item_38 : decode cX6_item 38 = .ok (.aload_n 3, 1) := by decide +kernel
theorem dX6_item_39 : decode cX6_item 39 = .ok (.getfield 303, 3) := by decide +kernel
theorem dX6_item_42 : decode cX6_item 42 = .ok (.iload_n 2, 1) := by decide +kernel
theorem dX6_item_43 : decode cX6_item 43 = .ok (.invokevirtual 256, 3) := by decide +kernel
theorem dX6_item_46 : decode cX6_item 46 = .ok (.ifCond .ne 7, 3) := by decide +kernel
theorem dX6_item_49 : decode cX6_item 49 = .ok (.ldc_w 259, 3) := by decide +kernel
theorem dX6_item_52 : decode cX6_item 52 = .ok (.ireturn, 1) := by decide +kernel
theorem dX6_item_53 : decode cX6_item 53 = .ok (.aload_n 3, 1) := by decide +kernel
theorem dX6_item_54 : decode cX6_item 54 = .ok (.getfield 303, 3) := by decide +kernel
theorem dX6_item_57 : decode cX6_item 57 = .ok (.iload_n 2, 1) := by decide +kernel
theorem dX6_item_58 : decode cX6_item 58 = .ok (.invokevirtual 268, 3) := by decide +kernel
theorem dX6_item_61 : decode cX6_item 61 = .ok (.ifCond .eq 15, 3) := by decide +kernel
theorem dX6_item_64 : decode cX6_item 64 = .ok (.aload_n 3, 1) := by decide +kernel
theorem dX6_item_65 : decode cX6_item 65 = .ok (.getfield 303, 3) := by decide +kernel
theorem dX6_item_68 : decode cX6_item 68 = .ok (.getfield 263, 3) := by decide +kernel
theorem dX6_item_71 : decode cX6_item 71 = .ok (.iload_n 2, 1) := by decide +kernel
theorem dX6_item_72 : decode cX6_item 72 = .ok (.iaload, 1) := by decide +kernel
theorem dX6_item_73 : decode cX6_item 73 = .ok (.goto 5, 3) := by decide +kernel
theorem dX6_item_76 : decode cX6_item 76 = .ok (.ldc 101, 2) := by decide +kernel
theorem dX6_item_78 : decode cX6_item 78 = .ok (.ireturn, 1) := by decide +kernel
theorem dX6_rest_0 : decode cX6_rest 0 = .ok (.iload_n 1, 1) := by decide +kernel
theorem dX6_rest_1 : decode cX6_rest 1 = .ok (.invokestatic 287, 3) := by decide +kernel
theorem dX6_rest_4 : decode cX6_rest 4 = .ok (.ifCond .ne 6, 3) := by decide +kernel
theorem dX6_rest_7 : decode cX6_rest 7 = .ok (.ldc 60, 2) := by decide +kernel
theorem dX6_rest_9 : decode cX6_rest 9 = .ok (.ireturn, 1) := by decide +kernel
theorem dX6_rest_10 : decode cX6_rest 10 = .ok (.aload_n 0, 1) := by decide +kernel
theorem dX6_rest_11 : decode cX6_rest 11 = .ok (.getfield 37, 3) := by decide +kernel
theorem dX6_rest_14 : decode cX6_rest 14 = .ok (.iload_n 1, 1) := by decide +kernel
theorem dX6_rest_15 : decode cX6_rest 15 = .ok (.aaload, 1) := by decide +kernel
theorem dX6_rest_16 : decode cX6_rest 16 = .ok (.astore_n 3, 1) := by decide +kernel
theorem dX6_rest_17 : decode cX6_rest 17 = .ok (.aload_n 3, 1) := by decide +kernel
theorem dX6_rest_18 : decode cX6_rest 18 = .ok (.getfield 293, 3) := by decide +kernel
theorem dX6_rest_21 : decode cX6_rest 21 = .ok (.ifCond .ne 6, 3) := by decide +kernel
theorem dX6_rest_24 : decode cX6_rest 24 = .ok (.ldc 192, 2) := by decide +kernel
theorem dX6_rest_26 : decode cX6_rest 26 = .ok (.ireturn, 1) := by decide +kernel
theorem dX6_rest_27 : decode cX6_rest 27 = .ok (.aload_n 3, 1) := by decide +kernel
theorem dX6_rest_28 : decode cX6_rest 28 = .ok (.getfield 293, 3) := by decide +kernel
theorem dX6_rest_31 : decode cX6_rest 31 = .ok (.iconst 3, 1) := by decide +kernel
theorem dX6_rest_32 : decode cX6_rest 32 = .ok (.if_icmp .eq 6, 3) := by decide +kernel
theorem dX6_rest_35 : decode cX6_rest 35 = .ok (.ldc 101, 2) := by decide +kernel
theorem dX6_rest_37 : decode cX6_rest 37 = .ok (.ireturn, 1) := by decide +kernel
theorem dX6_rest_38 : decode cX6_rest 38 = .ok (.iload_n 2, 1) := by decide +kernel
theorem dX6_rest_39 : decode cX6_rest 39 = .ok (.ifCond .ne 9, 3) := by decide +kernel
theorem dX6_rest_42 : decode cX6_rest 42 = .ok (.ldc_w 313, 3) := by decide +kernel
theorem dX6_rest_45 : decode cX6_rest 45 = .ok (.goto 9, 3) := by decide +kernel
theorem dX6_rest_48 : decode cX6_rest 48 = .ok (.aload_n 3, 1) := by decide +kernel
theorem dX6_rest_49 : decode cX6_rest 49 = .ok (.getfield 310, 3) := by decide +kernel
theorem dX6_rest_52 : decode cX6_rest 52 = .ok (.iload_n 2, 1) := by decide +kernel
theorem dX6_rest_53 : decode cX6_rest 53 = .ok (.irem, 1) := by decide +kernel
theorem dX6_rest_54 : decode cX6_rest 54 = .ok (.ireturn, 1) := by decide +kernel
theorem dX6_tell_0 : decode cX6_tell 0 = .ok (.aload_n 0, 1) := by decide +kernel
theorem dX6_tell_1 : decode cX6_tell 1 = .ok (.getfield 314, 3) := by decide +kernel
theorem dX6_tell_4 : decode cX6_tell 4 = .ok (.bipush 60, 2) := by decide +kernel
theorem dX6_tell_6 : decode cX6_tell 6 = .ok (.if_icmp .lt 6, 3) := by decide +kernel
theorem dX6_tell_9 : decode cX6_tell 9 = .ok (.ldc 65, 2) := by decide +kernel
theorem dX6_tell_11 : decode cX6_tell 11 = .ok (.ireturn, 1) := by decide +kernel
theorem dX6_tell_12 : decode cX6_tell 12 = .ok (.aload_n 0, 1) := by decide +kernel
theorem dX6_tell_13 : decode cX6_tell 13 = .ok (.getfield 41, 3) := by decide +kernel
theorem dX6_tell_16 : decode cX6_tell 16 = .ok (.aload_n 0, 1) := by decide +kernel
theorem dX6_tell_17 : decode cX6_tell 17 = .ok (.getfield 314, 3) := by decide +kernel
theorem dX6_tell_20 : decode cX6_tell 20 = .ok (.iload_n 1, 1) := by decide +kernel
theorem dX6_tell_21 : decode cX6_tell 21 = .ok (.iastore, 1) := by decide +kernel
theorem dX6_tell_22 : decode cX6_tell 22 = .ok (.aload_n 0, 1) := by decide +kernel
theorem dX6_tell_23 : decode cX6_tell 23 = .ok (.dup, 1) := by decide +kernel
theorem dX6_tell_24 : decode cX6_tell 24 = .ok (.getfield 314, 3) := by decide +kernel
theorem dX6_tell_27 : decode cX6_tell 27 = .ok (.iconst 1, 1) := by decide +kernel
theorem dX6_tell_28 : decode cX6_tell 28 = .ok (.iadd, 1) := by decide +kernel
theorem dX6_tell_29 : decode cX6_tell 29 = .ok (.putfield 314, 3) := by decide +kernel
theorem dX6_tell_32 : decode cX6_tell 32 = .ok (.aload_n 0, 1) := by decide +kernel
theorem dX6_tell_33 : decode cX6_tell 33 = .ok (.getfield 314, 3) := by decide +kernel
theorem dX6_tell_36 : decode cX6_tell 36 = .ok (.ireturn, 1) := by decide +kernel
theorem dX6_check_0 : decode cX6_check 0 = .ok (.aload_n 0, 1) := by decide +kernel
theorem dX6_check_1 : decode cX6_check 1 = .ok (.getfield 314, 3) := by decide +kernel
theorem dX6_check_4 : decode cX6_check 4 = .ok (.istore_n 2, 1) := by decide +kernel
theorem dX6_check_5 : decode cX6_check 5 = .ok (.aload_n 0, 1) := by decide +kernel
theorem dX6_check_6 : decode cX6_check 6 = .ok (.iconst 0, 1) := by decide +kernel
theorem dX6_check_7 : decode cX6_check 7 = .ok (.putfield 314, 3) := by decide +kernel
theorem dX6_check_10 : decode cX6_check 10 = .ok (.iload_n 1, 1) := by decide +kernel
theorem dX6_check_11 : decode cX6_check 11 = .ok (.iconst 1, 1) := by decide +kernel
theorem dX6_check_12 : decode cX6_check 12 = .ok (.bipush 30, 2) := by decide +kernel
theorem dX6_check_14 : decode cX6_check 14 = .ok (.invokestatic 56, 3) := by decide +kernel
theorem dX6_check_17 : decode cX6_check 17 = .ok (.ifCond .ne 6, 3) := by decide +kernel
theorem dX6_check_20 : decode cX6_check 20 = .ok (.ldc 60, 2) := by decide +kernel
theorem dX6_check_22 : decode cX6_check 22 = .ok (.ireturn, 1) := by decide +kernel
theorem dX6_check_23 : decode cX6_check 23 = .ok (.aload_n 0, 1) := by decide +kernel
theorem dX6_check_24 : decode cX6_check 24 = .ok (.getfield 317, 3) := by decide +kernel
theorem dX6_check_27 : decode cX6_check 27 = .ok (.ifCond .ne 7, 3) := by decide +kernel
theorem dX6_check_30 : decode cX6_check 30 = .ok (.ldc_w 313, 3) := by decide +kernel
theorem dX6_check_33 : decode cX6_check 33 = .ok (.ireturn, 1) := by decide +kernel
theorem dX6_check_34 : decode cX6_check 34 = .ok (.aload_n 0, 1) := by decide +kernel
theorem dX6_check_35 : decode cX6_check 35 = .ok (.getfield 19, 3) := by decide +kernel
theorem dX6_check_38 : decode cX6_check 38 = .ok (.aload_n 0, 1) := by decide +kernel
theorem dX6_check_39 : decode cX6_check 39 = .ok (.getfield 16, 3) := by decide +kernel
theorem dX6_check_42 : decode cX6_check 42 = .ok (.invokevirtual 163, 3) := by decide +kernel
theorem dX6_check_45 : decode cX6_check 45 = .ok (.iload_n 1, 1) := by decide +kernel
theorem dX6_check_46 : decode cX6_check 46 = .ok (.sipush 9999, 3) := by decide +kernel
theorem dX6_check_49 : decode cX6_check 49 = .ok (.aload_n 0, 1) := by decide +kernel
theorem dX6_check_50 : decode cX6_check 50 = .ok (.getfield 16, 3) := by decide +kernel
theorem dX6_check_53 : decode cX6_check 53 = .ok (.getfield 147, 3) := by decide +kernel
theorem dX6_check_56 : decode cX6_check 56 = .ok (.isub, 1) := by decide +kernel
theorem dX6_check_57 : decode cX6_check 57 = .ok (.invokestatic 117, 3) := by decide +kernel
theorem dX6_check_60 : decode cX6_check 60 = .ok (.istore_n 3, 1) := by decide +kernel
theorem dX6_check_61 : decode cX6_check 61 = .ok (.iconst 0, 1) := by decide +kernel
theorem dX6_check_62 : decode cX6_check 62 = .ok (.istore 4, 2) := by decide +kernel
theorem dX6_check_64 : decode cX6_check 64 = .ok (.iconst 0, 1) := by decide +kernel
theorem dX6_check_65 : decode cX6_check 65 = .ok (.istore 5, 2) := by decide +kernel
theorem dX6_check_67 : decode cX6_check 67 = .ok (.iload 5, 2) := by decide +kernel
theorem dX6_check_69 : decode cX6_check 69 = .ok (.iload_n 3, 1) := by decide +kernel
theorem dX6_check_70 : decode cX6_check 70 = .ok (.if_icmp .ge 68, 3) := by decide +kernel
theorem dX6_check_73 : decode cX6_check 73 = .ok (.aload_n 0, 1) := by decide +kernel
theorem dX6_check_74 : decode cX6_check 74 = .ok (.getfield 19, 3) := by decide +kernel
theorem dX6_check_77 : decode cX6_check 77 = .ok (.iconst (-1), 1) := by decide +kernel
theorem dX6_check_78 : decode cX6_check 78 = .ok (.invokevirtual 170, 3) := by decide +kernel
theorem dX6_check_81 : decode cX6_check 81 = .ok (.aload_n 0, 1) := by decide +kernel
theorem dX6_check_82 : decode cX6_check 82 = .ok (.iload 4, 2) := by decide +kernel
theorem dX6_check_84 : decode cX6_check 84 = .ok (.iload_n 2, 1) := by decide +kernel
theorem dX6_check_85 : decode cX6_check 85 = .ok (.aload_n 0, 1) := by decide +kernel
theorem dX6_check_86 : decode cX6_check 86 = .ok (.getfield 19, 3) := by decide +kernel
theorem dX6_check_89 : decode cX6_check 89 = .ok (.getfield 144, 3) := by decide +kernel
theorem dX6_check_92 : decode cX6_check 92 = .ok (.invokevirtual 321, 3) := by decide +kernel
theorem dX6_check_95 : decode cX6_check 95 = .ok (.ifCond .ne 8, 3) := by decide +kernel
theorem dX6_check_98 : decode cX6_check 98 = .ok (.iconst 1, 1) := by decide +kernel
theorem dX6_check_99 : decode cX6_check 99 = .ok (.iload 4, 2) := by decide +kernel
theorem dX6_check_101 : decode cX6_check 101 = .ok (.iadd, 1) := by decide +kernel
theorem dX6_check_102 : decode cX6_check 102 = .ok (.ireturn, 1) := by decide +kernel
theorem dX6_check_103 : decode cX6_check 103 = .ok (.iinc 4 1, 3) := by decide +kernel
theorem dX6_check_106 : decode cX6_check 106 = .ok (.aload_n 0, 1) := by decide +kernel
theorem dX6_check_107 : decode cX6_check 107 = .ok (.iload 4, 2) := by decide +kernel
theorem dX6_check_109 : decode cX6_check 109 = .ok (.iload_n 2, 1) := by decide +kernel
theorem dX6_check_110 : decode cX6_check 110 = .ok (.aload_n 0, 1) := by decide +kernel
theorem dX6_check_111 : decode cX6_check 111 = .ok (.getfield 19, 3) := by decide +kernel
theorem dX6_check_114 : decode cX6_check 114 = .ok (.iconst 4, 1) := by decide +kernel
theorem dX6_check_115 : decode cX6_check 115 = .ok (.invokevirtual 160, 3) := by decide +kernel
theorem dX6_check_118 : decode cX6_check 118 = .ok (.invokevirtual 321, 3) := by decide +kernel
theorem dX6_check_121 : decode cX6_check 121 = .ok (.ifCond .ne 8, 3) := by decide +kernel
theorem dX6_check_124 : decode cX6_check 124 = .ok (.iconst 1, 1) := by decide +kernel
theorem dX6_check_125 : decode cX6_check 125 = .ok (.iload 4, 2) := by decide +kernel
theorem dX6_check_127 : decode cX6_check 127 = .ok (.iadd, 1) := by decide +kernel
theorem dX6_check_128 : decode cX6_check 128 = .ok (.ireturn, 1) := by decide +kernel
theorem dX6_check_129 : decode cX6_check 129 = .ok (.iinc 4 1, 3) := by decide +kernel
theorem dX6_check_132 : decode cX6_check 132 = .ok (.iinc 5 1, 3) := by decide +kernel
theorem dX6_check_135 : decode cX6_check 135 = .ok (.goto (-68), 3) := by decide +kernel
theorem dX6_check_138 : decode cX6_check 138 = .ok (.iload 4, 2) := by decide +kernel
theorem dX6_check_140 : decode cX6_check 140 = .ok (.iload_n 2, 1) := by decide +kernel
theorem dX6_check_141 : decode cX6_check 141 = .ok (.if_icmp .ne 7, 3) := by decide +kernel
theorem dX6_check_144 : decode cX6_check 144 = .ok (.iconst 0, 1) := by decide +kernel
theorem dX6_check_145 : decode cX6_check 145 = .ok (.goto 7, 3) := by decide +kernel
theorem dX6_check_148 : decode cX6_check 148 = .ok (.iconst 1, 1) := by decide +kernel
theorem dX6_check_149 : decode cX6_check 149 = .ok (.iload 4, 2) := by decide +kernel
theorem dX6_check_151 : decode cX6_check 151 = .ok (.iadd, 1) := by decide +kernel
theorem dX6_check_152 : decode cX6_check 152 = .ok (.ireturn, 1) := by decide +kernel
theorem dX6_keep_0 : decode cX6_keep 0 = .ok (.aload_n 0, 1) := by decide +kernel
theorem dX6_keep_1 : decode cX6_keep 1 = .ok (.getfield 16, 3) := by decide +kernel
theorem dX6_keep_4 : decode cX6_keep 4 = .ok (.aload_n 0, 1) := by decide +kernel
theorem dX6_keep_5 : decode cX6_keep 5 = .ok (.getfield 10, 3) := by decide +kernel
theorem dX6_keep_8 : decode cX6_keep 8 = .ok (.invokevirtual 163, 3) := by decide +kernel
theorem dX6_keep_11 : decode cX6_keep 11 = .ok (.aload_n 0, 1) := by decide +kernel
theorem dX6_keep_12 : decode cX6_keep 12 = .ok (.iconst 1, 1) := by decide +kernel
theorem dX6_keep_13 : decode cX6_keep 13 = .ok (.putfield 317, 3) := by decide +kernel
theorem dX6_keep_16 : decode cX6_keep 16 = .ok (.aload_n 0, 1) := by decide +kernel
theorem dX6_keep_17 : decode cX6_keep 17 = .ok (.getfield 16, 3) := by decide +kernel
theorem dX6_keep_20 : decode cX6_keep 20 = .ok (.getfield 61, 3) := by decide +kernel
theorem dX6_keep_23 : decode cX6_keep 23 = .ok (.ireturn, 1) := by decide +kernel
theorem dX6_back_0 : decode cX6_back 0 = .ok (.aload_n 0, 1) := by decide +kernel
theorem dX6_back_1 : decode cX6_back 1 = .ok (.getfield 317, 3) := by decide +kernel
theorem dX6_back_4 : decode cX6_back 4 = .ok (.ifCond .ne 7, 3) := by decide +kernel
theorem dX6_back_7 : decode cX6_back 7 = .ok (.ldc_w 313, 3) := by decide +kernel
theorem dX6_back_10 : decode cX6_back 10 = .ok (.ireturn, 1) := by decide +kernel
theorem dX6_back_11 : decode cX6_back 11 = .ok (.aload_n 0, 1) := by decide +kernel
theorem dX6_back_12 : decode cX6_back 12 = .ok (.getfield 10, 3) := by decide +kernel
theorem dX6_back_15 : decode cX6_back 15 = .ok (.aload_n 0, 1) := by decide +kernel
theorem dX6_back_16 : decode cX6_back 16 = .ok (.getfield 16, 3) := by decide +kernel
theorem dX6_back_19 : decode cX6_back 19 = .ok (.invokevirtual 163, 3) := by decide +kernel
theorem dX6_back_22 : decode cX6_back 22 = .ok (.aload_n 0, 1) := by decide +kernel
theorem dX6_back_23 : decode cX6_back 23 = .ok (.getfield 10, 3) := by decide +kernel
theorem dX6_back_26 : decode cX6_back 26 = .ok (.getfield 61, 3) := by decide +kernel
theorem dX6_back_29 : decode cX6_back 29 = .ok (.ireturn, 1) := by decide +kernel
theorem dX6_count_0 : decode cX6_count 0 = .ok (.iload_n 1, 1) := by decide +kernel
theorem dX6_count_1 : decode cX6_count 1 = .ok (.tableswitch 120 0 8 #[51, 59, 67, 75, 83, 91, 99, 104, 112], 51) := by decide +kernel
theorem dX6_count_52 : decode cX6_count 52 = .ok (.aload_n 0, 1) := by decide +kernel
theorem dX6_count_53 : decode cX6_count 53 = .ok (.getfield 10, 3) := by decide +kernel
theorem dX6_count_56 : decode cX6_count 56 = .ok (.getfield 61, 3) := by decide +kernel
theorem dX6_count_59 : decode cX6_count 59 = .ok (.ireturn, 1) := by decide +kernel
theorem dX6_count_60 : decode cX6_count 60 = .ok (.aload_n 0, 1) := by decide +kernel
theorem dX6_count_61 : decode cX6_count 61 = .ok (.getfield 10, 3) := by decide +kernel
theorem dX6_count_64 : decode cX6_count 64 = .ok (.getfield 147, 3) := by decide +kernel
theorem dX6_count_67 : decode cX6_count 67 = .ok (.ireturn, 1) := by decide +kernel
theorem dX6_count_68 : decode cX6_count 68 = .ok (.aload_n 0, 1) := by decide +kernel
theorem dX6_count_69 : decode cX6_count 69 = .ok (.getfield 10, 3) := by decide +kernel
theorem dX6_count_72 : decode cX6_count 72 = .ok (.getfield 129, 3) := by decide +kernel
theorem dX6_count_75 : decode cX6_count 75 = .ok (.ireturn, 1) := by decide +kernel
theorem dX6_count_76 : decode cX6_count 76 = .ok (.aload_n 0, 1) := by decide +kernel
theorem dX6_count_77 : decode cX6_count 77 = .ok (.getfield 10, 3) := by decide +kernel
theorem dX6_count_80 : decode cX6_count 80 = .ok (.getfield 132, 3) := by decide +kernel
theorem dX6_count_83 : decode cX6_count 83 = .ok (.ireturn, 1) := by decide +kernel
theorem dX6_count_84 : decode cX6_count 84 = .ok (.aload_n 0, 1) := by decide +kernel
theorem dX6_count_85 : decode cX6_count 85 = .ok (.getfield 10, 3) := by decide +kernel
theorem dX6_count_88 : decode cX6_count 88 = .ok (.getfield 135, 3) := by decide +kernel
theorem dX6_count_91 : decode cX6_count 91 = .ok (.ireturn, 1) := by decide +kernel
theorem dX6_count_92 : decode cX6_count 92 = .ok (.aload_n 0, 1) := by decide +kernel
theorem dX6_count_93 : decode cX6_count 93 = .ok (.getfield 10, 3) := by decide +kernel
theorem dX6_count_96 : decode cX6_count 96 = .ok (.getfield 222, 3) := by decide +kernel
theorem dX6_count_99 : decode cX6_count 99 = .ok (.ireturn, 1) := by decide +kernel
theorem dX6_count_100 : decode cX6_count 100 = .ok (.aload_n 0, 1) := by decide +kernel
theorem dX6_count_101 : decode cX6_count 101 = .ok (.getfield 314, 3) := by decide +kernel
theorem dX6_count_104 : decode cX6_count 104 = .ok (.ireturn, 1) := by decide +kernel
theorem dX6_count_105 : decode cX6_count 105 = .ok (.aload_n 0, 1) := by decide +kernel
theorem dX6_count_106 : decode cX6_count 106 = .ok (.getfield 25, 3) := by decide +kernel
theorem dX6_count_109 : decode cX6_count 109 = .ok (.getfield 210, 3) := by decide +kernel
theorem dX6_count_112 : decode cX6_count 112 = .ok (.ireturn, 1) := by decide +kernel
theorem dX6_count_113 : decode cX6_count 113 = .ok (.aload_n 0, 1) := by decide +kernel
theorem dX6_count_114 : decode cX6_count 114 = .ok (.getfield 10, 3) := by decide +kernel
theorem dX6_count_117 : decode cX6_count 117 = .ok (.getfield 126, 3) := by decide +kernel
theorem dX6_count_120 : decode cX6_count 120 = .ok (.ireturn, 1) := by decide +kernel
theorem dX6_count_121 : decode cX6_count 121 = .ok (.ldc 60, 2) := by decide +kernel
theorem dX6_count_123 : decode cX6_count 123 = .ok (.ireturn, 1) := by decide +kernel
theorem dX6_within_0 : decode cX6_within 0 = .ok (.iload_n 1, 1) := by decide +kernel
theorem dX6_within_1 : decode cX6_within 1 = .ok (.iload_n 0, 1) := by decide +kernel
theorem dX6_within_2 : decode cX6_within 2 = .ok (.if_icmp .gt 12, 3) := by decide +kernel
theorem dX6_within_5 : decode cX6_within 5 = .ok (.iload_n 0, 1) := by decide +kernel
theorem dX6_within_6 : decode cX6_within 6 = .ok (.iload_n 2, 1) := by decide +kernel
theorem dX6_within_7 : decode cX6_within 7 = .ok (.if_icmp .gt 7, 3) := by decide +kernel
theorem dX6_within_10 : decode cX6_within 10 = .ok (.iconst 1, 1) := by decide +kernel
theorem dX6_within_11 : decode cX6_within 11 = .ok (.goto 4, 3) := by decide +kernel
theorem dX6_within_14 : decode cX6_within 14 = .ok (.iconst 0, 1) := by decide +kernel
theorem dX6_within_15 : decode cX6_within 15 = .ok (.ireturn, 1) := by decide +kernel
theorem dX6_held_0 : decode cX6_held 0 = .ok (.iload_n 1, 1) := by decide +kernel
theorem dX6_held_1 : decode cX6_held 1 = .ok (.iload_n 2, 1) := by decide +kernel
theorem dX6_held_2 : decode cX6_held 2 = .ok (.iload_n 0, 1) := by decide +kernel
theorem dX6_held_3 : decode cX6_held 3 = .ok (.invokestatic 117, 3) := by decide +kernel
theorem dX6_held_6 : decode cX6_held 6 = .ok (.invokestatic 324, 3) := by decide +kernel
theorem dX6_held_9 : decode cX6_held 9 = .ok (.ireturn, 1) := by decide +kernel
theorem dX6_isSheet_0 : decode cX6_isSheet 0 = .ok (.iload_n 0, 1) := by decide +kernel
theorem dX6_isSheet_1 : decode cX6_isSheet 1 = .ok (.iconst 0, 1) := by decide +kernel
theorem dX6_isSheet_2 : decode cX6_isSheet 2 = .ok (.iconst 3, 1) := by decide +kernel
theorem dX6_isSheet_3 : decode cX6_isSheet 3 = .ok (.invokestatic 56, 3) := by decide +kernel
theorem dX6_isSheet_6 : decode cX6_isSheet 6 = .ok (.ireturn, 1) := by decide +kernel
theorem dX6_isSlot_0 : decode cX6_isSlot 0 = .ok (.iload_n 0, 1) := by decide +kernel
theorem dX6_isSlot_1 : decode cX6_isSlot 1 = .ok (.iconst 0, 1) := by decide +kernel
theorem dX6_isSlot_2 : decode cX6_isSlot 2 = .ok (.iconst 4, 1) := by decide +kernel
theorem dX6_isSlot_3 : decode cX6_isSlot 3 = .ok (.invokestatic 56, 3) := by decide +kernel
theorem dX6_isSlot_6 : decode cX6_isSlot 6 = .ok (.ireturn, 1) := by decide +kernel
theorem dX6_mostOf_0 : decode cX6_mostOf 0 = .ok (.iload_n 0, 1) := by decide +kernel
theorem dX6_mostOf_1 : decode cX6_mostOf 1 = .ok (.tableswitch 37 1 3 #[27, 30, 34], 27) := by decide +kernel
theorem dX6_mostOf_28 : decode cX6_mostOf 28 = .ok (.bipush 99, 2) := by decide +kernel
theorem dX6_mostOf_30 : decode cX6_mostOf 30 = .ok (.ireturn, 1) := by decide +kernel
theorem dX6_mostOf_31 : decode cX6_mostOf 31 = .ok (.sipush 999, 3) := by decide +kernel
theorem dX6_mostOf_34 : decode cX6_mostOf 34 = .ok (.ireturn, 1) := by decide +kernel
theorem dX6_mostOf_35 : decode cX6_mostOf 35 = .ok (.bipush 99, 2) := by decide +kernel
theorem dX6_mostOf_37 : decode cX6_mostOf 37 = .ok (.ireturn, 1) := by decide +kernel
theorem dX6_mostOf_38 : decode cX6_mostOf 38 = .ok (.sipush 9999, 3) := by decide +kernel
theorem dX6_mostOf_41 : decode cX6_mostOf 41 = .ok (.ireturn, 1) := by decide +kernel
theorem dX6_canLay_0 : decode cX6_canLay 0 = .ok (.iload_n 1, 1) := by decide +kernel
theorem dX6_canLay_1 : decode cX6_canLay 1 = .ok (.lookupswitch 41 #[(1, 27), (2, 36)], 27) := by decide +kernel
theorem dX6_canLay_28 : decode cX6_canLay 28 = .ok (.aload_n 0, 1) := by decide +kernel
theorem dX6_canLay_29 : decode cX6_canLay 29 = .ok (.getfield 10, 3) := by decide +kernel
theorem dX6_canLay_32 : decode cX6_canLay 32 = .ok (.iload_n 2, 1) := by decide +kernel
theorem dX6_canLay_33 : decode cX6_canLay 33 = .ok (.invokevirtual 70, 3) := by decide +kernel
theorem dX6_canLay_36 : decode cX6_canLay 36 = .ok (.ireturn, 1) := by decide +kernel
theorem dX6_canLay_37 : decode cX6_canLay 37 = .ok (.iload_n 2, 1) := by decide +kernel
theorem dX6_canLay_38 : decode cX6_canLay 38 = .ok (.invokestatic 185, 3) := by decide +kernel
theorem dX6_canLay_41 : decode cX6_canLay 41 = .ok (.ireturn, 1) := by decide +kernel
theorem dX6_canLay_42 : decode cX6_canLay 42 = .ok (.iconst 1, 1) := by decide +kernel
theorem dX6_canLay_43 : decode cX6_canLay 43 = .ok (.ireturn, 1) := by decide +kernel
theorem dX6_countLasts_0 : decode cX6_countLasts 0 = .ok (.iconst 0, 1) := by decide +kernel
theorem dX6_countLasts_1 : decode cX6_countLasts 1 = .ok (.istore_n 2, 1) := by decide +kernel
theorem dX6_countLasts_2 : decode cX6_countLasts 2 = .ok (.iload_n 2, 1) := by decide +kernel
theorem dX6_countLasts_3 : decode cX6_countLasts 3 = .ok (.bipush 10, 2) := by decide +kernel
theorem dX6_countLasts_5 : decode cX6_countLasts 5 = .ok (.if_icmp .ge 16, 3) := by decide +kernel
theorem dX6_countLasts_8 : decode cX6_countLasts 8 = .ok (.aload_n 0, 1) := by decide +kernel
theorem dX6_countLasts_9 : decode cX6_countLasts 9 = .ok (.getfield 45, 3) := by decide +kernel
theorem dX6_countLasts_12 : decode cX6_countLasts 12 = .ok (.iload_n 2, 1) := by decide +kernel
theorem dX6_countLasts_13 : decode cX6_countLasts 13 = .ok (.iconst 0, 1) := by decide +kernel
theorem dX6_countLasts_14 : decode cX6_countLasts 14 = .ok (.iastore, 1) := by decide +kernel
theorem dX6_countLasts_15 : decode cX6_countLasts 15 = .ok (.iinc 2 1, 3) := by decide +kernel
theorem dX6_countLasts_18 : decode cX6_countLasts 18 = .ok (.goto (-16), 3) := by decide +kernel
theorem dX6_countLasts_21 : decode cX6_countLasts 21 = .ok (.aload_n 0, 1) := by decide +kernel
theorem dX6_countLasts_22 : decode cX6_countLasts 22 = .ok (.getfield 19, 3) := by decide +kernel
theorem dX6_countLasts_25 : decode cX6_countLasts 25 = .ok (.aload_n 0, 1) := by decide +kernel
theorem dX6_countLasts_26 : decode cX6_countLasts 26 = .ok (.getfield 10, 3) := by decide +kernel
theorem dX6_countLasts_29 : decode cX6_countLasts 29 = .ok (.invokevirtual 163, 3) := by decide +kernel
theorem dX6_countLasts_32 : decode cX6_countLasts 32 = .ok (.iconst 0, 1) := by decide +kernel
theorem dX6_countLasts_33 : decode cX6_countLasts 33 = .ok (.istore_n 2, 1) := by decide +kernel
theorem dX6_countLasts_34 : decode cX6_countLasts 34 = .ok (.iload_n 2, 1) := by decide +kernel
theorem dX6_countLasts_35 : decode cX6_countLasts 35 = .ok (.iload_n 1, 1) := by decide +kernel
theorem dX6_countLasts_36 : decode cX6_countLasts 36 = .ok (.if_icmp .ge 33, 3) := by decide +kernel
theorem dX6_countLasts_39 : decode cX6_countLasts 39 = .ok (.aload_n 0, 1) := by decide +kernel
theorem dX6_countLasts_40 : decode cX6_countLasts 40 = .ok (.getfield 19, 3) := by decide +kernel
theorem dX6_countLasts_43 : decode cX6_countLasts 43 = .ok (.iconst (-1), 1) := by decide +kernel
theorem dX6_countLasts_44 : decode cX6_countLasts 44 = .ok (.invokevirtual 170, 3) := by decide +kernel
theorem dX6_countLasts_47 : decode cX6_countLasts 47 = .ok (.aload_n 0, 1) := by decide +kernel
theorem dX6_countLasts_48 : decode cX6_countLasts 48 = .ok (.getfield 45, 3) := by decide +kernel
theorem dX6_countLasts_51 : decode cX6_countLasts 51 = .ok (.aload_n 0, 1) := by decide +kernel
theorem dX6_countLasts_52 : decode cX6_countLasts 52 = .ok (.getfield 19, 3) := by decide +kernel
theorem dX6_countLasts_55 : decode cX6_countLasts 55 = .ok (.invokevirtual 327, 3) := by decide +kernel
theorem dX6_countLasts_58 : decode cX6_countLasts 58 = .ok (.dup2, 1) := by decide +kernel
theorem dX6_countLasts_59 : decode cX6_countLasts 59 = .ok (.iaload, 1) := by decide +kernel
theorem dX6_countLasts_60 : decode cX6_countLasts 60 = .ok (.iconst 1, 1) := by decide +kernel
theorem dX6_countLasts_61 : decode cX6_countLasts 61 = .ok (.iadd, 1) := by decide +kernel
theorem dX6_countLasts_62 : decode cX6_countLasts 62 = .ok (.iastore, 1) := by decide +kernel
theorem dX6_countLasts_63 : decode cX6_countLasts 63 = .ok (.iinc 2 1, 3) := by decide +kernel
theorem dX6_countLasts_66 : decode cX6_countLasts 66 = .ok (.goto (-32), 3) := by decide +kernel
theorem dX6_countLasts_69 : decode cX6_countLasts 69 = .ok (.return_, 1) := by decide +kernel
theorem dX6_differences_0 : decode cX6_differences 0 = .ok (.aload_n 0, 1) := by decide +kernel
theorem dX6_differences_1 : decode cX6_differences 1 = .ok (.getfield 19, 3) := by decide +kernel
theorem dX6_differences_4 : decode cX6_differences 4 = .ok (.aload_n 0, 1) := by decide +kernel
theorem dX6_differences_5 : decode cX6_differences 5 = .ok (.getfield 10, 3) := by decide +kernel
theorem dX6_differences_8 : decode cX6_differences 8 = .ok (.invokevirtual 163, 3) := by decide +kernel
theorem dX6_differences_11 : decode cX6_differences 11 = .ok (.aload_n 0, 1) := by decide +kernel
theorem dX6_differences_12 : decode cX6_differences 12 = .ok (.getfield 19, 3) := by decide +kernel
theorem dX6_differences_15 : decode cX6_differences 15 = .ok (.getfield 73, 3) := by decide +kernel
theorem dX6_differences_18 : decode cX6_differences 18 = .ok (.iload_n 2, 1) := by decide +kernel
theorem dX6_differences_19 : decode cX6_differences 19 = .ok (.aaload, 1) := by decide +kernel
theorem dX6_differences_20 : decode cX6_differences 20 = .ok (.iload_n 3, 1) := by decide +kernel
theorem dX6_differences_21 : decode cX6_differences 21 = .ok (.putfield 108, 3) := by decide +kernel
theorem dX6_differences_24 : decode cX6_differences 24 = .ok (.iconst 0, 1) := by decide +kernel
theorem dX6_differences_25 : decode cX6_differences 25 = .ok (.istore 4, 2) := by decide +kernel
theorem dX6_differences_27 : decode cX6_differences 27 = .ok (.iconst 0, 1) := by decide +kernel
theorem dX6_differences_28 : decode cX6_differences 28 = .ok (.istore 5, 2) := by decide +kernel
theorem dX6_differences_30 : decode cX6_differences 30 = .ok (.iload 5, 2) := by decide +kernel
theorem dX6_differences_32 : decode cX6_differences 32 = .ok (.aload_n 1, 1) := by decide +kernel
theorem dX6_differences_33 : decode cX6_differences 33 = .ok (.getfield 274, 3) := by decide +kernel
theorem dX6_differences_36 : decode cX6_differences 36 = .ok (.if_icmp .ge 54, 3) := by decide +kernel
theorem dX6_differences_39 : decode cX6_differences 39 = .ok (.aload_n 0, 1) := by decide +kernel
theorem dX6_differences_40 : decode cX6_differences 40 = .ok (.getfield 19, 3) := by decide +kernel
theorem dX6_differences_43 : decode cX6_differences 43 = .ok (.iconst (-1), 1) := by decide +kernel
theorem dX6_differences_44 : decode cX6_differences 44 = .ok (.invokevirtual 170, 3) := by decide +kernel
theorem dX6_differences_47 : decode cX6_differences 47 = .ok (.aload_n 1, 1) := by decide +kernel
theorem dX6_differences_48 : decode cX6_differences 48 = .ok (.iload 5, 2) := by decide +kernel
theorem dX6_differences_50 : decode cX6_differences 50 = .ok (.invokevirtual 268, 3) := by decide +kernel
theorem dX6_differences_53 : decode cX6_differences 53 = .ok (.ifCond .eq 31, 3) := by decide +kernel
theorem dX6_differences_56 : decode cX6_differences 56 = .ok (.iload 4, 2) := by decide +kernel
theorem dX6_differences_58 : decode cX6_differences 58 = .ok (.aload_n 0, 1) := by decide +kernel
theorem dX6_differences_59 : decode cX6_differences 59 = .ok (.getfield 19, 3) := by decide +kernel
theorem dX6_differences_62 : decode cX6_differences 62 = .ok (.getfield 73, 3) := by decide +kernel
theorem dX6_differences_65 : decode cX6_differences 65 = .ok (.iload_n 2, 1) := by decide +kernel
theorem dX6_differences_66 : decode cX6_differences 66 = .ok (.aaload, 1) := by decide +kernel
theorem dX6_differences_67 : decode cX6_differences 67 = .ok (.getfield 114, 3) := by decide +kernel
theorem dX6_differences_70 : decode cX6_differences 70 = .ok (.aload_n 1, 1) := by decide +kernel
theorem dX6_differences_71 : decode cX6_differences 71 = .ok (.getfield 263, 3) := by decide +kernel
theorem dX6_differences_74 : decode cX6_differences 74 = .ok (.iload 5, 2) := by decide +kernel
theorem dX6_differences_76 : decode cX6_differences 76 = .ok (.iaload, 1) := by decide +kernel
theorem dX6_differences_77 : decode cX6_differences 77 = .ok (.isub, 1) := by decide +kernel
theorem dX6_differences_78 : decode cX6_differences 78 = .ok (.invokestatic 330, 3) := by decide +kernel
theorem dX6_differences_81 : decode cX6_differences 81 = .ok (.iadd, 1) := by decide +kernel
theorem dX6_differences_82 : decode cX6_differences 82 = .ok (.istore 4, 2) := by decide +kernel
theorem dX6_differences_84 : decode cX6_differences 84 = .ok (.iinc 5 1, 3) := by decide +kernel
theorem dX6_differences_87 : decode cX6_differences 87 = .ok (.goto (-57), 3) := by decide +kernel
theorem dX6_differences_90 : decode cX6_differences 90 = .ok (.iload 4, 2) := by decide +kernel
theorem dX6_differences_92 : decode cX6_differences 92 = .ok (.ireturn, 1) := by decide +kernel
theorem dX6_waitsAt_0 : decode cX6_waitsAt 0 = .ok (.iload_n 1, 1) := by decide +kernel
theorem dX6_waitsAt_1 : decode cX6_waitsAt 1 = .ok (.iload_n 2, 1) := by decide +kernel
theorem dX6_waitsAt_2 : decode cX6_waitsAt 2 = .ok (.if_icmp .ge 23, 3) := by decide +kernel
theorem dX6_waitsAt_5 : decode cX6_waitsAt 5 = .ok (.iload_n 1, 1) := by decide +kernel
theorem dX6_waitsAt_6 : decode cX6_waitsAt 6 = .ok (.bipush 60, 2) := by decide +kernel
theorem dX6_waitsAt_8 : decode cX6_waitsAt 8 = .ok (.if_icmp .ge 17, 3) := by decide +kernel
theorem dX6_waitsAt_11 : decode cX6_waitsAt 11 = .ok (.aload_n 0, 1) := by decide +kernel
theorem dX6_waitsAt_12 : decode cX6_waitsAt 12 = .ok (.getfield 41, 3) := by decide +kernel
theorem dX6_waitsAt_15 : decode cX6_waitsAt 15 = .ok (.iload_n 1, 1) := by decide +kernel
theorem dX6_waitsAt_16 : decode cX6_waitsAt 16 = .ok (.iaload, 1) := by decide +kernel
theorem dX6_waitsAt_17 : decode cX6_waitsAt 17 = .ok (.iload_n 3, 1) := by decide +kernel
theorem dX6_waitsAt_18 : decode cX6_waitsAt 18 = .ok (.if_icmp .ne 7, 3) := by decide +kernel
theorem dX6_waitsAt_21 : decode cX6_waitsAt 21 = .ok (.iconst 1, 1) := by decide +kernel
theorem dX6_waitsAt_22 : decode cX6_waitsAt 22 = .ok (.goto 4, 3) := by decide +kernel
theorem dX6_waitsAt_25 : decode cX6_waitsAt 25 = .ok (.iconst 0, 1) := by decide +kernel
theorem dX6_waitsAt_26 : decode cX6_waitsAt 26 = .ok (.ireturn, 1) := by decide +kernel
theorem dX7_init_0 : decode cX7_init 0 = .ok (.aload_n 0, 1) := by decide +kernel
theorem dX7_init_1 : decode cX7_init 1 = .ok (.invokespecial 1, 3) := by decide +kernel
theorem dX7_init_4 : decode cX7_init 4 = .ok (.aload_n 0, 1) := by decide +kernel
theorem dX7_init_5 : decode cX7_init 5 = .ok (.sipush 1450, 3) := by decide +kernel
theorem dX7_init_8 : decode cX7_init 8 = .ok (.newarray .int, 2) := by decide +kernel
theorem dX7_init_10 : decode cX7_init 10 = .ok (.putfield 9, 3) := by decide +kernel
theorem dX7_init_13 : decode cX7_init 13 = .ok (.aload_n 0, 1) := by decide +kernel
theorem dX7_init_14 : decode cX7_init 14 = .ok (.sipush 1450, 3) := by decide +kernel
theorem dX7_init_17 : decode cX7_init 17 = .ok (.newarray .int, 2) := by decide +kernel
theorem dX7_init_19 : decode cX7_init 19 = .ok (.putfield 13, 3) := by decide +kernel
theorem dX7_init_22 : decode cX7_init 22 = .ok (.aload_n 0, 1) := by decide +kernel
theorem dX7_init_23 : decode cX7_init 23 = .ok (.sipush 1450, 3) := by decide +kernel
theorem dX7_init_26 : decode cX7_init 26 = .ok (.newarray .int, 2) := by decide +kernel
theorem dX7_init_28 : decode cX7_init 28 = .ok (.putfield 16, 3) := by decide +kernel
theorem dX7_init_31 : decode cX7_init 31 = .ok (.aload_n 0, 1) := by decide +kernel
theorem dX7_init_32 : decode cX7_init 32 = .ok (.iconst (-1), 1) := by decide +kernel
theorem dX7_init_33 : decode cX7_init 33 = .ok (.putfield 19, 3) := by decide +kernel
theorem dX7_init_36 : decode cX7_init 36 = .ok (.aload_n 0, 1) := by decide +kernel
theorem dX7_init_37 : decode cX7_init 37 = .ok (.bipush 10, 2) := by decide +kernel
theorem dX7_init_39 : decode cX7_init 39 = .ok (.newarray .int, 2) := by decide +kernel
theorem dX7_init_41 : decode cX7_init 41 = .ok (.putfield 23, 3) := by decide +kernel
theorem dX7_init_44 : decode cX7_init 44 = .ok (.aload_n 0, 1) := by decide +kernel
theorem dX7_init_45 : decode cX7_init 45 = .ok (.bipush 10, 2) := by decide +kernel
theorem dX7_init_47 : decode cX7_init 47 = .ok (.newarray .boolean, 2) := by decide +kernel
theorem dX7_init_49 : decode cX7_init 49 = .ok (.putfield 26, 3) := by decide +kernel
theorem dX7_init_52 : decode cX7_init 52 = .ok (.aload_n 0, 1) := by decide +kernel
theorem dX7_init_53 : decode cX7_init 53 = .ok (.bipush 78, 2) := by decide +kernel
theorem dX7_init_55 : decode cX7_init 55 = .ok (.newarray .int, 2) := by decide +kernel
theorem dX7_init_57 : decode cX7_init 57 = .ok (.putfield 30, 3) := by decide +kernel
theorem dX7_init_60 : decode cX7_init 60 = .ok (.aload_n 0, 1) := by decide +kernel
theorem dX7_init_61 : decode cX7_init 61 = .ok (.bipush 10, 2) := by decide +kernel
theorem dX7_init_63 : decode cX7_init 63 = .ok (.newarray .int, 2) := by decide +kernel
theorem dX7_init_65 : decode cX7_init 65 = .ok (.putfield 33, 3) := by decide +kernel
theorem dX7_init_68 : decode cX7_init 68 = .ok (.aload_n 0, 1) := by decide +kernel
theorem dX7_init_69 : decode cX7_init 69 = .ok (.bipush 10, 2) := by decide +kernel
theorem dX7_init_71 : decode cX7_init 71 = .ok (.newarray .int, 2) := by decide +kernel
theorem dX7_init_73 : decode cX7_init 73 = .ok (.putfield 36, 3) := by decide +kernel
theorem dX7_init_76 : decode cX7_init 76 = .ok (.aload_n 0, 1) := by decide +kernel
theorem dX7_init_77 : decode cX7_init 77 = .ok (.bipush 96, 2) := by decide +kernel
theorem dX7_init_79 : decode cX7_init 79 = .ok (.newarray .int, 2) := by decide +kernel
theorem dX7_init_81 : decode cX7_init 81 = .ok (.putfield 39, 3) := by decide +kernel
theorem dX7_init_84 : decode cX7_init 84 = .ok (.aload_n 0, 1) := by decide +kernel
theorem dX7_init_85 : decode cX7_init 85 = .ok (.bipush 11, 2) := by decide +kernel
theorem dX7_init_87 : decode cX7_init 87 = .ok (.newarray .char, 2) := by decide +kernel
theorem dX7_init_89 : decode cX7_init 89 = .ok (.dup, 1) := by decide +kernel
theorem dX7_init_90 : decode cX7_init 90 = .ok (.iconst 0, 1) := by decide +kernel
theorem dX7_init_91 : decode cX7_init 91 = .ok (.bipush 98, 2) := by decide +kernel
theorem dX7_init_93 : decode cX7_init 93 = .ok (.castore, 1) := by decide +kernel
theorem dX7_init_94 : decode cX7_init 94 = .ok (.dup, 1) := by decide +kernel
theorem dX7_init_95 : decode cX7_init 95 = .ok (.iconst 1, 1) := by decide +kernel
theorem dX7_init_96 : decode cX7_init 96 = .ok (.bipush 117, 2) := by decide +kernel
theorem dX7_init_98 : decode cX7_init 98 = .ok (.castore, 1) := by decide +kernel
theorem dX7_init_99 : decode cX7_init 99 = .ok (.dup, 1) := by decide +kernel
theorem dX7_init_100 : decode cX7_init 100 = .ok (.iconst 2, 1) := by decide +kernel
theorem dX7_init_101 : decode cX7_init 101 = .ok (.bipush 114, 2) := by decide +kernel
theorem dX7_init_103 : decode cX7_init 103 = .ok (.castore, 1) := by decide +kernel
theorem dX7_init_104 : decode cX7_init 104 = .ok (.dup, 1) := by decide +kernel
theorem dX7_init_105 : decode cX7_init 105 = .ok (.iconst 3, 1) := by decide +kernel
theorem dX7_init_106 : decode cX7_init 106 = .ok (.bipush 110, 2) := by decide +kernel
theorem dX7_init_108 : decode cX7_init 108 = .ok (.castore, 1) := by decide +kernel
theorem dX7_init_109 : decode cX7_init 109 = .ok (.dup, 1) := by decide +kernel
theorem dX7_init_110 : decode cX7_init 110 = .ok (.iconst 4, 1) := by decide +kernel
theorem dX7_init_111 : decode cX7_init 111 = .ok (.bipush 102, 2) := by decide +kernel
theorem dX7_init_113 : decode cX7_init 113 = .ok (.castore, 1) := by decide +kernel
theorem dX7_init_114 : decode cX7_init 114 = .ok (.dup, 1) := by decide +kernel
theorem dX7_init_115 : decode cX7_init 115 = .ok (.iconst 5, 1) := by decide +kernel
theorem dX7_init_116 : decode cX7_init 116 = .ok (.bipush 101, 2) := by decide +kernel
theorem dX7_init_118 : decode cX7_init 118 = .ok (.castore, 1) := by decide +kernel
theorem dX7_init_119 : decode cX7_init 119 = .ok (.dup, 1) := by decide +kernel
theorem dX7_init_120 : decode cX7_init 120 = .ok (.bipush 6, 2) := by decide +kernel
theorem dX7_init_122 : decode cX7_init 122 = .ok (.bipush 101, 2) := by decide +kernel
theorem dX7_init_124 : decode cX7_init 124 = .ok (.castore, 1) := by decide +kernel
theorem dX7_init_125 : decode cX7_init 125 = .ok (.dup, 1) := by decide +kernel
theorem dX7_init_126 : decode cX7_init 126 = .ok (.bipush 7, 2) := by decide +kernel
theorem dX7_init_128 : decode cX7_init 128 = .ok (.bipush 102, 2) := by decide +kernel
theorem dX7_init_130 : decode cX7_init 130 = .ok (.castore, 1) := by decide +kernel
theorem dX7_init_131 : decode cX7_init 131 = .ok (.dup, 1) := by decide +kernel
theorem dX7_init_132 : decode cX7_init 132 = .ok (.bipush 8, 2) := by decide +kernel
theorem dX7_init_134 : decode cX7_init 134 = .ok (.bipush 105, 2) := by decide +kernel
theorem dX7_init_136 : decode cX7_init 136 = .ok (.castore, 1) := by decide +kernel
theorem dX7_init_137 : decode cX7_init 137 = .ok (.dup, 1) := by decide +kernel
theorem dX7_init_138 : decode cX7_init 138 = .ok (.bipush 9, 2) := by decide +kernel
theorem dX7_init_140 : decode cX7_init 140 = .ok (.bipush 110, 2) := by decide +kernel
theorem dX7_init_142 : decode cX7_init 142 = .ok (.castore, 1) := by decide +kernel
theorem dX7_init_143 : decode cX7_init 143 = .ok (.dup, 1) := by decide +kernel
theorem dX7_init_144 : decode cX7_init 144 = .ok (.bipush 10, 2) := by decide +kernel
theorem dX7_init_146 : decode cX7_init 146 = .ok (.bipush 101, 2) := by decide +kernel
theorem dX7_init_148 : decode cX7_init 148 = .ok (.castore, 1) := by decide +kernel
theorem dX7_init_149 : decode cX7_init 149 = .ok (.putfield 42, 3) := by decide +kernel
theorem dX7_init_152 : decode cX7_init 152 = .ok (.aload_n 0, 1) := by decide +kernel
theorem dX7_init_153 : decode cX7_init 153 = .ok (.iconst 4, 1) := by decide +kernel
theorem dX7_init_154 : decode cX7_init 154 = .ok (.newarray .int, 2) := by decide +kernel
theorem dX7_init_156 : decode cX7_init 156 = .ok (.dup, 1) := by decide +kernel
theorem dX7_init_157 : decode cX7_init 157 = .ok (.iconst 0, 1) := by decide +kernel
theorem dX7_init_158 : decode cX7_init 158 = .ok (.iconst 0, 1) := by decide +kernel
theorem dX7_init_159 : decode cX7_init 159 = .ok (.iastore, 1) := by decide +kernel
theorem dX7_init_160 : decode cX7_init 160 = .ok (.dup, 1) := by decide +kernel
theorem dX7_init_161 : decode cX7_init 161 = .ok (.iconst 1, 1) := by decide +kernel
theorem dX7_init_162 : decode cX7_init 162 = .ok (.iconst 4, 1) := by decide +kernel
theorem dX7_init_163 : decode cX7_init 163 = .ok (.iastore, 1) := by decide +kernel
theorem dX7_init_164 : decode cX7_init 164 = .ok (.dup, 1) := by decide +kernel
theorem dX7_init_165 : decode cX7_init 165 = .ok (.iconst 2, 1) := by decide +kernel
theorem dX7_init_166 : decode cX7_init 166 = .ok (.bipush 7, 2) := by decide +kernel
theorem dX7_init_168 : decode cX7_init 168 = .ok (.iastore, 1) := by decide +kernel
theorem dX7_init_169 : decode cX7_init 169 = .ok (.dup, 1) := by decide +kernel
theorem dX7_init_170 : decode cX7_init 170 = .ok (.iconst 3, 1) := by decide +kernel
theorem dX7_init_171 : decode cX7_init 171 = .ok (.bipush 11, 2) := by decide +kernel
theorem dX7_init_173 : decode cX7_init 173 = .ok (.iastore, 1) := by decide +kernel
theorem dX7_init_174 : decode cX7_init 174 = .ok (.putfield 46, 3) := by decide +kernel
theorem dX7_init_177 : decode cX7_init 177 = .ok (.aload_n 0, 1) := by decide +kernel
theorem dX7_init_178 : decode cX7_init 178 = .ok (.bipush 96, 2) := by decide +kernel
theorem dX7_init_180 : decode cX7_init 180 = .ok (.newarray .int, 2) := by decide +kernel
theorem dX7_init_182 : decode cX7_init 182 = .ok (.putfield 49, 3) := by decide +kernel
theorem dX7_init_185 : decode cX7_init 185 = .ok (.aload_n 0, 1) := by decide +kernel
theorem dX7_init_186 : decode cX7_init 186 = .ok (.bipush 96, 2) := by decide +kernel
theorem dX7_init_188 : decode cX7_init 188 = .ok (.newarray .int, 2) := by decide +kernel
theorem dX7_init_190 : decode cX7_init 190 = .ok (.putfield 52, 3) := by decide +kernel
theorem dX7_init_193 : decode cX7_init 193 = .ok (.aload_n 0, 1) := by decide +kernel
theorem dX7_init_194 : decode cX7_init 194 = .ok (.bipush 10, 2) := by decide +kernel
theorem dX7_init_196 : decode cX7_init 196 = .ok (.newarray .boolean, 2) := by decide +kernel
theorem dX7_init_198 : decode cX7_init 198 = .ok (.putfield 55, 3) := by decide +kernel
theorem dX7_init_201 : decode cX7_init 201 = .ok (.aload_n 0, 1) := by decide +kernel
theorem dX7_init_202 : decode cX7_init 202 = .ok (.bipush 96, 2) := by decide +kernel
theorem dX7_init_204 : decode cX7_init 204 = .ok (.newarray .int, 2) := by decide +kernel
theorem dX7_init_206 : decode cX7_init 206 = .ok (.putfield 58, 3) := by decide +kernel
theorem dX7_init_209 : decode cX7_init 209 = .ok (.aload_n 0, 1) := by decide +kernel
theorem dX7_init_210 : decode cX7_init 210 = .ok (.iconst 4, 1) := by decide +kernel
theorem dX7_init_211 : decode cX7_init 211 = .ok (.newarray .int, 2) := by decide +kernel
theorem dX7_init_213 : decode cX7_init 213 = .ok (.putfield 61, 3) := by decide +kernel
theorem dX7_init_216 : decode cX7_init 216 = .ok (.aload_n 0, 1) := by decide +kernel
theorem dX7_init_217 : decode cX7_init 217 = .ok (.iconst 4, 1) := by decide +kernel
theorem dX7_init_218 : decode cX7_init 218 = .ok (.newarray .int, 2) := by decide +kernel
theorem dX7_init_220 : decode cX7_init 220 = .ok (.dup, 1) := by decide +kernel
theorem dX7_init_221 : decode cX7_init 221 = .ok (.iconst 0, 1) := by decide +kernel
theorem dX7_init_222 : decode cX7_init 222 = .ok (.iconst (-1), 1) := by decide +kernel
theorem dX7_init_223 : decode cX7_init 223 = .ok (.iastore, 1) := by decide +kernel
theorem dX7_init_224 : decode cX7_init 224 = .ok (.dup, 1) := by decide +kernel
theorem dX7_init_225 : decode cX7_init 225 = .ok (.iconst 1, 1) := by decide +kernel
theorem dX7_init_226 : decode cX7_init 226 = .ok (.iconst (-1), 1) := by decide +kernel
theorem dX7_init_227 : decode cX7_init 227 = .ok (.iastore, 1) := by decide +kernel
theorem dX7_init_228 : decode cX7_init 228 = .ok (.dup, 1) := by decide +kernel
theorem dX7_init_229 : decode cX7_init 229 = .ok (.iconst 2, 1) := by decide +kernel
theorem dX7_init_230 : decode cX7_init 230 = .ok (.iconst (-1), 1) := by decide +kernel
theorem dX7_init_231 : decode cX7_init 231 = .ok (.iastore, 1) := by decide +kernel
theorem dX7_init_232 : decode cX7_init 232 = .ok (.dup, 1) := by decide +kernel
theorem dX7_init_233 : decode cX7_init 233 = .ok (.iconst 3, 1) := by decide +kernel
theorem dX7_init_234 : decode cX7_init 234 = .ok (.iconst (-1), 1) := by decide +kernel
theorem dX7_init_235 : decode cX7_init 235 = .ok (.iastore, 1) := by decide +kernel
theorem dX7_init_236 : decode cX7_init 236 = .ok (.putfield 64, 3) := by decide +kernel
theorem dX7_init_239 : decode cX7_init 239 = .ok (.aload_n 0, 1) := by decide +kernel
theorem dX7_init_240 : decode cX7_init 240 = .ok (.iconst 4, 1) := by decide +kernel
theorem dX7_init_241 : decode cX7_init 241 = .ok (.newarray .int, 2) := by decide +kernel
theorem dX7_init_243 : decode cX7_init 243 = .ok (.putfield 67, 3) := by decide +kernel
theorem dX7_init_246 : decode cX7_init 246 = .ok (.aload_n 0, 1) := by decide +kernel
theorem dX7_init_247 : decode cX7_init 247 = .ok (.bipush 96, 2) := by decide +kernel
theorem dX7_init_249 : decode cX7_init 249 = .ok (.newarray .int, 2) := by decide +kernel
theorem dX7_init_251 : decode cX7_init 251 = .ok (.putfield 70, 3) := by decide +kernel
theorem dX7_init_254 : decode cX7_init 254 = .ok (.aload_n 0, 1) := by decide +kernel
theorem dX7_init_255 : decode cX7_init 255 = .ok (.iconst 5, 1) := by decide +kernel
theorem dX7_init_256 : decode cX7_init 256 = .ok (.newarray .int, 2) := by decide +kernel
theorem dX7_init_258 : decode cX7_init 258 = .ok (.putfield 73, 3) := by decide +kernel
theorem dX7_init_261 : decode cX7_init 261 = .ok (.aload_n 0, 1) := by decide +kernel
theorem dX7_init_262 : decode cX7_init 262 = .ok (.iconst 5, 1) := by decide +kernel
theorem dX7_init_263 : decode cX7_init 263 = .ok (.newarray .int, 2) := by decide +kernel
theorem dX7_init_265 : decode cX7_init 265 = .ok (.putfield 76, 3) := by decide +kernel
theorem dX7_init_268 : decode cX7_init 268 = .ok (.aload_n 0, 1) := by decide +kernel
theorem dX7_init_269 : decode cX7_init 269 = .ok (.iconst 5, 1) := by decide +kernel
theorem dX7_init_270 : decode cX7_init 270 = .ok (.newarray .int, 2) := by decide +kernel
theorem dX7_init_272 : decode cX7_init 272 = .ok (.putfield 79, 3) := by decide +kernel
theorem dX7_init_275 : decode cX7_init 275 = .ok (.aload_n 0, 1) := by decide +kernel
theorem dX7_init_276 : decode cX7_init 276 = .ok (.bipush 120, 2) := by decide +kernel
theorem dX7_init_278 : decode cX7_init 278 = .ok (.newarray .int, 2) := by decide +kernel
theorem dX7_init_280 : decode cX7_init 280 = .ok (.putfield 82, 3) := by decide +kernel
theorem dX7_init_283 : decode cX7_init 283 = .ok (.aload_n 0, 1) := by decide +kernel
theorem dX7_init_284 : decode cX7_init 284 = .ok (.bipush 24, 2) := by decide +kernel
theorem dX7_init_286 : decode cX7_init 286 = .ok (.newarray .int, 2) := by decide +kernel
theorem dX7_init_288 : decode cX7_init 288 = .ok (.putfield 85, 3) := by decide +kernel
theorem dX7_init_291 : decode cX7_init 291 = .ok (.aload_n 0, 1) := by decide +kernel
theorem dX7_init_292 : decode cX7_init 292 = .ok (.bipush 60, 2) := by decide +kernel
theorem dX7_init_294 : decode cX7_init 294 = .ok (.newarray .int, 2) := by decide +kernel
theorem dX7_init_296 : decode cX7_init 296 = .ok (.putfield 88, 3) := by decide +kernel
theorem dX7_init_299 : decode cX7_init 299 = .ok (.aload_n 0, 1) := by decide +kernel
theorem dX7_init_300 : decode cX7_init 300 = .ok (.getfield 9, 3) := by decide +kernel
theorem dX7_init_303 : decode cX7_init 303 = .ok (.iconst 0, 1) := by decide +kernel
theorem dX7_init_304 : decode cX7_init 304 = .ok (.iconst 1, 1) := by decide +kernel
theorem dX7_init_305 : decode cX7_init 305 = .ok (.iastore, 1) := by decide +kernel
theorem dX7_init_306 : decode cX7_init 306 = .ok (.aload_n 0, 1) := by decide +kernel
theorem dX7_init_307 : decode cX7_init 307 = .ok (.getfield 9, 3) := by decide +kernel
theorem dX7_init_310 : decode cX7_init 310 = .ok (.iconst 5, 1) := by decide +kernel
theorem dX7_init_311 : decode cX7_init 311 = .ok (.sipush 600, 3) := by decide +kernel
theorem dX7_init_314 : decode cX7_init 314 = .ok (.iastore, 1) := by decide +kernel
theorem dX7_init_315 : decode cX7_init 315 = .ok (.return_, 1) := by decide +kernel
theorem dX7_in_0 : decode cX7_in 0 = .ok (.iload_n 0, 1) := by decide +kernel
theorem dX7_in_1 : decode cX7_in 1 = .ok (.iload_n 1, 1) := by decide +kernel
theorem dX7_in_2 : decode cX7_in 2 = .ok (.if_icmp .lt 12, 3) := by decide +kernel
theorem dX7_in_5 : decode cX7_in 5 = .ok (.iload_n 0, 1) := by decide +kernel
theorem dX7_in_6 : decode cX7_in 6 = .ok (.iload_n 2, 1) := by decide +kernel
theorem dX7_in_7 : decode cX7_in 7 = .ok (.if_icmp .gt 7, 3) := by decide +kernel
theorem dX7_in_10 : decode cX7_in 10 = .ok (.iconst 1, 1) := by decide +kernel
theorem dX7_in_11 : decode cX7_in 11 = .ok (.goto 4, 3) := by decide +kernel
theorem dX7_in_14 : decode cX7_in 14 = .ok (.iconst 0, 1) := by decide +kernel
theorem dX7_in_15 : decode cX7_in 15 = .ok (.ireturn, 1) := by decide +kernel
theorem dX7_within_0 : decode cX7_within 0 = .ok (.iload_n 0, 1) := by decide +kernel
theorem dX7_within_1 : decode cX7_within 1 = .ok (.iload_n 1, 1) := by decide +kernel
theorem dX7_within_2 : decode cX7_within 2 = .ok (.if_icmp .ge 7, 3) := by decide +kernel
theorem dX7_within_5 : decode cX7_within 5 = .ok (.iload_n 1, 1) := by decide +kernel
theorem dX7_within_6 : decode cX7_within 6 = .ok (.goto 13, 3) := by decide +kernel
theorem dX7_within_9 : decode cX7_within 9 = .ok (.iload_n 0, 1) := by decide +kernel
theorem dX7_within_10 : decode cX7_within 10 = .ok (.iload_n 2, 1) := by decide +kernel
theorem dX7_within_11 : decode cX7_within 11 = .ok (.if_icmp .le 7, 3) := by decide +kernel
theorem dX7_within_14 : decode cX7_within 14 = .ok (.iload_n 2, 1) := by decide +kernel
theorem dX7_within_15 : decode cX7_within 15 = .ok (.goto 4, 3) := by decide +kernel
theorem dX7_within_18 : decode cX7_within 18 = .ok (.iload_n 0, 1) := by decide +kernel
theorem dX7_within_19 : decode cX7_within 19 = .ok (.ireturn, 1) := by decide +kernel
theorem dX7_copyAll_0 : decode cX7_copyAll 0 = .ok (.iconst 0, 1) := by decide +kernel
theorem dX7_copyAll_1 : decode cX7_copyAll 1 = .ok (.istore_n 2, 1) := by decide +kernel
theorem dX7_copyAll_2 : decode cX7_copyAll 2 = .ok (.iload_n 2, 1) := by decide +kernel
theorem dX7_copyAll_3 : decode cX7_copyAll 3 = .ok (.sipush 1450, 3) := by decide +kernel
theorem dX7_copyAll_6 : decode cX7_copyAll 6 = .ok (.if_icmp .ge 15, 3) := by decide +kernel
theorem dX7_copyAll_9 : decode cX7_copyAll 9 = .ok (.aload_n 1, 1) := by decide +kernel
theorem dX7_copyAll_10 : decode cX7_copyAll 10 = .ok (.iload_n 2, 1) := by decide +kernel
theorem dX7_copyAll_11 : decode cX7_copyAll 11 = .ok (.aload_n 0, 1) := by decide +kernel
theorem dX7_copyAll_12 : decode cX7_copyAll 12 = .ok (.iload_n 2, 1) := by decide +kernel
theorem dX7_copyAll_13 : decode cX7_copyAll 13 = .ok (.iaload, 1) := by decide +kernel
theorem dX7_copyAll_14 : decode cX7_copyAll 14 = .ok (.iastore, 1) := by decide +kernel
theorem dX7_copyAll_15 : decode cX7_copyAll 15 = .ok (.iinc 2 1, 3) := by decide +kernel
theorem dX7_copyAll_18 : decode cX7_copyAll 18 = .ok (.goto (-16), 3) := by decide +kernel
theorem dX7_copyAll_21 : decode cX7_copyAll 21 = .ok (.return_, 1) := by decide +kernel
theorem dX7_told0_0 : decode cX7_told0 0 = .ok (.iload_n 0, 1) := by decide +kernel
theorem dX7_told0_1 : decode cX7_told0 1 = .ok (.ifCond .ge 8, 3) := by decide +kernel
theorem dX7_told0_4 : decode cX7_told0 4 = .ok (.ldc 91, 2) := by decide +kernel
theorem dX7_told0_6 : decode cX7_told0 6 = .ok (.goto 4, 3) := by decide +kernel
theorem dX7_told0_9 : decode cX7_told0 9 = .ok (.iload_n 0, 1) := by decide +kernel
theorem dX7_told0_10 : decode cX7_told0 10 = .ok (.ireturn, 1) := by decide +kernel
theorem dX7_isLamp_0 : decode cX7_isLamp 0 = .ok (.iload_n 1, 1) := by decide +kernel
theorem dX7_isLamp_1 : decode cX7_isLamp 1 = .ok (.iconst 0, 1) := by decide +kernel
theorem dX7_isLamp_2 : decode cX7_isLamp 2 = .ok (.aload_n 0, 1) := by decide +kernel
theorem dX7_isLamp_3 : decode cX7_isLamp 3 = .ok (.getfield 9, 3) := by decide +kernel
theorem dX7_isLamp_6 : decode cX7_isLamp 6 = .ok (.iconst 1, 1) := by decide +kernel
theorem dX7_isLamp_7 : decode cX7_isLamp 7 = .ok (.iaload, 1) := by decide +kernel
theorem dX7_isLamp_8 : decode cX7_isLamp 8 = .ok (.iconst 1, 1) := by decide +kernel
theorem dX7_isLamp_9 : decode cX7_isLamp 9 = .ok (.isub, 1) := by decide +kernel
theorem dX7_isLamp_10 : decode cX7_isLamp 10 = .ok (.invokestatic 92, 3) := by decide +kernel
theorem dX7_isLamp_13 : decode cX7_isLamp 13 = .ok (.ireturn, 1) := by decide +kernel
theorem dX7_of_0 : decode cX7_of 0 = .ok (.aload_n 0, 1) := by decide +kernel
theorem dX7_of_1 : decode cX7_of 1 = .ok (.getfield 9, 3) := by decide +kernel
theorem dX7_of_4 : decode cX7_of 4 = .ok (.bipush 8, 2) := by decide +kernel
theorem dX7_of_6 : decode cX7_of 6 = .ok (.bipush 7, 2) := by decide +kernel
theorem dX7_of_8 : decode cX7_of 8 = .ok (.iload_n 1, 1) := by decide +kernel
theorem dX7_of_9 : decode cX7_of 9 = .ok (.imul, 1) := by decide +kernel
theorem dX7_of_10 : decode cX7_of 10 = .ok (.iadd, 1) := by decide +kernel
theorem dX7_of_11 : decode cX7_of 11 = .ok (.iload_n 2, 1) := by decide +kernel
theorem dX7_of_12 : decode cX7_of 12 = .ok (.iadd, 1) := by decide +kernel
theorem dX7_of_13 : decode cX7_of 13 = .ok (.iaload, 1) := by decide +kernel
theorem dX7_of_14 : decode cX7_of 14 = .ok (.ireturn, 1) := by decide +kernel
theorem dX7_put_0 : decode cX7_put 0 = .ok (.aload_n 0, 1) := by decide +kernel
theorem dX7_put_1 : decode cX7_put 1 = .ok (.getfield 9, 3) := by decide +kernel
theorem dX7_put_4 : decode cX7_put 4 = .ok (.bipush 8, 2) := by decide +kernel
theorem dX7_put_6 : decode cX7_put 6 = .ok (.bipush 7, 2) := by decide +kernel
theorem dX7_put_8 : decode cX7_put 8 = .ok (.iload_n 1, 1) := by decide +kernel
theorem dX7_put_9 : decode cX7_put 9 = .ok (.imul, 1) := by decide +kernel
theorem dX7_put_10 : decode cX7_put 10 = .ok (.iadd, 1) := by decide +kernel
theorem dX7_put_11 : decode cX7_put 11 = .ok (.iload_n 2, 1) := by decide +kernel
theorem dX7_put_12 : decode cX7_put 12 = .ok (.iadd, 1) := by decide +kernel
theorem dX7_put_13 : decode cX7_put 13 = .ok (.iload_n 3, 1) := by decide +kernel
theorem dX7_put_14 : decode cX7_put 14 = .ok (.iastore, 1) := by decide +kernel
theorem dX7_put_15 : decode cX7_put 15 = .ok (.return_, 1) := by decide +kernel
theorem dX7_becomes_0 : decode cX7_becomes 0 = .ok (.aload_n 0, 1) := by decide +kernel
theorem dX7_becomes_1 : decode cX7_becomes 1 = .ok (.getfield 9, 3) := by decide +kernel
theorem dX7_becomes_4 : decode cX7_becomes 4 = .ok (.iload_n 1, 1) := by decide +kernel
theorem dX7_becomes_5 : decode cX7_becomes 5 = .ok (.iaload, 1) := by decide +kernel
theorem dX7_becomes_6 : decode cX7_becomes 6 = .ok (.istore_n 3, 1) := by decide +kernel
theorem dX7_becomes_7 : decode cX7_becomes 7 = .ok (.aload_n 0, 1) := by decide +kernel
theorem dX7_becomes_8 : decode cX7_becomes 8 = .ok (.getfield 9, 3) := by decide +kernel
theorem dX7_becomes_11 : decode cX7_becomes 11 = .ok (.iload_n 1, 1) := by decide +kernel
theorem dX7_becomes_12 : decode cX7_becomes 12 = .ok (.iload_n 2, 1) := by decide +kernel
theorem dX7_becomes_13 : decode cX7_becomes 13 = .ok (.iastore, 1) := by decide +kernel
theorem dX7_becomes_14 : decode cX7_becomes 14 = .ok (.iload_n 3, 1) := by decide +kernel
theorem dX7_becomes_15 : decode cX7_becomes 15 = .ok (.ireturn, 1) := by decide +kernel
theorem dX7_comes_0 : decode cX7_comes 0 = .ok (.aload_n 0, 1) := by decide +kernel
theorem dX7_comes_1 : decode cX7_comes 1 = .ok (.getfield 9, 3) := by decide +kernel
theorem dX7_comes_4 : decode cX7_comes 4 = .ok (.iconst 1, 1) := by decide +kernel
theorem dX7_comes_5 : decode cX7_comes 5 = .ok (.iaload, 1) := by decide +kernel
theorem dX7_comes_6 : decode cX7_comes 6 = .ok (.istore 5, 2) := by decide +kernel
theorem dX7_comes_8 : decode cX7_comes 8 = .ok (.aload_n 0, 1) := by decide +kernel
theorem dX7_comes_9 : decode cX7_comes 9 = .ok (.iload 5, 2) := by decide +kernel
theorem dX7_comes_11 : decode cX7_comes 11 = .ok (.iconst 0, 1) := by decide +kernel
theorem dX7_comes_12 : decode cX7_comes 12 = .ok (.iload_n 1, 1) := by decide +kernel
theorem dX7_comes_13 : decode cX7_comes 13 = .ok (.invokevirtual 96, 3) := by decide +kernel
theorem dX7_comes_16 : decode cX7_comes 16 = .ok (.aload_n 0, 1) := by decide +kernel
theorem dX7_comes_17 : decode cX7_comes 17 = .ok (.iload 5, 2) := by decide +kernel
theorem dX7_comes_19 : decode cX7_comes 19 = .ok (.iconst 1, 1) := by decide +kernel
theorem dX7_comes_20 : decode cX7_comes 20 = .ok (.iload_n 2, 1) := by decide +kernel
theorem dX7_comes_21 : decode cX7_comes 21 = .ok (.invokevirtual 96, 3) := by decide +kernel
theorem dX7_comes_24 : decode cX7_comes 24 = .ok (.aload_n 0, 1) := by decide +kernel
theorem dX7_comes_25 : decode cX7_comes 25 = .ok (.iload 5, 2) := by decide +kernel
theorem dX7_comes_27 : decode cX7_comes 27 = .ok (.iconst 2, 1) := by decide +kernel
theorem dX7_comes_28 : decode cX7_comes 28 = .ok (.iload_n 3, 1) := by decide +kernel
theorem dX7_comes_29 : decode cX7_comes 29 = .ok (.invokevirtual 96, 3) := by decide +kernel
theorem dX7_comes_32 : decode cX7_comes 32 = .ok (.aload_n 0, 1) := by decide +kernel
theorem dX7_comes_33 : decode cX7_comes 33 = .ok (.iload 5, 2) := by decide +kernel
theorem dX7_comes_35 : decode cX7_comes 35 = .ok (.iconst 3, 1) := by decide +kernel
theorem dX7_comes_36 : decode cX7_comes 36 = .ok (.iload 4, 2) := by decide +kernel
theorem dX7_comes_38 : decode cX7_comes 38 = .ok (.invokevirtual 96, 3) := by decide +kernel
theorem dX7_comes_41 : decode cX7_comes 41 = .ok (.aload_n 0, 1) := by decide +kernel
theorem dX7_comes_42 : decode cX7_comes 42 = .ok (.iload 5, 2) := by decide +kernel
theorem dX7_comes_44 : decode cX7_comes 44 = .ok (.iconst 4, 1) := by decide +kernel
theorem dX7_comes_45 : decode cX7_comes 45 = .ok (.iload 5, 2) := by decide +kernel
theorem dX7_comes_47 : decode cX7_comes 47 = .ok (.invokevirtual 96, 3) := by decide +kernel
theorem dX7_comes_50 : decode cX7_comes 50 = .ok (.aload_n 0, 1) := by decide +kernel
theorem dX7_comes_51 : decode cX7_comes 51 = .ok (.iload 5, 2) := by decide +kernel
theorem dX7_comes_53 : decode cX7_comes 53 = .ok (.iconst 5, 1) := by decide +kernel
theorem dX7_comes_54 : decode cX7_comes 54 = .ok (.iconst 0, 1) := by decide +kernel
theorem dX7_comes_55 : decode cX7_comes 55 = .ok (.invokevirtual 96, 3) := by decide +kernel
theorem dX7_comes_58 : decode cX7_comes 58 = .ok (.aload_n 0, 1) := by decide +kernel
theorem dX7_comes_59 : decode cX7_comes 59 = .ok (.iload 5, 2) := by decide +kernel
theorem dX7_comes_61 : decode cX7_comes 61 = .ok (.bipush 6, 2) := by decide +kernel
theorem dX7_comes_63 : decode cX7_comes 63 = .ok (.iconst 0, 1) := by decide +kernel
theorem dX7_comes_64 : decode cX7_comes 64 = .ok (.invokevirtual 96, 3) := by decide +kernel
theorem dX7_comes_67 : decode cX7_comes 67 = .ok (.aload_n 0, 1) := by decide +kernel
theorem dX7_comes_68 : decode cX7_comes 68 = .ok (.getfield 9, 3) := by decide +kernel
theorem dX7_comes_71 : decode cX7_comes 71 = .ok (.iconst 1, 1) := by decide +kernel
theorem dX7_comes_72 : decode cX7_comes 72 = .ok (.dup2, 1) := by decide +kernel
theorem dX7_comes_73 : decode cX7_comes 73 = .ok (.iaload, 1) := by decide +kernel
theorem dX7_comes_74 : decode cX7_comes 74 = .ok (.iconst 1, 1) := by decide +kernel
theorem dX7_comes_75 : decode cX7_comes 75 = .ok (.iadd, 1) := by decide +kernel
theorem dX7_comes_76 : decode cX7_comes 76 = .ok (.iastore, 1) := by decide +kernel
theorem dX7_comes_77 : decode cX7_comes 77 = .ok (.iload 5, 2) := by decide +kernel
theorem dX7_comes_79 : decode cX7_comes 79 = .ok (.ireturn, 1) := by decide +kernel
theorem dX7_mostOf_0 : decode cX7_mostOf 0 = .ok (.iload_n 0, 1) := by decide +kernel
theorem dX7_mostOf_1 : decode cX7_mostOf 1 = .ok (.iconst 2, 1) := by decide +kernel
theorem dX7_mostOf_2 : decode cX7_mostOf 2 = .ok (.if_icmp .ne 9, 3) := by decide +kernel
theorem dX7_mostOf_5 : decode cX7_mostOf 5 = .ok (.sipush 999, 3) := by decide +kernel
theorem dX7_mostOf_8 : decode cX7_mostOf 8 = .ok (.goto 16, 3) := by decide +kernel
theorem dX7_mostOf_11 : decode cX7_mostOf 11 = .ok (.iload_n 0, 1) := by decide +kernel
theorem dX7_mostOf_12 : decode cX7_mostOf 12 = .ok (.iconst 4, 1) := by decide +kernel
theorem dX7_mostOf_13 : decode cX7_mostOf 13 = .ok (.if_icmp .ne 9, 3) := by decide +kernel
theorem dX7_mostOf_16 : decode cX7_mostOf 16 = .ok (.sipush 9999, 3) := by decide +kernel
theorem dX7_mostOf_19 : decode cX7_mostOf 19 = .ok (.goto 5, 3) := by decide +kernel
theorem dX7_mostOf_22 : decode cX7_mostOf 22 = .ok (.bipush 99, 2) := by decide +kernel
theorem dX7_mostOf_24 : decode cX7_mostOf 24 = .ok (.ireturn, 1) := by decide +kernel
theorem dX7_lamp_0 : decode cX7_lamp 0 = .ok (.iload_n 1, 1) := by decide +kernel
theorem dX7_lamp_1 : decode cX7_lamp 1 = .ok (.iconst 0, 1) := by decide +kernel
theorem dX7_lamp_2 : decode cX7_lamp 2 = .ok (.iconst 5, 1) := by decide +kernel
theorem dX7_lamp_3 : decode cX7_lamp 3 = .ok (.invokestatic 92, 3) := by decide +kernel
theorem dX7_lamp_6 : decode cX7_lamp 6 = .ok (.ifCond .eq 35, 3) := by decide +kernel
theorem dX7_lamp_9 : decode cX7_lamp 9 = .ok (.iload_n 2, 1) := by decide +kernel
theorem dX7_lamp_10 : decode cX7_lamp 10 = .ok (.iconst 0, 1) := by decide +kernel
theorem dX7_lamp_11 : decode cX7_lamp 11 = .ok (.bipush 99, 2) := by decide +kernel
theorem dX7_lamp_13 : decode cX7_lamp 13 = .ok (.invokestatic 92, 3) := by decide +kernel
theorem dX7_lamp_16 : decode cX7_lamp 16 = .ok (.ifCond .eq 25, 3) := by decide +kernel
theorem dX7_lamp_19 : decode cX7_lamp 19 = .ok (.iload_n 3, 1) := by decide +kernel
theorem dX7_lamp_20 : decode cX7_lamp 20 = .ok (.iconst 0, 1) := by decide +kernel
theorem dX7_lamp_21 : decode cX7_lamp 21 = .ok (.sipush 999, 3) := by decide +kernel
theorem dX7_lamp_24 : decode cX7_lamp 24 = .ok (.invokestatic 92, 3) := by decide +kernel
theorem dX7_lamp_27 : decode cX7_lamp 27 = .ok (.ifCond .eq 14, 3) := by decide +kernel
theorem dX7_lamp_30 : decode cX7_lamp 30 = .ok (.iload 4, 2) := by decide +kernel
theorem dX7_lamp_32 : decode cX7_lamp 32 = .ok (.iconst 0, 1) := by decide +kernel
theorem dX7_lamp_33 : decode cX7_lamp 33 = .ok (.bipush 99, 2) := by decide +kernel
theorem dX7_lamp_35 : decode cX7_lamp 35 = .ok (.invokestatic 92, 3) := by decide +kernel
theorem dX7_lamp_38 : decode cX7_lamp 38 = .ok (.ifCond .ne 6, 3) := by decide +kernel
theorem dX7_lamp_41 : decode cX7_lamp 41 = .ok (.ldc 100, 2) := by decide +kernel
theorem dX7_lamp_43 : decode cX7_lamp 43 = .ok (.ireturn, 1) := by decide +kernel
theorem dX7_lamp_44 : decode cX7_lamp 44 = .ok (.aload_n 0, 1) := by decide +kernel
theorem dX7_lamp_45 : decode cX7_lamp 45 = .ok (.getfield 9, 3) := by decide +kernel
theorem dX7_lamp_48 : decode cX7_lamp 48 = .ok (.iconst 1, 1) := by decide +kernel
theorem dX7_lamp_49 : decode cX7_lamp 49 = .ok (.iaload, 1) := by decide +kernel
theorem dX7_lamp_50 : decode cX7_lamp 50 = .ok (.bipush 10, 2) := by decide +kernel
theorem dX7_lamp_52 : decode cX7_lamp 52 = .ok (.if_icmp .ne 8, 3) := by decide +kernel
theorem dX7_lamp_55 : decode cX7_lamp 55 = .ok (.ldc 101, 2) := by decide +kernel
theorem dX7_lamp_57 : decode cX7_lamp 57 = .ok (.goto 12, 3) := by decide +kernel
theorem dX7_lamp_60 : decode cX7_lamp 60 = .ok (.aload_n 0, 1) := by decide +kernel
theorem dX7_lamp_61 : decode cX7_lamp 61 = .ok (.iload_n 1, 1) := by decide +kernel
theorem dX7_lamp_62 : decode cX7_lamp 62 = .ok (.iload_n 2, 1) := by decide +kernel
theorem dX7_lamp_63 : decode cX7_lamp 63 = .ok (.iload_n 3, 1) := by decide +kernel
theorem dX7_lamp_64 : decode cX7_lamp 64 = .ok (.iload 4, 2) := by decide +kernel
theorem dX7_lamp_66 : decode cX7_lamp 66 = .ok (.invokevirtual 102, 3) := by decide +kernel
theorem dX7_lamp_69 : decode cX7_lamp 69 = .ok (.ireturn, 1) := by decide +kernel
theorem dX7_burnsOf_0 : decode cX7_burnsOf 0 = .ok (.aload_n 0, 1) := by decide +kernel
theorem dX7_burnsOf_1 : decode cX7_burnsOf 1 = .ok (.iload_n 1, 1) := by decide +kernel
theorem dX7_burnsOf_2 : decode cX7_burnsOf 2 = .ok (.iconst 2, 1) := by decide +kernel
theorem dX7_burnsOf_3 : decode cX7_burnsOf 3 = .ok (.invokevirtual 106, 3) := by decide +kernel
theorem dX7_burnsOf_6 : decode cX7_burnsOf 6 = .ok (.istore_n 2, 1) := by decide +kernel
theorem dX7_burnsOf_7 : decode cX7_burnsOf 7 = .ok (.aload_n 0, 1) := by decide +kernel
theorem dX7_burnsOf_8 : decode cX7_burnsOf 8 = .ok (.iconst 0, 1) := by decide +kernel
theorem dX7_burnsOf_9 : decode cX7_burnsOf 9 = .ok (.invokevirtual 110, 3) := by decide +kernel
theorem dX7_burnsOf_12 : decode cX7_burnsOf 12 = .ok (.istore_n 3, 1) := by decide +kernel
theorem dX7_burnsOf_13 : decode cX7_burnsOf 13 = .ok (.aload_n 0, 1) := by decide +kernel
theorem dX7_burnsOf_14 : decode cX7_burnsOf 14 = .ok (.getfield 61, 3) := by decide +kernel
theorem dX7_burnsOf_17 : decode cX7_burnsOf 17 = .ok (.iconst 0, 1) := by decide +kernel
theorem dX7_burnsOf_18 : decode cX7_burnsOf 18 = .ok (.iload_n 2, 1) := by decide +kernel
theorem dX7_burnsOf_19 : decode cX7_burnsOf 19 = .ok (.iastore, 1) := by decide +kernel
theorem dX7_burnsOf_20 : decode cX7_burnsOf 20 = .ok (.aload_n 0, 1) := by decide +kernel
theorem dX7_burnsOf_21 : decode cX7_burnsOf 21 = .ok (.getfield 61, 3) := by decide +kernel
theorem dX7_burnsOf_24 : decode cX7_burnsOf 24 = .ok (.iconst 1, 1) := by decide +kernel
theorem dX7_burnsOf_25 : decode cX7_burnsOf 25 = .ok (.aload_n 0, 1) := by decide +kernel
theorem dX7_burnsOf_26 : decode cX7_burnsOf 26 = .ok (.getfield 9, 3) := by decide +kernel
theorem dX7_burnsOf_29 : decode cX7_burnsOf 29 = .ok (.iconst 4, 1) := by decide +kernel
theorem dX7_burnsOf_30 : decode cX7_burnsOf 30 = .ok (.iaload, 1) := by decide +kernel
theorem dX7_burnsOf_31 : decode cX7_burnsOf 31 = .ok (.iastore, 1) := by decide +kernel
theorem dX7_burnsOf_32 : decode cX7_burnsOf 32 = .ok (.aload_n 0, 1) := by decide +kernel
theorem dX7_burnsOf_33 : decode cX7_burnsOf 33 = .ok (.getfield 61, 3) := by decide +kernel
theorem dX7_burnsOf_36 : decode cX7_burnsOf 36 = .ok (.iconst 2, 1) := by decide +kernel
theorem dX7_burnsOf_37 : decode cX7_burnsOf 37 = .ok (.aload_n 0, 1) := by decide +kernel
theorem dX7_burnsOf_38 : decode cX7_burnsOf 38 = .ok (.iload_n 1, 1) := by decide +kernel
theorem dX7_burnsOf_39 : decode cX7_burnsOf 39 = .ok (.iconst 1, 1) := by decide +kernel
theorem dX7_burnsOf_40 : decode cX7_burnsOf 40 = .ok (.invokevirtual 106, 3) := by decide +kernel
theorem dX7_burnsOf_43 : decode cX7_burnsOf 43 = .ok (.iastore, 1) := by decide +kernel
theorem dX7_burnsOf_44 : decode cX7_burnsOf 44 = .ok (.iload_n 3, 1) := by decide +kernel
theorem dX7_burnsOf_45 : decode cX7_burnsOf 45 = .ok (.ifCond .ge 21, 3) := by decide +kernel
theorem dX7_burnsOf_48 : decode cX7_burnsOf 48 = .ok (.bipush 10, 2) := by decide +kernel
theorem dX7_burnsOf_50 : decode cX7_burnsOf 50 = .ok (.iload_n 2, 1) := by decide +kernel
theorem dX7_burnsOf_51 : decode cX7_burnsOf 51 = .ok (.imul, 1) := by decide +kernel
theorem dX7_burnsOf_52 : decode cX7_burnsOf 52 = .ok (.aload_n 0, 1) := by decide +kernel
theorem dX7_burnsOf_53 : decode cX7_burnsOf 53 = .ok (.getfield 9, 3) := by decide +kernel
theorem dX7_burnsOf_56 : decode cX7_burnsOf 56 = .ok (.iconst 4, 1) := by decide +kernel
theorem dX7_burnsOf_57 : decode cX7_burnsOf 57 = .ok (.iaload, 1) := by decide +kernel
theorem dX7_burnsOf_58 : decode cX7_burnsOf 58 = .ok (.iload_n 2, 1) := by decide +kernel
theorem dX7_burnsOf_59 : decode cX7_burnsOf 59 = .ok (.imul, 1) := by decide +kernel
theorem dX7_burnsOf_60 : decode cX7_burnsOf 60 = .ok (.iconst 2, 1) := by decide +kernel
theorem dX7_burnsOf_61 : decode cX7_burnsOf 61 = .ok (.idiv, 1) := by decide +kernel
theorem dX7_burnsOf_62 : decode cX7_burnsOf 62 = .ok (.isub, 1) := by decide +kernel
theorem dX7_burnsOf_63 : decode cX7_burnsOf 63 = .ok (.goto 15, 3) := by decide +kernel
theorem dX7_burnsOf_66 : decode cX7_burnsOf 66 = .ok (.aload_n 0, 1) := by decide +kernel
theorem dX7_burnsOf_67 : decode cX7_burnsOf 67 = .ok (.iload_n 3, 1) := by decide +kernel
theorem dX7_burnsOf_68 : decode cX7_burnsOf 68 = .ok (.invokevirtual 114, 3) := by decide +kernel
theorem dX7_burnsOf_71 : decode cX7_burnsOf 71 = .ok (.iconst 0, 1) := by decide +kernel
theorem dX7_burnsOf_72 : decode cX7_burnsOf 72 = .ok (.sipush 9999, 3) := by decide +kernel
theorem dX7_burnsOf_75 : decode cX7_burnsOf 75 = .ok (.invokestatic 117, 3) := by decide +kernel
theorem dX7_burnsOf_78 : decode cX7_burnsOf 78 = .ok (.istore 4, 2) := by decide +kernel
theorem dX7_burnsOf_80 : decode cX7_burnsOf 80 = .ok (.iload 4, 2) := by decide +kernel
theorem dX7_burnsOf_82 : decode cX7_burnsOf 82 = .ok (.bipush 20, 2) := by decide +kernel
theorem dX7_burnsOf_84 : decode cX7_burnsOf 84 = .ok (.if_icmp .ge 7, 3) := by decide +kernel
theorem dX7_burnsOf_87 : decode cX7_burnsOf 87 = .ok (.iconst 0, 1) := by decide +kernel
theorem dX7_burnsOf_88 : decode cX7_burnsOf 88 = .ok (.goto 8, 3) := by decide +kernel
theorem dX7_burnsOf_91 : decode cX7_burnsOf 91 = .ok (.iload 4, 2) := by decide +kernel
theorem dX7_burnsOf_93 : decode cX7_burnsOf 93 = .ok (.bipush 20, 2) := by decide +kernel
theorem dX7_burnsOf_95 : decode cX7_burnsOf 95 = .ok (.isub, 1) := by decide +kernel
theorem dX7_burnsOf_96 : decode cX7_burnsOf 96 = .ok (.istore 5, 2) := by decide +kernel
theorem dX7_burnsOf_98 : decode cX7_burnsOf 98 = .ok (.aload_n 0, 1) := by decide +kernel
theorem dX7_burnsOf_99 : decode cX7_burnsOf 99 = .ok (.iload_n 1, 1) := by decide +kernel
theorem dX7_burnsOf_100 : decode cX7_burnsOf 100 = .ok (.iconst 0, 1) := by decide +kernel
theorem dX7_burnsOf_101 : decode cX7_burnsOf 101 = .ok (.invokevirtual 106, 3) := by decide +kernel
theorem dX7_burnsOf_104 : decode cX7_burnsOf 104 = .ok (.tableswitch 63 1 5 #[36, 46, 49, 54, 59], 36) := by decide +kernel
theorem dX7_burnsOf_140 : decode cX7_burnsOf 140 = .ok (.bipush 10, 2) := by decide +kernel
theorem dX7_burnsOf_142 : decode cX7_burnsOf 142 = .ok (.iload_n 2, 1) := by decide +kernel
theorem dX7_burnsOf_143 : decode cX7_burnsOf 143 = .ok (.imul, 1) := by decide +kernel
theorem dX7_burnsOf_144 : decode cX7_burnsOf 144 = .ok (.iload 4, 2) := by decide +kernel
theorem dX7_burnsOf_146 : decode cX7_burnsOf 146 = .ok (.iadd, 1) := by decide +kernel
theorem dX7_burnsOf_147 : decode cX7_burnsOf 147 = .ok (.iconst 2, 1) := by decide +kernel
theorem dX7_burnsOf_148 : decode cX7_burnsOf 148 = .ok (.idiv, 1) := by decide +kernel
theorem dX7_burnsOf_149 : decode cX7_burnsOf 149 = .ok (.ireturn, 1) := by decide +kernel
theorem dX7_burnsOf_150 : decode cX7_burnsOf 150 = .ok (.iload 5, 2) := by decide +kernel
theorem dX7_burnsOf_152 : decode cX7_burnsOf 152 = .ok (.ireturn, 1) := by decide +kernel
theorem dX7_burnsOf_153 : decode cX7_burnsOf 153 = .ok (.bipush 10, 2) := by decide +kernel
theorem dX7_burnsOf_155 : decode cX7_burnsOf 155 = .ok (.iload_n 2, 1) := by decide +kernel
theorem dX7_burnsOf_156 : decode cX7_burnsOf 156 = .ok (.imul, 1) := by decide +kernel
theorem dX7_burnsOf_157 : decode cX7_burnsOf 157 = .ok (.ireturn, 1) := by decide +kernel
theorem dX7_burnsOf_158 : decode cX7_burnsOf 158 = .ok (.iload 5, 2) := by decide +kernel
theorem dX7_burnsOf_160 : decode cX7_burnsOf 160 = .ok (.iconst 2, 1) := by decide +kernel
theorem dX7_burnsOf_161 : decode cX7_burnsOf 161 = .ok (.idiv, 1) := by decide +kernel
theorem dX7_burnsOf_162 : decode cX7_burnsOf 162 = .ok (.ireturn, 1) := by decide +kernel
theorem dX7_burnsOf_163 : decode cX7_burnsOf 163 = .ok (.sipush 9999, 3) := by decide +kernel
theorem dX7_burnsOf_166 : decode cX7_burnsOf 166 = .ok (.ireturn, 1) := by decide +kernel
theorem dX7_burnsOf_167 : decode cX7_burnsOf 167 = .ok (.iload 4, 2) := by decide +kernel
theorem dX7_burnsOf_169 : decode cX7_burnsOf 169 = .ok (.ireturn, 1) := by decide +kernel
theorem dX7_drinksOf_0 : decode cX7_drinksOf 0 = .ok (.aload_n 0, 1) := by decide +kernel
theorem dX7_drinksOf_1 : decode cX7_drinksOf 1 = .ok (.iload_n 1, 1) := by decide +kernel
theorem dX7_drinksOf_2 : decode cX7_drinksOf 2 = .ok (.iconst 0, 1) := by decide +kernel
theorem dX7_drinksOf_3 : decode cX7_drinksOf 3 = .ok (.invokevirtual 106, 3) := by decide +kernel
theorem dX7_drinksOf_6 : decode cX7_drinksOf 6 = .ok (.istore_n 3, 1) := by decide +kernel
theorem dX7_drinksOf_7 : decode cX7_drinksOf 7 = .ok (.iload_n 3, 1) := by decide +kernel
theorem dX7_drinksOf_8 : decode cX7_drinksOf 8 = .ok (.iconst 5, 1) := by decide +kernel
theorem dX7_drinksOf_9 : decode cX7_drinksOf 9 = .ok (.if_icmp .ne 7, 3) := by decide +kernel
theorem dX7_drinksOf_12 : decode cX7_drinksOf 12 = .ok (.iconst 0, 1) := by decide +kernel
theorem dX7_drinksOf_13 : decode cX7_drinksOf 13 = .ok (.goto 21, 3) := by decide +kernel
theorem dX7_drinksOf_16 : decode cX7_drinksOf 16 = .ok (.iload_n 3, 1) := by decide +kernel
theorem dX7_drinksOf_17 : decode cX7_drinksOf 17 = .ok (.iconst 4, 1) := by decide +kernel
theorem dX7_drinksOf_18 : decode cX7_drinksOf 18 = .ok (.if_icmp .ne 12, 3) := by decide +kernel
theorem dX7_drinksOf_21 : decode cX7_drinksOf 21 = .ok (.iload_n 2, 1) := by decide +kernel
theorem dX7_drinksOf_22 : decode cX7_drinksOf 22 = .ok (.bipush 10, 2) := by decide +kernel
theorem dX7_drinksOf_24 : decode cX7_drinksOf 24 = .ok (.idiv, 1) := by decide +kernel
theorem dX7_drinksOf_25 : decode cX7_drinksOf 25 = .ok (.iconst 5, 1) := by decide +kernel
theorem dX7_drinksOf_26 : decode cX7_drinksOf 26 = .ok (.iadd, 1) := by decide +kernel
theorem dX7_drinksOf_27 : decode cX7_drinksOf 27 = .ok (.goto 7, 3) := by decide +kernel
theorem dX7_drinksOf_30 : decode cX7_drinksOf 30 = .ok (.iload_n 2, 1) := by decide +kernel
theorem dX7_drinksOf_31 : decode cX7_drinksOf 31 = .ok (.bipush 10, 2) := by decide +kernel
theorem dX7_drinksOf_33 : decode cX7_drinksOf 33 = .ok (.idiv, 1) := by decide +kernel
theorem dX7_drinksOf_34 : decode cX7_drinksOf 34 = .ok (.istore 4, 2) := by decide +kernel
theorem dX7_drinksOf_36 : decode cX7_drinksOf 36 = .ok (.iload 4, 2) := by decide +kernel
theorem dX7_drinksOf_38 : decode cX7_drinksOf 38 = .ok (.aload_n 0, 1) := by decide +kernel
theorem dX7_drinksOf_39 : decode cX7_drinksOf 39 = .ok (.iload_n 1, 1) := by decide +kernel
theorem dX7_drinksOf_40 : decode cX7_drinksOf 40 = .ok (.iconst 2, 1) := by decide +kernel
theorem dX7_drinksOf_41 : decode cX7_drinksOf 41 = .ok (.invokevirtual 106, 3) := by decide +kernel
theorem dX7_drinksOf_44 : decode cX7_drinksOf 44 = .ok (.if_icmp .le 12, 3) := by decide +kernel
theorem dX7_drinksOf_47 : decode cX7_drinksOf 47 = .ok (.aload_n 0, 1) := by decide +kernel
theorem dX7_drinksOf_48 : decode cX7_drinksOf 48 = .ok (.iload_n 1, 1) := by decide +kernel
theorem dX7_drinksOf_49 : decode cX7_drinksOf 49 = .ok (.iconst 2, 1) := by decide +kernel
theorem dX7_drinksOf_50 : decode cX7_drinksOf 50 = .ok (.invokevirtual 106, 3) := by decide +kernel
theorem dX7_drinksOf_53 : decode cX7_drinksOf 53 = .ok (.goto 5, 3) := by decide +kernel
theorem dX7_drinksOf_56 : decode cX7_drinksOf 56 = .ok (.iload 4, 2) := by decide +kernel
theorem dX7_drinksOf_58 : decode cX7_drinksOf 58 = .ok (.ireturn, 1) := by decide +kernel
theorem dX7_worthOf_0 : decode cX7_worthOf 0 = .ok (.aload_n 0, 1) := by decide +kernel
theorem dX7_worthOf_1 : decode cX7_worthOf 1 = .ok (.iload_n 1, 1) := by decide +kernel
theorem dX7_worthOf_2 : decode cX7_worthOf 2 = .ok (.iconst 1, 1) := by decide +kernel
theorem dX7_worthOf_3 : decode cX7_worthOf 3 = .ok (.invokevirtual 106, 3) := by decide +kernel
theorem dX7_worthOf_6 : decode cX7_worthOf 6 = .ok (.istore_n 2, 1) := by decide +kernel
theorem dX7_worthOf_7 : decode cX7_worthOf 7 = .ok (.aload_n 0, 1) := by decide +kernel
theorem dX7_worthOf_8 : decode cX7_worthOf 8 = .ok (.iload_n 1, 1) := by decide +kernel
theorem dX7_worthOf_9 : decode cX7_worthOf 9 = .ok (.iconst 0, 1) := by decide +kernel
theorem dX7_worthOf_10 : decode cX7_worthOf 10 = .ok (.invokevirtual 106, 3) := by decide +kernel
theorem dX7_worthOf_13 : decode cX7_worthOf 13 = .ok (.tableswitch 59 1 5 #[35, 40, 45, 52, 57], 35) := by decide +kernel
theorem dX7_worthOf_48 : decode cX7_worthOf 48 = .ok (.iload_n 2, 1) := by decide +kernel
theorem dX7_worthOf_49 : decode cX7_worthOf 49 = .ok (.bipush 6, 2) := by decide +kernel
theorem dX7_worthOf_51 : decode cX7_worthOf 51 = .ok (.iadd, 1) := by decide +kernel
theorem dX7_worthOf_52 : decode cX7_worthOf 52 = .ok (.ireturn, 1) := by decide +kernel
theorem dX7_worthOf_53 : decode cX7_worthOf 53 = .ok (.bipush 99, 2) := by decide +kernel
theorem dX7_worthOf_55 : decode cX7_worthOf 55 = .ok (.iload_n 2, 1) := by decide +kernel
theorem dX7_worthOf_56 : decode cX7_worthOf 56 = .ok (.isub, 1) := by decide +kernel
theorem dX7_worthOf_57 : decode cX7_worthOf 57 = .ok (.ireturn, 1) := by decide +kernel
theorem dX7_worthOf_58 : decode cX7_worthOf 58 = .ok (.iconst 2, 1) := by decide +kernel
theorem dX7_worthOf_59 : decode cX7_worthOf 59 = .ok (.iload_n 2, 1) := by decide +kernel
theorem dX7_worthOf_60 : decode cX7_worthOf 60 = .ok (.bipush 6, 2) := by decide +kernel
theorem dX7_worthOf_62 : decode cX7_worthOf 62 = .ok (.iadd, 1) := by decide +kernel
theorem dX7_worthOf_63 : decode cX7_worthOf 63 = .ok (.imul, 1) := by decide +kernel
theorem dX7_worthOf_64 : decode cX7_worthOf 64 = .ok (.ireturn, 1) := by decide +kernel
theorem dX7_worthOf_65 : decode cX7_worthOf 65 = .ok (.bipush 95, 2) := by decide +kernel
theorem dX7_worthOf_67 : decode cX7_worthOf 67 = .ok (.iload_n 2, 1) := by decide +kernel
theorem dX7_worthOf_68 : decode cX7_worthOf 68 = .ok (.isub, 1) := by decide +kernel
theorem dX7_worthOf_69 : decode cX7_worthOf 69 = .ok (.ireturn, 1) := by decide +kernel
theorem dX7_worthOf_70 : decode cX7_worthOf 70 = .ok (.iconst 3, 1) := by decide +kernel
theorem dX7_worthOf_71 : decode cX7_worthOf 71 = .ok (.ireturn, 1) := by decide +kernel
theorem dX7_worthOf_72 : decode cX7_worthOf 72 = .ok (.iload_n 2, 1) := by decide +kernel
theorem dX7_worthOf_73 : decode cX7_worthOf 73 = .ok (.ireturn, 1) := by decide +kernel
theorem dX7_told_0 : decode cX7_told 0 = .ok (.aload_n 0, 1) := by decide +kernel
theorem dX7_told_1 : decode cX7_told 1 = .ok (.iload_n 1, 1) := by decide +kernel
theorem dX7_told_2 : decode cX7_told 2 = .ok (.invokevirtual 121, 3) := by decide +kernel
theorem dX7_told_5 : decode cX7_told 5 = .ok (.ifCond .eq 13, 3) := by decide +kernel
theorem dX7_told_8 : decode cX7_told 8 = .ok (.iload_n 2, 1) := by decide +kernel
theorem dX7_told_9 : decode cX7_told 9 = .ok (.iconst 0, 1) := by decide +kernel
theorem dX7_told_10 : decode cX7_told 10 = .ok (.bipush 8, 2) := by decide +kernel
theorem dX7_told_12 : decode cX7_told 12 = .ok (.invokestatic 92, 3) := by decide +kernel
theorem dX7_told_15 : decode cX7_told 15 = .ok (.ifCond .ne 6, 3) := by decide +kernel
theorem dX7_told_18 : decode cX7_told 18 = .ok (.ldc 100, 2) := by decide +kernel
theorem dX7_told_20 : decode cX7_told 20 = .ok (.ireturn, 1) := by decide +kernel
theorem dX7_told_21 : decode cX7_told 21 = .ok (.iload_n 2, 1) := by decide +kernel
theorem dX7_told_22 : decode cX7_told 22 = .ok (.bipush 7, 2) := by decide +kernel
theorem dX7_told_24 : decode cX7_told 24 = .ok (.if_icmp .ge 12, 3) := by decide +kernel
theorem dX7_told_27 : decode cX7_told 27 = .ok (.aload_n 0, 1) := by decide +kernel
theorem dX7_told_28 : decode cX7_told 28 = .ok (.iload_n 1, 1) := by decide +kernel
theorem dX7_told_29 : decode cX7_told 29 = .ok (.iload_n 2, 1) := by decide +kernel
theorem dX7_told_30 : decode cX7_told 30 = .ok (.invokevirtual 106, 3) := by decide +kernel
theorem dX7_told_33 : decode cX7_told 33 = .ok (.goto 22, 3) := by decide +kernel
theorem dX7_told_36 : decode cX7_told 36 = .ok (.iload_n 2, 1) := by decide +kernel
theorem dX7_told_37 : decode cX7_told 37 = .ok (.bipush 7, 2) := by decide +kernel
theorem dX7_told_39 : decode cX7_told 39 = .ok (.if_icmp .ne 11, 3) := by decide +kernel
theorem dX7_told_42 : decode cX7_told 42 = .ok (.aload_n 0, 1) := by decide +kernel
theorem dX7_told_43 : decode cX7_told 43 = .ok (.iload_n 1, 1) := by decide +kernel
theorem dX7_told_44 : decode cX7_told 44 = .ok (.invokevirtual 125, 3) := by decide +kernel
theorem dX7_told_47 : decode cX7_told 47 = .ok (.goto 8, 3) := by decide +kernel
theorem dX7_told_50 : decode cX7_told 50 = .ok (.aload_n 0, 1) := by decide +kernel
theorem dX7_told_51 : decode cX7_told 51 = .ok (.iload_n 1, 1) := by decide +kernel
theorem dX7_told_52 : decode cX7_told 52 = .ok (.invokevirtual 128, 3) := by decide +kernel
theorem dX7_told_55 : decode cX7_told 55 = .ok (.ireturn, 1) := by decide +kernel
theorem dX7_drinks_0 : decode cX7_drinks 0 = .ok (.aload_n 0, 1) := by decide +kernel
theorem dX7_drinks_1 : decode cX7_drinks 1 = .ok (.iload_n 1, 1) := by decide +kernel
theorem dX7_drinks_2 : decode cX7_drinks 2 = .ok (.invokevirtual 121, 3) := by decide +kernel
theorem dX7_drinks_5 : decode cX7_drinks 5 = .ok (.ifCond .eq 23, 3) := by decide +kernel
theorem dX7_drinks_8 : decode cX7_drinks 8 = .ok (.iload_n 2, 1) := by decide +kernel
theorem dX7_drinks_9 : decode cX7_drinks 9 = .ok (.iconst 0, 1) := by decide +kernel
theorem dX7_drinks_10 : decode cX7_drinks 10 = .ok (.sipush 999, 3) := by decide +kernel
theorem dX7_drinks_13 : decode cX7_drinks 13 = .ok (.invokestatic 92, 3) := by decide +kernel
theorem dX7_drinks_16 : decode cX7_drinks 16 = .ok (.ifCond .eq 12, 3) := by decide +kernel
theorem dX7_drinks_19 : decode cX7_drinks 19 = .ok (.aload_n 0, 1) := by decide +kernel
theorem dX7_drinks_20 : decode cX7_drinks 20 = .ok (.iload_n 1, 1) := by decide +kernel
theorem dX7_drinks_21 : decode cX7_drinks 21 = .ok (.iload_n 2, 1) := by decide +kernel
theorem dX7_drinks_22 : decode cX7_drinks 22 = .ok (.invokevirtual 131, 3) := by decide +kernel
theorem dX7_drinks_25 : decode cX7_drinks 25 = .ok (.goto 5, 3) := by decide +kernel
theorem dX7_drinks_28 : decode cX7_drinks 28 = .ok (.ldc 100, 2) := by decide +kernel
theorem dX7_drinks_30 : decode cX7_drinks 30 = .ok (.ireturn, 1) := by decide +kernel
theorem dX7_isUnder_0 : decode cX7_isUnder 0 = .ok (.iload_n 1, 1) := by decide +kernel
theorem dX7_isUnder_1 : decode cX7_isUnder 1 = .ok (.ifCond .eq 28, 3) := by decide +kernel
theorem dX7_isUnder_4 : decode cX7_isUnder 4 = .ok (.iload_n 0, 1) := by decide +kernel
theorem dX7_isUnder_5 : decode cX7_isUnder 5 = .ok (.iload_n 1, 1) := by decide +kernel
theorem dX7_isUnder_6 : decode cX7_isUnder 6 = .ok (.if_icmp .eq 23, 3) := by decide +kernel
theorem dX7_isUnder_9 : decode cX7_isUnder 9 = .ok (.iload_n 1, 1) := by decide +kernel
theorem dX7_isUnder_10 : decode cX7_isUnder 10 = .ok (.iconst 1, 1) := by decide +kernel
theorem dX7_isUnder_11 : decode cX7_isUnder 11 = .ok (.if_icmp .ne 8, 3) := by decide +kernel
theorem dX7_isUnder_14 : decode cX7_isUnder 14 = .ok (.iload_n 0, 1) := by decide +kernel
theorem dX7_isUnder_15 : decode cX7_isUnder 15 = .ok (.iconst 3, 1) := by decide +kernel
theorem dX7_isUnder_16 : decode cX7_isUnder 16 = .ok (.if_icmp .eq 13, 3) := by decide +kernel
theorem dX7_isUnder_19 : decode cX7_isUnder 19 = .ok (.iload_n 1, 1) := by decide +kernel
theorem dX7_isUnder_20 : decode cX7_isUnder 20 = .ok (.iconst 2, 1) := by decide +kernel
theorem dX7_isUnder_21 : decode cX7_isUnder 21 = .ok (.if_icmp .ne 12, 3) := by decide +kernel
theorem dX7_isUnder_24 : decode cX7_isUnder 24 = .ok (.iload_n 0, 1) := by decide +kernel
theorem dX7_isUnder_25 : decode cX7_isUnder 25 = .ok (.iconst 4, 1) := by decide +kernel
theorem dX7_isUnder_26 : decode cX7_isUnder 26 = .ok (.if_icmp .ne 7, 3) := by decide +kernel
theorem dX7_isUnder_29 : decode cX7_isUnder 29 = .ok (.iconst 1, 1) := by decide +kernel
theorem dX7_isUnder_30 : decode cX7_isUnder 30 = .ok (.goto 4, 3) := by decide +kernel
theorem dX7_isUnder_33 : decode cX7_isUnder 33 = .ok (.iconst 0, 1) := by decide +kernel
theorem dX7_isUnder_34 : decode cX7_isUnder 34 = .ok (.ireturn, 1) := by decide +kernel
theorem dX7_as_0 : decode cX7_as 0 = .ok (.aload_n 0, 1) := by decide +kernel
theorem dX7_as_1 : decode cX7_as 1 = .ok (.iload_n 1, 1) := by decide +kernel
theorem dX7_as_2 : decode cX7_as 2 = .ok (.invokevirtual 121, 3) := by decide +kernel
theorem dX7_as_5 : decode cX7_as 5 = .ok (.ifCond .eq 12, 3) := by decide +kernel
theorem dX7_as_8 : decode cX7_as 8 = .ok (.iload_n 2, 1) := by decide +kernel
theorem dX7_as_9 : decode cX7_as 9 = .ok (.iconst 0, 1) := by decide +kernel
theorem dX7_as_10 : decode cX7_as 10 = .ok (.iconst 5, 1) := by decide +kernel
theorem dX7_as_11 : decode cX7_as 11 = .ok (.invokestatic 92, 3) := by decide +kernel
theorem dX7_as_14 : decode cX7_as 14 = .ok (.ifCond .ne 6, 3) := by decide +kernel
theorem dX7_as_17 : decode cX7_as 17 = .ok (.ldc 100, 2) := by decide +kernel
theorem dX7_as_19 : decode cX7_as 19 = .ok (.ireturn, 1) := by decide +kernel
theorem dX7_as_20 : decode cX7_as 20 = .ok (.aload_n 0, 1) := by decide +kernel
theorem dX7_as_21 : decode cX7_as 21 = .ok (.iload_n 1, 1) := by decide +kernel
theorem dX7_as_22 : decode cX7_as 22 = .ok (.iconst 0, 1) := by decide +kernel
theorem dX7_as_23 : decode cX7_as 23 = .ok (.invokevirtual 106, 3) := by decide +kernel
theorem dX7_as_26 : decode cX7_as 26 = .ok (.iload_n 2, 1) := by decide +kernel
theorem dX7_as_27 : decode cX7_as 27 = .ok (.invokestatic 134, 3) := by decide +kernel
theorem dX7_as_30 : decode cX7_as 30 = .ok (.ifCond .eq 12, 3) := by decide +kernel
theorem dX7_as_33 : decode cX7_as 33 = .ok (.aload_n 0, 1) := by decide +kernel
theorem dX7_as_34 : decode cX7_as 34 = .ok (.iload_n 1, 1) := by decide +kernel
theorem dX7_as_35 : decode cX7_as 35 = .ok (.iconst 1, 1) := by decide +kernel
theorem dX7_as_36 : decode cX7_as 36 = .ok (.invokevirtual 106, 3) := by decide +kernel
theorem dX7_as_39 : decode cX7_as 39 = .ok (.goto 5, 3) := by decide +kernel
theorem dX7_as_42 : decode cX7_as 42 = .ok (.ldc 138, 2) := by decide +kernel
theorem dX7_as_44 : decode cX7_as 44 = .ok (.ireturn, 1) := by decide +kernel
theorem dX7_turns_0 : decode cX7_turns 0 = .ok (.aload_n 0, 1) := by decide +kernel
theorem dX7_turns_1 : decode cX7_turns 1 = .ok (.iload_n 1, 1) := by decide +kernel
theorem dX7_turns_2 : decode cX7_turns 2 = .ok (.invokevirtual 121, 3) := by decide +kernel
theorem dX7_turns_5 : decode cX7_turns 5 = .ok (.ifCond .eq 27, 3) := by decide +kernel
theorem dX7_turns_8 : decode cX7_turns 8 = .ok (.iload_n 2, 1) := by decide +kernel
theorem dX7_turns_9 : decode cX7_turns 9 = .ok (.iconst 0, 1) := by decide +kernel
theorem dX7_turns_10 : decode cX7_turns 10 = .ok (.iconst 5, 1) := by decide +kernel
theorem dX7_turns_11 : decode cX7_turns 11 = .ok (.invokestatic 92, 3) := by decide +kernel
theorem dX7_turns_14 : decode cX7_turns 14 = .ok (.ifCond .eq 18, 3) := by decide +kernel
theorem dX7_turns_17 : decode cX7_turns 17 = .ok (.aload_n 0, 1) := by decide +kernel
theorem dX7_turns_18 : decode cX7_turns 18 = .ok (.bipush 8, 2) := by decide +kernel
theorem dX7_turns_20 : decode cX7_turns 20 = .ok (.bipush 7, 2) := by decide +kernel
theorem dX7_turns_22 : decode cX7_turns 22 = .ok (.iload_n 1, 1) := by decide +kernel
theorem dX7_turns_23 : decode cX7_turns 23 = .ok (.imul, 1) := by decide +kernel
theorem dX7_turns_24 : decode cX7_turns 24 = .ok (.iadd, 1) := by decide +kernel
theorem dX7_turns_25 : decode cX7_turns 25 = .ok (.iload_n 2, 1) := by decide +kernel
theorem dX7_turns_26 : decode cX7_turns 26 = .ok (.invokevirtual 139, 3) := by decide +kernel
theorem dX7_turns_29 : decode cX7_turns 29 = .ok (.goto 5, 3) := by decide +kernel
theorem dX7_turns_32 : decode cX7_turns 32 = .ok (.ldc 100, 2) := by decide +kernel
theorem dX7_turns_34 : decode cX7_turns 34 = .ok (.ireturn, 1) := by decide +kernel
theorem dX7_set_0 : decode cX7_set 0 = .ok (.aload_n 0, 1) := by decide +kernel
theorem dX7_set_1 : decode cX7_set 1 = .ok (.iload_n 1, 1) := by decide +kernel
theorem dX7_set_2 : decode cX7_set 2 = .ok (.invokevirtual 121, 3) := by decide +kernel
theorem dX7_set_5 : decode cX7_set 5 = .ok (.ifCond .eq 41, 3) := by decide +kernel
theorem dX7_set_8 : decode cX7_set 8 = .ok (.iload_n 2, 1) := by decide +kernel
theorem dX7_set_9 : decode cX7_set 9 = .ok (.iconst 1, 1) := by decide +kernel
theorem dX7_set_10 : decode cX7_set 10 = .ok (.iconst 4, 1) := by decide +kernel
theorem dX7_set_11 : decode cX7_set 11 = .ok (.invokestatic 92, 3) := by decide +kernel
theorem dX7_set_14 : decode cX7_set 14 = .ok (.ifCond .eq 32, 3) := by decide +kernel
theorem dX7_set_17 : decode cX7_set 17 = .ok (.iload_n 3, 1) := by decide +kernel
theorem dX7_set_18 : decode cX7_set 18 = .ok (.iconst 0, 1) := by decide +kernel
theorem dX7_set_19 : decode cX7_set 19 = .ok (.iload_n 2, 1) := by decide +kernel
theorem dX7_set_20 : decode cX7_set 20 = .ok (.invokestatic 142, 3) := by decide +kernel
theorem dX7_set_23 : decode cX7_set 23 = .ok (.invokestatic 92, 3) := by decide +kernel
theorem dX7_set_26 : decode cX7_set 26 = .ok (.ifCond .eq 20, 3) := by decide +kernel
theorem dX7_set_29 : decode cX7_set 29 = .ok (.aload_n 0, 1) := by decide +kernel
theorem dX7_set_30 : decode cX7_set 30 = .ok (.bipush 8, 2) := by decide +kernel
theorem dX7_set_32 : decode cX7_set 32 = .ok (.bipush 7, 2) := by decide +kernel
theorem dX7_set_34 : decode cX7_set 34 = .ok (.iload_n 1, 1) := by decide +kernel
theorem dX7_set_35 : decode cX7_set 35 = .ok (.imul, 1) := by decide +kernel
theorem dX7_set_36 : decode cX7_set 36 = .ok (.iadd, 1) := by decide +kernel
theorem dX7_set_37 : decode cX7_set 37 = .ok (.iload_n 2, 1) := by decide +kernel
theorem dX7_set_38 : decode cX7_set 38 = .ok (.iadd, 1) := by decide +kernel
theorem dX7_set_39 : decode cX7_set 39 = .ok (.iload_n 3, 1) := by decide +kernel
theorem dX7_set_40 : decode cX7_set 40 = .ok (.invokevirtual 139, 3) := by decide +kernel
theorem dX7_set_43 : decode cX7_set 43 = .ok (.goto 5, 3) := by decide +kernel
theorem dX7_set_46 : decode cX7_set 46 = .ok (.ldc 100, 2) := by decide +kernel
theorem dX7_set_48 : decode cX7_set 48 = .ok (.ireturn, 1) := by decide +kernel
theorem dX7_draw_0 : decode cX7_draw 0 = .ok (.aload_n 0, 1) := by decide +kernel
theorem dX7_draw_1 : decode cX7_draw 1 = .ok (.getfield 9, 3) := by decide +kernel
theorem dX7_draw_4 : decode cX7_draw 4 = .ok (.iconst 0, 1) := by decide +kernel
theorem dX7_draw_5 : decode cX7_draw 5 = .ok (.aload_n 0, 1) := by decide +kernel
theorem dX7_draw_6 : decode cX7_draw 6 = .ok (.getfield 9, 3) := by decide +kernel
theorem dX7_draw_9 : decode cX7_draw 9 = .ok (.iconst 0, 1) := by decide +kernel
theorem dX7_draw_10 : decode cX7_draw 10 = .ok (.iaload, 1) := by decide +kernel
theorem dX7_draw_11 : decode cX7_draw 11 = .ok (.ldc 145, 2) := by decide +kernel
theorem dX7_draw_13 : decode cX7_draw 13 = .ok (.imul, 1) := by decide +kernel
theorem dX7_draw_14 : decode cX7_draw 14 = .ok (.sipush 12345, 3) := by decide +kernel
theorem dX7_draw_17 : decode cX7_draw 17 = .ok (.iadd, 1) := by decide +kernel
theorem dX7_draw_18 : decode cX7_draw 18 = .ok (.iastore, 1) := by decide +kernel
theorem dX7_draw_19 : decode cX7_draw 19 = .ok (.aload_n 0, 1) := by decide +kernel
theorem dX7_draw_20 : decode cX7_draw 20 = .ok (.getfield 9, 3) := by decide +kernel
theorem dX7_draw_23 : decode cX7_draw 23 = .ok (.iconst 0, 1) := by decide +kernel
theorem dX7_draw_24 : decode cX7_draw 24 = .ok (.iaload, 1) := by decide +kernel
theorem dX7_draw_25 : decode cX7_draw 25 = .ok (.bipush 8, 2) := by decide +kernel
theorem dX7_draw_27 : decode cX7_draw 27 = .ok (.iushr, 1) := by decide +kernel
theorem dX7_draw_28 : decode cX7_draw 28 = .ok (.ireturn, 1) := by decide +kernel
theorem dX7_deal_0 : decode cX7_deal 0 = .ok (.iload_n 1, 1) := by decide +kernel
theorem dX7_deal_1 : decode cX7_deal 1 = .ok (.iconst 1, 1) := by decide +kernel
theorem dX7_deal_2 : decode cX7_deal 2 = .ok (.bipush 10, 2) := by decide +kernel
theorem dX7_deal_4 : decode cX7_deal 4 = .ok (.invokestatic 92, 3) := by decide +kernel
theorem dX7_deal_7 : decode cX7_deal 7 = .ok (.ifCond .ne 6, 3) := by decide +kernel
theorem dX7_deal_10 : decode cX7_deal 10 = .ok (.ldc 100, 2) := by decide +kernel
theorem dX7_deal_12 : decode cX7_deal 12 = .ok (.ireturn, 1) := by decide +kernel
theorem dX7_deal_13 : decode cX7_deal 13 = .ok (.iconst 0, 1) := by decide +kernel
theorem dX7_deal_14 : decode cX7_deal 14 = .ok (.istore_n 2, 1) := by decide +kernel
theorem dX7_deal_15 : decode cX7_deal 15 = .ok (.iload_n 2, 1) := by decide +kernel
theorem dX7_deal_16 : decode cX7_deal 16 = .ok (.iload_n 1, 1) := by decide +kernel
theorem dX7_deal_17 : decode cX7_deal 17 = .ok (.if_icmp .ge 64, 3) := by decide +kernel
theorem dX7_deal_20 : decode cX7_deal 20 = .ok (.aload_n 0, 1) := by decide +kernel
theorem dX7_deal_21 : decode cX7_deal 21 = .ok (.getfield 9, 3) := by decide +kernel
theorem dX7_deal_24 : decode cX7_deal 24 = .ok (.iconst 1, 1) := by decide +kernel
theorem dX7_deal_25 : decode cX7_deal 25 = .ok (.iaload, 1) := by decide +kernel
theorem dX7_deal_26 : decode cX7_deal 26 = .ok (.bipush 10, 2) := by decide +kernel
theorem dX7_deal_28 : decode cX7_deal 28 = .ok (.if_icmp .ge 53, 3) := by decide +kernel
theorem dX7_deal_31 : decode cX7_deal 31 = .ok (.aload_n 0, 1) := by decide +kernel
theorem dX7_deal_32 : decode cX7_deal 32 = .ok (.invokevirtual 146, 3) := by decide +kernel
theorem dX7_deal_35 : decode cX7_deal 35 = .ok (.bipush 6, 2) := by decide +kernel
theorem dX7_deal_37 : decode cX7_deal 37 = .ok (.irem, 1) := by decide +kernel
theorem dX7_deal_38 : decode cX7_deal 38 = .ok (.istore_n 3, 1) := by decide +kernel
theorem dX7_deal_39 : decode cX7_deal 39 = .ok (.aload_n 0, 1) := by decide +kernel
theorem dX7_deal_40 : decode cX7_deal 40 = .ok (.invokevirtual 146, 3) := by decide +kernel
theorem dX7_deal_43 : decode cX7_deal 43 = .ok (.bipush 60, 2) := by decide +kernel
theorem dX7_deal_45 : decode cX7_deal 45 = .ok (.irem, 1) := by decide +kernel
theorem dX7_deal_46 : decode cX7_deal 46 = .ok (.istore 4, 2) := by decide +kernel
theorem dX7_deal_48 : decode cX7_deal 48 = .ok (.aload_n 0, 1) := by decide +kernel
theorem dX7_deal_49 : decode cX7_deal 49 = .ok (.invokevirtual 146, 3) := by decide +kernel
theorem dX7_deal_52 : decode cX7_deal 52 = .ok (.bipush 80, 2) := by decide +kernel
theorem dX7_deal_54 : decode cX7_deal 54 = .ok (.irem, 1) := by decide +kernel
theorem dX7_deal_55 : decode cX7_deal 55 = .ok (.istore 5, 2) := by decide +kernel
theorem dX7_deal_57 : decode cX7_deal 57 = .ok (.aload_n 0, 1) := by decide +kernel
theorem dX7_deal_58 : decode cX7_deal 58 = .ok (.iload_n 3, 1) := by decide +kernel
theorem dX7_deal_59 : decode cX7_deal 59 = .ok (.iload 4, 2) := by decide +kernel
theorem dX7_deal_61 : decode cX7_deal 61 = .ok (.iload 5, 2) := by decide +kernel
theorem dX7_deal_63 : decode cX7_deal 63 = .ok (.aload_n 0, 1) := by decide +kernel
theorem dX7_deal_64 : decode cX7_deal 64 = .ok (.invokevirtual 146, 3) := by decide +kernel
theorem dX7_deal_67 : decode cX7_deal 67 = .ok (.bipush 40, 2) := by decide +kernel
theorem dX7_deal_69 : decode cX7_deal 69 = .ok (.irem, 1) := by decide +kernel
theorem dX7_deal_70 : decode cX7_deal 70 = .ok (.invokevirtual 102, 3) := by decide +kernel
theorem dX7_deal_73 : decode cX7_deal 73 = .ok (.istore 6, 2) := by decide +kernel
theorem dX7_deal_75 : decode cX7_deal 75 = .ok (.iinc 2 1, 3) := by decide +kernel
theorem dX7_deal_78 : decode cX7_deal 78 = .ok (.goto (-63), 3) := by decide +kernel
theorem dX7_deal_81 : decode cX7_deal 81 = .ok (.iload_n 2, 1) := by decide +kernel
theorem dX7_deal_82 : decode cX7_deal 82 = .ok (.ireturn, 1) := by decide +kernel
theorem dX7_seed_0 : decode cX7_seed 0 = .ok (.aload_n 0, 1) := by decide +kernel
theorem dX7_seed_1 : decode cX7_seed 1 = .ok (.iconst 0, 1) := by decide +kernel
theorem dX7_seed_2 : decode cX7_seed 2 = .ok (.iload_n 1, 1) := by decide +kernel
theorem dX7_seed_3 : decode cX7_seed 3 = .ok (.invokevirtual 139, 3) := by decide +kernel
theorem dX7_seed_6 : decode cX7_seed 6 = .ok (.ireturn, 1) := by decide +kernel
theorem dX7_rule_0 : decode cX7_rule 0 = .ok (.iload_n 1, 1) := by decide +kernel
theorem dX7_rule_1 : decode cX7_rule 1 = .ok (.iconst 0, 1) := by decide +kernel
theorem dX7_rule_2 : decode cX7_rule 2 = .ok (.iconst 2, 1) := by decide +kernel
theorem dX7_rule_3 : decode cX7_rule 3 = .ok (.invokestatic 92, 3) := by decide +kernel
theorem dX7_rule_6 : decode cX7_rule 6 = .ok (.ifCond .eq 42, 3) := by decide +kernel
theorem dX7_rule_9 : decode cX7_rule 9 = .ok (.iload_n 2, 1) := by decide +kernel
theorem dX7_rule_10 : decode cX7_rule 10 = .ok (.iload_n 1, 1) := by decide +kernel
theorem dX7_rule_11 : decode cX7_rule 11 = .ok (.iconst 2, 1) := by decide +kernel
theorem dX7_rule_12 : decode cX7_rule 12 = .ok (.if_icmp .ne 8, 3) := by decide +kernel
theorem dX7_rule_15 : decode cX7_rule 15 = .ok (.bipush 60, 2) := by decide +kernel
theorem dX7_rule_17 : decode cX7_rule 17 = .ok (.goto 4, 3) := by decide +kernel
theorem dX7_rule_20 : decode cX7_rule 20 = .ok (.iconst 0, 1) := by decide +kernel
theorem dX7_rule_21 : decode cX7_rule 21 = .ok (.iload_n 1, 1) := by decide +kernel
theorem dX7_rule_22 : decode cX7_rule 22 = .ok (.ifCond .ne 7, 3) := by decide +kernel
theorem dX7_rule_25 : decode cX7_rule 25 = .ok (.iconst 2, 1) := by decide +kernel
theorem dX7_rule_26 : decode cX7_rule 26 = .ok (.goto 16, 3) := by decide +kernel
theorem dX7_rule_29 : decode cX7_rule 29 = .ok (.iload_n 1, 1) := by decide +kernel
theorem dX7_rule_30 : decode cX7_rule 30 = .ok (.iconst 1, 1) := by decide +kernel
theorem dX7_rule_31 : decode cX7_rule 31 = .ok (.if_icmp .ne 8, 3) := by decide +kernel
theorem dX7_rule_34 : decode cX7_rule 34 = .ok (.bipush 9, 2) := by decide +kernel
theorem dX7_rule_36 : decode cX7_rule 36 = .ok (.goto 6, 3) := by decide +kernel
theorem dX7_rule_39 : decode cX7_rule 39 = .ok (.sipush 999, 3) := by decide +kernel
theorem dX7_rule_42 : decode cX7_rule 42 = .ok (.invokestatic 92, 3) := by decide +kernel
theorem dX7_rule_45 : decode cX7_rule 45 = .ok (.ifCond .ne 6, 3) := by decide +kernel
theorem dX7_rule_48 : decode cX7_rule 48 = .ok (.ldc 100, 2) := by decide +kernel
theorem dX7_rule_50 : decode cX7_rule 50 = .ok (.ireturn, 1) := by decide +kernel
theorem dX7_rule_51 : decode cX7_rule 51 = .ok (.aload_n 0, 1) := by decide +kernel
theorem dX7_rule_52 : decode cX7_rule 52 = .ok (.iconst 3, 1) := by decide +kernel
theorem dX7_rule_53 : decode cX7_rule 53 = .ok (.iload_n 1, 1) := by decide +kernel
theorem dX7_rule_54 : decode cX7_rule 54 = .ok (.iadd, 1) := by decide +kernel
theorem dX7_rule_55 : decode cX7_rule 55 = .ok (.iload_n 2, 1) := by decide +kernel
theorem dX7_rule_56 : decode cX7_rule 56 = .ok (.invokevirtual 139, 3) := by decide +kernel
theorem dX7_rule_59 : decode cX7_rule 59 = .ok (.ireturn, 1) := by decide +kernel
theorem dX7_turnOf_0 : decode cX7_turnOf 0 = .ok (.aload_n 0, 1) := by decide +kernel
theorem dX7_turnOf_1 : decode cX7_turnOf 1 = .ok (.getfield 9, 3) := by decide +kernel
theorem dX7_turnOf_4 : decode cX7_turnOf 4 = .ok (.iconst 3, 1) := by decide +kernel
theorem dX7_turnOf_5 : decode cX7_turnOf 5 = .ok (.iaload, 1) := by decide +kernel
theorem dX7_turnOf_6 : decode cX7_turnOf 6 = .ok (.ifCond .ne 12, 3) := by decide +kernel
theorem dX7_turnOf_9 : decode cX7_turnOf 9 = .ok (.aload_n 0, 1) := by decide +kernel
theorem dX7_turnOf_10 : decode cX7_turnOf 10 = .ok (.iload_n 1, 1) := by decide +kernel
theorem dX7_turnOf_11 : decode cX7_turnOf 11 = .ok (.iconst 4, 1) := by decide +kernel
theorem dX7_turnOf_12 : decode cX7_turnOf 12 = .ok (.invokevirtual 106, 3) := by decide +kernel
theorem dX7_turnOf_15 : decode cX7_turnOf 15 = .ok (.goto 29, 3) := by decide +kernel
theorem dX7_turnOf_18 : decode cX7_turnOf 18 = .ok (.aload_n 0, 1) := by decide +kernel
theorem dX7_turnOf_19 : decode cX7_turnOf 19 = .ok (.getfield 9, 3) := by decide +kernel
theorem dX7_turnOf_22 : decode cX7_turnOf 22 = .ok (.iconst 3, 1) := by decide +kernel
theorem dX7_turnOf_23 : decode cX7_turnOf 23 = .ok (.iaload, 1) := by decide +kernel
theorem dX7_turnOf_24 : decode cX7_turnOf 24 = .ok (.iconst 1, 1) := by decide +kernel
theorem dX7_turnOf_25 : decode cX7_turnOf 25 = .ok (.if_icmp .ne 13, 3) := by decide +kernel
theorem dX7_turnOf_28 : decode cX7_turnOf 28 = .ok (.aload_n 0, 1) := by decide +kernel
theorem dX7_turnOf_29 : decode cX7_turnOf 29 = .ok (.iload_n 1, 1) := by decide +kernel
theorem dX7_turnOf_30 : decode cX7_turnOf 30 = .ok (.iconst 4, 1) := by decide +kernel
theorem dX7_turnOf_31 : decode cX7_turnOf 31 = .ok (.invokevirtual 106, 3) := by decide +kernel
theorem dX7_turnOf_34 : decode cX7_turnOf 34 = .ok (.ineg, 1) := by decide +kernel
theorem dX7_turnOf_35 : decode cX7_turnOf 35 = .ok (.goto 9, 3) := by decide +kernel
theorem dX7_turnOf_38 : decode cX7_turnOf 38 = .ok (.aload_n 0, 1) := by decide +kernel
theorem dX7_turnOf_39 : decode cX7_turnOf 39 = .ok (.iload_n 1, 1) := by decide +kernel
theorem dX7_turnOf_40 : decode cX7_turnOf 40 = .ok (.iconst 1, 1) := by decide +kernel
theorem dX7_turnOf_41 : decode cX7_turnOf 41 = .ok (.invokevirtual 106, 3) := by decide +kernel
theorem dX7_turnOf_44 : decode cX7_turnOf 44 = .ok (.ireturn, 1) := by decide +kernel
theorem dX7_findOrder_0 : decode cX7_findOrder 0 = .ok (.iconst 0, 1) := by decide +kernel
theorem dX7_findOrder_1 : decode cX7_findOrder 1 = .ok (.istore_n 1, 1) := by decide +kernel
theorem dX7_findOrder_2 : decode cX7_findOrder 2 = .ok (.iload_n 1, 1) := by decide +kernel
theorem dX7_findOrder_3 : decode cX7_findOrder 3 = .ok (.bipush 10, 2) := by decide +kernel
theorem dX7_findOrder_5 : decode cX7_findOrder 5 = .ok (.if_icmp .ge 16, 3) := by decide +kernel
theorem dX7_findOrder_8 : decode cX7_findOrder 8 = .ok (.aload_n 0, 1) := by decide +kernel
theorem dX7_findOrder_9 : decode cX7_findOrder 9 = .ok (.getfield 26, 3) := by decide +kernel
theorem dX7_findOrder_12 : decode cX7_findOrder 12 = .ok (.iload_n 1, 1) := by decide +kernel
theorem dX7_findOrder_13 : decode cX7_findOrder 13 = .ok (.iconst 0, 1) := by decide +kernel
theorem dX7_findOrder_14 : decode cX7_findOrder 14 = .ok (.bastore, 1) := by decide +kernel
theorem dX7_findOrder_15 : decode cX7_findOrder 15 = .ok (.iinc 1 1, 3) := by decide +kernel
theorem dX7_findOrder_18 : decode cX7_findOrder 18 = .ok (.goto (-16), 3) := by decide +kernel
theorem dX7_findOrder_21 : decode cX7_findOrder 21 = .ok (.iconst 0, 1) := by decide +kernel
theorem dX7_findOrder_22 : decode cX7_findOrder 22 = .ok (.istore_n 1, 1) := by decide +kernel
theorem dX7_findOrder_23 : decode cX7_findOrder 23 = .ok (.iload_n 1, 1) := by decide +kernel
theorem dX7_findOrder_24 : decode cX7_findOrder 24 = .ok (.aload_n 0, 1) := by decide +kernel
theorem dX7_findOrder_25 : decode cX7_findOrder 25 = .ok (.getfield 9, 3) := by decide +kernel
theorem dX7_findOrder_28 : decode cX7_findOrder 28 = .ok (.iconst 1, 1) := by decide +kernel
theorem dX7_findOrder_29 : decode cX7_findOrder 29 = .ok (.iaload, 1) := by decide +kernel
theorem dX7_findOrder_30 : decode cX7_findOrder 30 = .ok (.if_icmp .ge 75, 3) := by decide +kernel
theorem dX7_findOrder_33 : decode cX7_findOrder 33 = .ok (.iconst (-1), 1) := by decide +kernel
theorem dX7_findOrder_34 : decode cX7_findOrder 34 = .ok (.istore_n 2, 1) := by decide +kernel
theorem dX7_findOrder_35 : decode cX7_findOrder 35 = .ok (.iconst 0, 1) := by decide +kernel
theorem dX7_findOrder_36 : decode cX7_findOrder 36 = .ok (.istore_n 3, 1) := by decide +kernel
theorem dX7_findOrder_37 : decode cX7_findOrder 37 = .ok (.iload_n 3, 1) := by decide +kernel
theorem dX7_findOrder_38 : decode cX7_findOrder 38 = .ok (.aload_n 0, 1) := by decide +kernel
theorem dX7_findOrder_39 : decode cX7_findOrder 39 = .ok (.getfield 9, 3) := by decide +kernel
theorem dX7_findOrder_42 : decode cX7_findOrder 42 = .ok (.iconst 1, 1) := by decide +kernel
theorem dX7_findOrder_43 : decode cX7_findOrder 43 = .ok (.iaload, 1) := by decide +kernel
theorem dX7_findOrder_44 : decode cX7_findOrder 44 = .ok (.if_icmp .ge 41, 3) := by decide +kernel
theorem dX7_findOrder_47 : decode cX7_findOrder 47 = .ok (.aload_n 0, 1) := by decide +kernel
theorem dX7_findOrder_48 : decode cX7_findOrder 48 = .ok (.getfield 26, 3) := by decide +kernel
theorem dX7_findOrder_51 : decode cX7_findOrder 51 = .ok (.iload_n 3, 1) := by decide +kernel
theorem dX7_findOrder_52 : decode cX7_findOrder 52 = .ok (.baload, 1) := by decide +kernel
theorem dX7_findOrder_53 : decode cX7_findOrder 53 = .ok (.ifCond .ne 26, 3) := by decide +kernel
theorem dX7_findOrder_56 : decode cX7_findOrder 56 = .ok (.iload_n 2, 1) := by decide +kernel
theorem dX7_findOrder_57 : decode cX7_findOrder 57 = .ok (.ifCond .lt 16, 3) := by decide +kernel
theorem dX7_findOrder_60 : decode cX7_findOrder 60 = .ok (.aload_n 0, 1) := by decide +kernel
theorem dX7_findOrder_61 : decode cX7_findOrder 61 = .ok (.iload_n 3, 1) := by decide +kernel
theorem dX7_findOrder_62 : decode cX7_findOrder 62 = .ok (.invokevirtual 150, 3) := by decide +kernel
theorem dX7_findOrder_65 : decode cX7_findOrder 65 = .ok (.aload_n 0, 1) := by decide +kernel
theorem dX7_findOrder_66 : decode cX7_findOrder 66 = .ok (.iload_n 2, 1) := by decide +kernel
theorem dX7_findOrder_67 : decode cX7_findOrder 67 = .ok (.invokevirtual 150, 3) := by decide +kernel
theorem dX7_findOrder_70 : decode cX7_findOrder 70 = .ok (.if_icmp .ge 7, 3) := by decide +kernel
theorem dX7_findOrder_73 : decode cX7_findOrder 73 = .ok (.iload_n 3, 1) := by decide +kernel
theorem dX7_findOrder_74 : decode cX7_findOrder 74 = .ok (.goto 4, 3) := by decide +kernel
theorem dX7_findOrder_77 : decode cX7_findOrder 77 = .ok (.iload_n 2, 1) := by decide +kernel
theorem dX7_findOrder_78 : decode cX7_findOrder 78 = .ok (.istore_n 2, 1) := by decide +kernel
theorem dX7_findOrder_79 : decode cX7_findOrder 79 = .ok (.iinc 3 1, 3) := by decide +kernel
theorem dX7_findOrder_82 : decode cX7_findOrder 82 = .ok (.goto (-45), 3) := by decide +kernel
theorem dX7_findOrder_85 : decode cX7_findOrder 85 = .ok (.aload_n 0, 1) := by decide +kernel
theorem dX7_findOrder_86 : decode cX7_findOrder 86 = .ok (.getfield 26, 3) := by decide +kernel
theorem dX7_findOrder_89 : decode cX7_findOrder 89 = .ok (.iload_n 2, 1) := by decide +kernel
theorem dX7_findOrder_90 : decode cX7_findOrder 90 = .ok (.iconst 1, 1) := by decide +kernel
theorem dX7_findOrder_91 : decode cX7_findOrder 91 = .ok (.bastore, 1) := by decide +kernel
theorem dX7_findOrder_92 : decode cX7_findOrder 92 = .ok (.aload_n 0, 1) := by decide +kernel
theorem dX7_findOrder_93 : decode cX7_findOrder 93 = .ok (.getfield 23, 3) := by decide +kernel
theorem dX7_findOrder_96 : decode cX7_findOrder 96 = .ok (.iload_n 1, 1) := by decide +kernel
theorem dX7_findOrder_97 : decode cX7_findOrder 97 = .ok (.iload_n 2, 1) := by decide +kernel
theorem dX7_findOrder_98 : decode cX7_findOrder 98 = .ok (.iastore, 1) := by decide +kernel
theorem dX7_findOrder_99 : decode cX7_findOrder 99 = .ok (.iinc 1 1, 3) := by decide +kernel
theorem dX7_findOrder_102 : decode cX7_findOrder 102 = .ok (.goto (-79), 3) := by decide +kernel
theorem dX7_findOrder_105 : decode cX7_findOrder 105 = .ok (.return_, 1) := by decide +kernel
theorem dX7_order_0 : decode cX7_order 0 = .ok (.aload_n 0, 1) := by decide +kernel
theorem dX7_order_1 : decode cX7_order 1 = .ok (.iload_n 1, 1) := by decide +kernel
theorem dX7_order_2 : decode cX7_order 2 = .ok (.invokevirtual 121, 3) := by decide +kernel
theorem dX7_order_5 : decode cX7_order 5 = .ok (.ifCond .ne 6, 3) := by decide +kernel
theorem dX7_order_8 : decode cX7_order 8 = .ok (.ldc 100, 2) := by decide +kernel
theorem dX7_order_10 : decode cX7_order 10 = .ok (.ireturn, 1) := by decide +kernel
theorem dX7_order_11 : decode cX7_order 11 = .ok (.aload_n 0, 1) := by decide +kernel
theorem dX7_order_12 : decode cX7_order 12 = .ok (.invokevirtual 153, 3) := by decide +kernel
theorem dX7_order_15 : decode cX7_order 15 = .ok (.aload_n 0, 1) := by decide +kernel
theorem dX7_order_16 : decode cX7_order 16 = .ok (.getfield 23, 3) := by decide +kernel
theorem dX7_order_19 : decode cX7_order 19 = .ok (.iload_n 1, 1) := by decide +kernel
theorem dX7_order_20 : decode cX7_order 20 = .ok (.iaload, 1) := by decide +kernel
theorem dX7_order_21 : decode cX7_order 21 = .ok (.ireturn, 1) := by decide +kernel
theorem dX7_apart_0 : decode cX7_apart 0 = .ok (.iload_n 0, 1) := by decide +kernel
theorem dX7_apart_1 : decode cX7_apart 1 = .ok (.iload_n 1, 1) := by decide +kernel
theorem dX7_apart_2 : decode cX7_apart 2 = .ok (.if_icmp .ge 9, 3) := by decide +kernel
theorem dX7_apart_5 : decode cX7_apart 5 = .ok (.iload_n 1, 1) := by decide +kernel
theorem dX7_apart_6 : decode cX7_apart 6 = .ok (.iload_n 0, 1) := by decide +kernel
theorem dX7_apart_7 : decode cX7_apart 7 = .ok (.isub, 1) := by decide +kernel
theorem dX7_apart_8 : decode cX7_apart 8 = .ok (.goto 6, 3) := by decide +kernel
theorem dX7_apart_11 : decode cX7_apart 11 = .ok (.iload_n 0, 1) := by decide +kernel
theorem dX7_apart_12 : decode cX7_apart 12 = .ok (.iload_n 1, 1) := by decide +kernel
theorem dX7_apart_13 : decode cX7_apart 13 = .ok (.isub, 1) := by decide +kernel
theorem dX7_apart_14 : decode cX7_apart 14 = .ok (.ireturn, 1) := by decide +kernel
theorem dX7_lights_0 : decode cX7_lights 0 = .ok (.iload_n 2, 1) := by decide +kernel
theorem dX7_lights_1 : decode cX7_lights 1 = .ok (.aload_n 0, 1) := by decide +kernel
theorem dX7_lights_2 : decode cX7_lights 2 = .ok (.iload_n 1, 1) := by decide +kernel
theorem dX7_lights_3 : decode cX7_lights 3 = .ok (.invokevirtual 125, 3) := by decide +kernel
theorem dX7_lights_6 : decode cX7_lights 6 = .ok (.iadd, 1) := by decide +kernel
theorem dX7_lights_7 : decode cX7_lights 7 = .ok (.istore_n 3, 1) := by decide +kernel
theorem dX7_lights_8 : decode cX7_lights 8 = .ok (.iload_n 3, 1) := by decide +kernel
theorem dX7_lights_9 : decode cX7_lights 9 = .ok (.aload_n 0, 1) := by decide +kernel
theorem dX7_lights_10 : decode cX7_lights 10 = .ok (.getfield 9, 3) := by decide +kernel
theorem dX7_lights_13 : decode cX7_lights 13 = .ok (.iconst 5, 1) := by decide +kernel
theorem dX7_lights_14 : decode cX7_lights 14 = .ok (.iaload, 1) := by decide +kernel
theorem dX7_lights_15 : decode cX7_lights 15 = .ok (.if_icmp .le 12, 3) := by decide +kernel
theorem dX7_lights_18 : decode cX7_lights 18 = .ok (.aload_n 0, 1) := by decide +kernel
theorem dX7_lights_19 : decode cX7_lights 19 = .ok (.getfield 9, 3) := by decide +kernel
theorem dX7_lights_22 : decode cX7_lights 22 = .ok (.iconst 5, 1) := by decide +kernel
theorem dX7_lights_23 : decode cX7_lights 23 = .ok (.iaload, 1) := by decide +kernel
theorem dX7_lights_24 : decode cX7_lights 24 = .ok (.goto 4, 3) := by decide +kernel
theorem dX7_lights_27 : decode cX7_lights 27 = .ok (.iload_n 3, 1) := by decide +kernel
theorem dX7_lights_28 : decode cX7_lights 28 = .ok (.istore_n 3, 1) := by decide +kernel
theorem dX7_lights_29 : decode cX7_lights 29 = .ok (.iload_n 3, 1) := by decide +kernel
theorem dX7_lights_30 : decode cX7_lights 30 = .ok (.iload_n 2, 1) := by decide +kernel
theorem dX7_lights_31 : decode cX7_lights 31 = .ok (.if_icmp .ge 7, 3) := by decide +kernel
theorem dX7_lights_34 : decode cX7_lights 34 = .ok (.iload_n 2, 1) := by decide +kernel
theorem dX7_lights_35 : decode cX7_lights 35 = .ok (.goto 4, 3) := by decide +kernel
theorem dX7_lights_38 : decode cX7_lights 38 = .ok (.iload_n 3, 1) := by decide +kernel
theorem dX7_lights_39 : decode cX7_lights 39 = .ok (.istore_n 3, 1) := by decide +kernel
theorem dX7_lights_40 : decode cX7_lights 40 = .ok (.aload_n 0, 1) := by decide +kernel
theorem dX7_lights_41 : decode cX7_lights 41 = .ok (.iload_n 1, 1) := by decide +kernel
theorem dX7_lights_42 : decode cX7_lights 42 = .ok (.iconst 2, 1) := by decide +kernel
theorem dX7_lights_43 : decode cX7_lights 43 = .ok (.invokevirtual 106, 3) := by decide +kernel
theorem dX7_lights_46 : decode cX7_lights 46 = .ok (.ifCond .ne 17, 3) := by decide +kernel
theorem dX7_lights_49 : decode cX7_lights 49 = .ok (.aload_n 0, 1) := by decide +kernel
theorem dX7_lights_50 : decode cX7_lights 50 = .ok (.iload_n 1, 1) := by decide +kernel
theorem dX7_lights_51 : decode cX7_lights 51 = .ok (.iconst 0, 1) := by decide +kernel
theorem dX7_lights_52 : decode cX7_lights 52 = .ok (.invokevirtual 106, 3) := by decide +kernel
theorem dX7_lights_55 : decode cX7_lights 55 = .ok (.iconst 5, 1) := by decide +kernel
theorem dX7_lights_56 : decode cX7_lights 56 = .ok (.if_icmp .eq 7, 3) := by decide +kernel
theorem dX7_lights_59 : decode cX7_lights 59 = .ok (.iconst 1, 1) := by decide +kernel
theorem dX7_lights_60 : decode cX7_lights 60 = .ok (.goto 4, 3) := by decide +kernel
theorem dX7_lights_63 : decode cX7_lights 63 = .ok (.iconst 0, 1) := by decide +kernel
theorem dX7_lights_64 : decode cX7_lights 64 = .ok (.istore 4, 2) := by decide +kernel
theorem dX7_lights_66 : decode cX7_lights 66 = .ok (.aload_n 0, 1) := by decide +kernel
theorem dX7_lights_67 : decode cX7_lights 67 = .ok (.iload_n 1, 1) := by decide +kernel
theorem dX7_lights_68 : decode cX7_lights 68 = .ok (.bipush 6, 2) := by decide +kernel
theorem dX7_lights_70 : decode cX7_lights 70 = .ok (.aload_n 0, 1) := by decide +kernel
theorem dX7_lights_71 : decode cX7_lights 71 = .ok (.iload_n 1, 1) := by decide +kernel
theorem dX7_lights_72 : decode cX7_lights 72 = .ok (.bipush 6, 2) := by decide +kernel
theorem dX7_lights_74 : decode cX7_lights 74 = .ok (.invokevirtual 106, 3) := by decide +kernel
theorem dX7_lights_77 : decode cX7_lights 77 = .ok (.iload 4, 2) := by decide +kernel
theorem dX7_lights_79 : decode cX7_lights 79 = .ok (.ifCond .eq 7, 3) := by decide +kernel
theorem dX7_lights_82 : decode cX7_lights 82 = .ok (.iconst 1, 1) := by decide +kernel
theorem dX7_lights_83 : decode cX7_lights 83 = .ok (.goto 4, 3) := by decide +kernel
theorem dX7_lights_86 : decode cX7_lights 86 = .ok (.iconst 0, 1) := by decide +kernel
theorem dX7_lights_87 : decode cX7_lights 87 = .ok (.iadd, 1) := by decide +kernel
theorem dX7_lights_88 : decode cX7_lights 88 = .ok (.invokevirtual 96, 3) := by decide +kernel
theorem dX7_lights_91 : decode cX7_lights 91 = .ok (.aload_n 0, 1) := by decide +kernel
theorem dX7_lights_92 : decode cX7_lights 92 = .ok (.iload_n 1, 1) := by decide +kernel
theorem dX7_lights_93 : decode cX7_lights 93 = .ok (.iconst 5, 1) := by decide +kernel
theorem dX7_lights_94 : decode cX7_lights 94 = .ok (.iload_n 2, 1) := by decide +kernel
theorem dX7_lights_95 : decode cX7_lights 95 = .ok (.invokevirtual 96, 3) := by decide +kernel
theorem dX7_lights_98 : decode cX7_lights 98 = .ok (.aload_n 0, 1) := by decide +kernel
theorem dX7_lights_99 : decode cX7_lights 99 = .ok (.iload_n 1, 1) := by decide +kernel
theorem dX7_lights_100 : decode cX7_lights 100 = .ok (.iconst 4, 1) := by decide +kernel
theorem dX7_lights_101 : decode cX7_lights 101 = .ok (.iload_n 3, 1) := by decide +kernel
theorem dX7_lights_102 : decode cX7_lights 102 = .ok (.invokevirtual 96, 3) := by decide +kernel
theorem dX7_lights_105 : decode cX7_lights 105 = .ok (.aload_n 0, 1) := by decide +kernel
theorem dX7_lights_106 : decode cX7_lights 106 = .ok (.iload_n 1, 1) := by decide +kernel
theorem dX7_lights_107 : decode cX7_lights 107 = .ok (.iconst 2, 1) := by decide +kernel
theorem dX7_lights_108 : decode cX7_lights 108 = .ok (.aload_n 0, 1) := by decide +kernel
theorem dX7_lights_109 : decode cX7_lights 109 = .ok (.iload_n 1, 1) := by decide +kernel
theorem dX7_lights_110 : decode cX7_lights 110 = .ok (.iconst 2, 1) := by decide +kernel
theorem dX7_lights_111 : decode cX7_lights 111 = .ok (.invokevirtual 106, 3) := by decide +kernel
theorem dX7_lights_114 : decode cX7_lights 114 = .ok (.aload_n 0, 1) := by decide +kernel
theorem dX7_lights_115 : decode cX7_lights 115 = .ok (.iload_n 1, 1) := by decide +kernel
theorem dX7_lights_116 : decode cX7_lights 116 = .ok (.iload_n 3, 1) := by decide +kernel
theorem dX7_lights_117 : decode cX7_lights 117 = .ok (.iload_n 2, 1) := by decide +kernel
theorem dX7_lights_118 : decode cX7_lights 118 = .ok (.isub, 1) := by decide +kernel
theorem dX7_lights_119 : decode cX7_lights 119 = .ok (.invokevirtual 131, 3) := by decide +kernel
theorem dX7_lights_122 : decode cX7_lights 122 = .ok (.isub, 1) := by decide +kernel
theorem dX7_lights_123 : decode cX7_lights 123 = .ok (.invokevirtual 96, 3) := by decide +kernel
theorem dX7_lights_126 : decode cX7_lights 126 = .ok (.return_, 1) := by decide +kernel
theorem dX7_night_0 : decode cX7_night 0 = .ok (.aload_n 0, 1) := by decide +kernel
theorem dX7_night_1 : decode cX7_night 1 = .ok (.getfield 9, 3) := by decide +kernel
theorem dX7_night_4 : decode cX7_night 4 = .ok (.iconst 4, 1) := by decide +kernel
theorem dX7_night_5 : decode cX7_night 5 = .ok (.aload_n 0, 1) := by decide +kernel
theorem dX7_night_6 : decode cX7_night 6 = .ok (.invokevirtual 146, 3) := by decide +kernel
theorem dX7_night_9 : decode cX7_night 9 = .ok (.bipush 10, 2) := by decide +kernel
theorem dX7_night_11 : decode cX7_night 11 = .ok (.irem, 1) := by decide +kernel
theorem dX7_night_12 : decode cX7_night 12 = .ok (.iastore, 1) := by decide +kernel
theorem dX7_night_13 : decode cX7_night 13 = .ok (.aload_n 0, 1) := by decide +kernel
theorem dX7_night_14 : decode cX7_night 14 = .ok (.invokevirtual 153, 3) := by decide +kernel
theorem dX7_night_17 : decode cX7_night 17 = .ok (.iconst 0, 1) := by decide +kernel
theorem dX7_night_18 : decode cX7_night 18 = .ok (.istore_n 1, 1) := by decide +kernel
theorem dX7_night_19 : decode cX7_night 19 = .ok (.iconst 0, 1) := by decide +kernel
theorem dX7_night_20 : decode cX7_night 20 = .ok (.istore_n 2, 1) := by decide +kernel
theorem dX7_night_21 : decode cX7_night 21 = .ok (.iconst 0, 1) := by decide +kernel
theorem dX7_night_22 : decode cX7_night 22 = .ok (.istore_n 3, 1) := by decide +kernel
theorem dX7_night_23 : decode cX7_night 23 = .ok (.iload_n 3, 1) := by decide +kernel
theorem dX7_night_24 : decode cX7_night 24 = .ok (.aload_n 0, 1) := by decide +kernel
theorem dX7_night_25 : decode cX7_night 25 = .ok (.getfield 9, 3) := by decide +kernel
theorem dX7_night_28 : decode cX7_night 28 = .ok (.iconst 1, 1) := by decide +kernel
theorem dX7_night_29 : decode cX7_night 29 = .ok (.iaload, 1) := by decide +kernel
theorem dX7_night_30 : decode cX7_night 30 = .ok (.if_icmp .ge 81, 3) := by decide +kernel
theorem dX7_night_33 : decode cX7_night 33 = .ok (.aload_n 0, 1) := by decide +kernel
theorem dX7_night_34 : decode cX7_night 34 = .ok (.getfield 23, 3) := by decide +kernel
theorem dX7_night_37 : decode cX7_night 37 = .ok (.iload_n 3, 1) := by decide +kernel
theorem dX7_night_38 : decode cX7_night 38 = .ok (.iaload, 1) := by decide +kernel
theorem dX7_night_39 : decode cX7_night 39 = .ok (.aload_n 0, 1) := by decide +kernel
theorem dX7_night_40 : decode cX7_night 40 = .ok (.getfield 19, 3) := by decide +kernel
theorem dX7_night_43 : decode cX7_night 43 = .ok (.if_icmp .eq 62, 3) := by decide +kernel
theorem dX7_night_46 : decode cX7_night 46 = .ok (.aload_n 0, 1) := by decide +kernel
theorem dX7_night_47 : decode cX7_night 47 = .ok (.aload_n 0, 1) := by decide +kernel
theorem dX7_night_48 : decode cX7_night 48 = .ok (.getfield 23, 3) := by decide +kernel
theorem dX7_night_51 : decode cX7_night 51 = .ok (.iload_n 3, 1) := by decide +kernel
theorem dX7_night_52 : decode cX7_night 52 = .ok (.iaload, 1) := by decide +kernel
theorem dX7_night_53 : decode cX7_night 53 = .ok (.iconst 1, 1) := by decide +kernel
theorem dX7_night_54 : decode cX7_night 54 = .ok (.invokevirtual 106, 3) := by decide +kernel
theorem dX7_night_57 : decode cX7_night 57 = .ok (.iload_n 2, 1) := by decide +kernel
theorem dX7_night_58 : decode cX7_night 58 = .ok (.invokestatic 156, 3) := by decide +kernel
theorem dX7_night_61 : decode cX7_night 61 = .ok (.iconst 1, 1) := by decide +kernel
theorem dX7_night_62 : decode cX7_night 62 = .ok (.iadd, 1) := by decide +kernel
theorem dX7_night_63 : decode cX7_night 63 = .ok (.istore 4, 2) := by decide +kernel
theorem dX7_night_65 : decode cX7_night 65 = .ok (.aload_n 0, 1) := by decide +kernel
theorem dX7_night_66 : decode cX7_night 66 = .ok (.aload_n 0, 1) := by decide +kernel
theorem dX7_night_67 : decode cX7_night 67 = .ok (.getfield 23, 3) := by decide +kernel
theorem dX7_night_70 : decode cX7_night 70 = .ok (.iload_n 3, 1) := by decide +kernel
theorem dX7_night_71 : decode cX7_night 71 = .ok (.iaload, 1) := by decide +kernel
theorem dX7_night_72 : decode cX7_night 72 = .ok (.iconst 1, 1) := by decide +kernel
theorem dX7_night_73 : decode cX7_night 73 = .ok (.invokevirtual 106, 3) := by decide +kernel
theorem dX7_night_76 : decode cX7_night 76 = .ok (.istore_n 2, 1) := by decide +kernel
theorem dX7_night_77 : decode cX7_night 77 = .ok (.iload_n 1, 1) := by decide +kernel
theorem dX7_night_78 : decode cX7_night 78 = .ok (.iload 4, 2) := by decide +kernel
theorem dX7_night_80 : decode cX7_night 80 = .ok (.iadd, 1) := by decide +kernel
theorem dX7_night_81 : decode cX7_night 81 = .ok (.istore_n 1, 1) := by decide +kernel
theorem dX7_night_82 : decode cX7_night 82 = .ok (.aload_n 0, 1) := by decide +kernel
theorem dX7_night_83 : decode cX7_night 83 = .ok (.getfield 9, 3) := by decide +kernel
theorem dX7_night_86 : decode cX7_night 86 = .ok (.bipush 6, 2) := by decide +kernel
theorem dX7_night_88 : decode cX7_night 88 = .ok (.dup2, 1) := by decide +kernel
theorem dX7_night_89 : decode cX7_night 89 = .ok (.iaload, 1) := by decide +kernel
theorem dX7_night_90 : decode cX7_night 90 = .ok (.iload 4, 2) := by decide +kernel
theorem dX7_night_92 : decode cX7_night 92 = .ok (.iadd, 1) := by decide +kernel
theorem dX7_night_93 : decode cX7_night 93 = .ok (.iastore, 1) := by decide +kernel
theorem dX7_night_94 : decode cX7_night 94 = .ok (.aload_n 0, 1) := by decide +kernel
theorem dX7_night_95 : decode cX7_night 95 = .ok (.aload_n 0, 1) := by decide +kernel
theorem dX7_night_96 : decode cX7_night 96 = .ok (.getfield 23, 3) := by decide +kernel
theorem dX7_night_99 : decode cX7_night 99 = .ok (.iload_n 3, 1) := by decide +kernel
theorem dX7_night_100 : decode cX7_night 100 = .ok (.iaload, 1) := by decide +kernel
theorem dX7_night_101 : decode cX7_night 101 = .ok (.iload_n 1, 1) := by decide +kernel
theorem dX7_night_102 : decode cX7_night 102 = .ok (.invokevirtual 159, 3) := by decide +kernel
theorem dX7_night_105 : decode cX7_night 105 = .ok (.iinc 3 1, 3) := by decide +kernel
theorem dX7_night_108 : decode cX7_night 108 = .ok (.goto (-85), 3) := by decide +kernel
theorem dX7_night_111 : decode cX7_night 111 = .ok (.iconst 0, 1) := by decide +kernel
theorem dX7_night_112 : decode cX7_night 112 = .ok (.istore_n 3, 1) := by decide +kernel
theorem dX7_night_113 : decode cX7_night 113 = .ok (.iload_n 3, 1) := by decide +kernel
theorem dX7_night_114 : decode cX7_night 114 = .ok (.aload_n 0, 1) := by decide +kernel
theorem dX7_night_115 : decode cX7_night 115 = .ok (.getfield 9, 3) := by decide +kernel
theorem dX7_night_118 : decode cX7_night 118 = .ok (.iconst 1, 1) := by decide +kernel
theorem dX7_night_119 : decode cX7_night 119 = .ok (.iaload, 1) := by decide +kernel
theorem dX7_night_120 : decode cX7_night 120 = .ok (.if_icmp .ge 47, 3) := by decide +kernel
theorem dX7_night_123 : decode cX7_night 123 = .ok (.aload_n 0, 1) := by decide +kernel
theorem dX7_night_124 : decode cX7_night 124 = .ok (.iload_n 3, 1) := by decide +kernel
theorem dX7_night_125 : decode cX7_night 125 = .ok (.iconst 2, 1) := by decide +kernel
theorem dX7_night_126 : decode cX7_night 126 = .ok (.aload_n 0, 1) := by decide +kernel
theorem dX7_night_127 : decode cX7_night 127 = .ok (.iload_n 3, 1) := by decide +kernel
theorem dX7_night_128 : decode cX7_night 128 = .ok (.iconst 2, 1) := by decide +kernel
theorem dX7_night_129 : decode cX7_night 129 = .ok (.invokevirtual 106, 3) := by decide +kernel
theorem dX7_night_132 : decode cX7_night 132 = .ok (.iload_n 3, 1) := by decide +kernel
theorem dX7_night_133 : decode cX7_night 133 = .ok (.aload_n 0, 1) := by decide +kernel
theorem dX7_night_134 : decode cX7_night 134 = .ok (.getfield 19, 3) := by decide +kernel
theorem dX7_night_137 : decode cX7_night 137 = .ok (.if_icmp .ne 7, 3) := by decide +kernel
