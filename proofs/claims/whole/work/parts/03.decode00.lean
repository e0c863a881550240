theorem dX0_init_0 : decode cX0_init 0 = .ok (.aload_n 0, 1) := by decide +kernel
theorem dX0_init_1 : decode cX0_init 1 = .ok (.invokespecial 3, 3) := by decide +kernel
theorem dX0_init_4 : decode cX0_init 4 = .ok (.return_, 1) := by decide +kernel
theorem dX0_isKind_0 : decode cX0_isKind 0 = .ok (.iconst 0, 1) := by decide +kernel
theorem dX0_isKind_1 : decode cX0_isKind 1 = .ok (.iload_n 0, 1) := by decide +kernel
theorem dX0_isKind_2 : decode cX0_isKind 2 = .ok (.if_icmp .gt 13, 3) := by decide +kernel
theorem dX0_isKind_5 : decode cX0_isKind 5 = .ok (.iload_n 0, 1) := by decide +kernel
theorem dX0_isKind_6 : decode cX0_isKind 6 = .ok (.bipush 6, 2) := by decide +kernel
theorem dX0_isKind_8 : decode cX0_isKind 8 = .ok (.if_icmp .ge 7, 3) := by decide +kernel
theorem dX0_isKind_11 : decode cX0_isKind 11 = .ok (.iconst 1, 1) := by decide +kernel
theorem dX0_isKind_12 : decode cX0_isKind 12 = .ok (.goto 4, 3) := by decide +kernel
theorem dX0_isKind_15 : decode cX0_isKind 15 = .ok (.iconst 0, 1) := by decide +kernel
theorem dX0_isKind_16 : decode cX0_isKind 16 = .ok (.ireturn, 1) := by decide +kernel
theorem dX0_becomes_0 : decode cX0_becomes 0 = .ok (.aload_n 0, 1) := by decide +kernel
theorem dX0_becomes_1 : decode cX0_becomes 1 = .ok (.aload_n 1, 1) := by decide +kernel
theorem dX0_becomes_2 : decode cX0_becomes 2 = .ok (.getfield 11, 3) := by decide +kernel
theorem dX0_becomes_5 : decode cX0_becomes 5 = .ok (.putfield 11, 3) := by decide +kernel
theorem dX0_becomes_8 : decode cX0_becomes 8 = .ok (.aload_n 0, 1) := by decide +kernel
theorem dX0_becomes_9 : decode cX0_becomes 9 = .ok (.aload_n 1, 1) := by decide +kernel
theorem dX0_becomes_10 : decode cX0_becomes 10 = .ok (.getfield 15, 3) := by decide +kernel
theorem dX0_becomes_13 : decode cX0_becomes 13 = .ok (.putfield 15, 3) := by decide +kernel
theorem dX0_becomes_16 : decode cX0_becomes 16 = .ok (.aload_n 0, 1) := by decide +kernel
theorem dX0_becomes_17 : decode cX0_becomes 17 = .ok (.aload_n 1, 1) := by decide +kernel
theorem dX0_becomes_18 : decode cX0_becomes 18 = .ok (.getfield 18, 3) := by decide +kernel
theorem dX0_becomes_21 : decode cX0_becomes 21 = .ok (.putfield 18, 3) := by decide +kernel
theorem dX0_becomes_24 : decode cX0_becomes 24 = .ok (.aload_n 0, 1) := by decide +kernel
theorem dX0_becomes_25 : decode cX0_becomes 25 = .ok (.aload_n 1, 1) := by decide +kernel
theorem dX0_becomes_26 : decode cX0_becomes 26 = .ok (.getfield 21, 3) := by decide +kernel
theorem dX0_becomes_29 : decode cX0_becomes 29 = .ok (.putfield 21, 3) := by decide +kernel
theorem dX0_becomes_32 : decode cX0_becomes 32 = .ok (.aload_n 0, 1) := by decide +kernel
theorem dX0_becomes_33 : decode cX0_becomes 33 = .ok (.aload_n 1, 1) := by decide +kernel
theorem dX0_becomes_34 : decode cX0_becomes 34 = .ok (.getfield 24, 3) := by decide +kernel
theorem dX0_becomes_37 : decode cX0_becomes 37 = .ok (.putfield 24, 3) := by decide +kernel
theorem dX0_becomes_40 : decode cX0_becomes 40 = .ok (.aload_n 0, 1) := by decide +kernel
theorem dX0_becomes_41 : decode cX0_becomes 41 = .ok (.aload_n 1, 1) := by decide +kernel
theorem dX0_becomes_42 : decode cX0_becomes 42 = .ok (.getfield 27, 3) := by decide +kernel
theorem dX0_becomes_45 : decode cX0_becomes 45 = .ok (.putfield 27, 3) := by decide +kernel
theorem dX0_becomes_48 : decode cX0_becomes 48 = .ok (.aload_n 0, 1) := by decide +kernel
theorem dX0_becomes_49 : decode cX0_becomes 49 = .ok (.aload_n 1, 1) := by decide +kernel
theorem dX0_becomes_50 : decode cX0_becomes 50 = .ok (.getfield 30, 3) := by decide +kernel
theorem dX0_becomes_53 : decode cX0_becomes 53 = .ok (.putfield 30, 3) := by decide +kernel
theorem dX0_becomes_56 : decode cX0_becomes 56 = .ok (.return_, 1) := by decide +kernel
theorem dX0_part_0 : decode cX0_part 0 = .ok (.iload_n 1, 1) := by decide +kernel
theorem dX0_part_1 : decode cX0_part 1 = .ok (.tableswitch 69 1 6 #[39, 44, 49, 54, 59, 64], 39) := by decide +kernel
theorem dX0_part_40 : decode cX0_part 40 = .ok (.aload_n 0, 1) := by decide +kernel
theorem dX0_part_41 : decode cX0_part 41 = .ok (.getfield 15, 3) := by decide +kernel
theorem dX0_part_44 : decode cX0_part 44 = .ok (.ireturn, 1) := by decide +kernel
theorem dX0_part_45 : decode cX0_part 45 = .ok (.aload_n 0, 1) := by decide +kernel
theorem dX0_part_46 : decode cX0_part 46 = .ok (.getfield 18, 3) := by decide +kernel
theorem dX0_part_49 : decode cX0_part 49 = .ok (.ireturn, 1) := by decide +kernel
theorem dX0_part_50 : decode cX0_part 50 = .ok (.aload_n 0, 1) := by decide +kernel
theorem dX0_part_51 : decode cX0_part 51 = .ok (.getfield 21, 3) := by decide +kernel
theorem dX0_part_54 : decode cX0_part 54 = .ok (.ireturn, 1) := by decide +kernel
theorem dX0_part_55 : decode cX0_part 55 = .ok (.aload_n 0, 1) := by decide +kernel
theorem dX0_part_56 : decode cX0_part 56 = .ok (.getfield 24, 3) := by decide +kernel
theorem dX0_part_59 : decode cX0_part 59 = .ok (.ireturn, 1) := by decide +kernel
theorem dX0_part_60 : decode cX0_part 60 = .ok (.aload_n 0, 1) := by decide +kernel
theorem dX0_part_61 : decode cX0_part 61 = .ok (.getfield 27, 3) := by decide +kernel
theorem dX0_part_64 : decode cX0_part 64 = .ok (.ireturn, 1) := by decide +kernel
theorem dX0_part_65 : decode cX0_part 65 = .ok (.aload_n 0, 1) := by decide +kernel
theorem dX0_part_66 : decode cX0_part 66 = .ok (.getfield 30, 3) := by decide +kernel
theorem dX0_part_69 : decode cX0_part 69 = .ok (.ireturn, 1) := by decide +kernel
theorem dX0_part_70 : decode cX0_part 70 = .ok (.aload_n 0, 1) := by decide +kernel
theorem dX0_part_71 : decode cX0_part 71 = .ok (.getfield 11, 3) := by decide +kernel
theorem dX0_part_74 : decode cX0_part 74 = .ok (.ireturn, 1) := by decide +kernel
theorem dX0_isOf_0 : decode cX0_isOf 0 = .ok (.aload_n 0, 1) := by decide +kernel
theorem dX0_isOf_1 : decode cX0_isOf 1 = .ok (.getfield 11, 3) := by decide +kernel
theorem dX0_isOf_4 : decode cX0_isOf 4 = .ok (.istore_n 2, 1) := by decide +kernel
theorem dX0_isOf_5 : decode cX0_isOf 5 = .ok (.iconst 0, 1) := by decide +kernel
theorem dX0_isOf_6 : decode cX0_isOf 6 = .ok (.istore_n 3, 1) := by decide +kernel
theorem dX0_isOf_7 : decode cX0_isOf 7 = .ok (.iload_n 3, 1) := by decide +kernel
theorem dX0_isOf_8 : decode cX0_isOf 8 = .ok (.bipush 6, 2) := by decide +kernel
theorem dX0_isOf_10 : decode cX0_isOf 10 = .ok (.if_icmp .ge 27, 3) := by decide +kernel
theorem dX0_isOf_13 : decode cX0_isOf 13 = .ok (.iload_n 2, 1) := by decide +kernel
theorem dX0_isOf_14 : decode cX0_isOf 14 = .ok (.invokestatic 33, 3) := by decide +kernel
theorem dX0_isOf_17 : decode cX0_isOf 17 = .ok (.ifCond .eq 20, 3) := by decide +kernel
theorem dX0_isOf_20 : decode cX0_isOf 20 = .ok (.iload_n 2, 1) := by decide +kernel
theorem dX0_isOf_21 : decode cX0_isOf 21 = .ok (.iload_n 1, 1) := by decide +kernel
theorem dX0_isOf_22 : decode cX0_isOf 22 = .ok (.if_icmp .eq 15, 3) := by decide +kernel
theorem dX0_isOf_25 : decode cX0_isOf 25 = .ok (.getstatic 37, 3) := by decide +kernel
theorem dX0_isOf_28 : decode cX0_isOf 28 = .ok (.iload_n 2, 1) := by decide +kernel
theorem dX0_isOf_29 : decode cX0_isOf 29 = .ok (.iaload, 1) := by decide +kernel
theorem dX0_isOf_30 : decode cX0_isOf 30 = .ok (.istore_n 2, 1) := by decide +kernel
theorem dX0_isOf_31 : decode cX0_isOf 31 = .ok (.iinc 3 1, 3) := by decide +kernel
theorem dX0_isOf_34 : decode cX0_isOf 34 = .ok (.goto (-27), 3) := by decide +kernel
theorem dX0_isOf_37 : decode cX0_isOf 37 = .ok (.iload_n 2, 1) := by decide +kernel
theorem dX0_isOf_38 : decode cX0_isOf 38 = .ok (.iload_n 1, 1) := by decide +kernel
theorem dX0_isOf_39 : decode cX0_isOf 39 = .ok (.if_icmp .ne 7, 3) := by decide +kernel
theorem dX0_isOf_42 : decode cX0_isOf 42 = .ok (.iconst 1, 1) := by decide +kernel
theorem dX0_isOf_43 : decode cX0_isOf 43 = .ok (.goto 4, 3) := by decide +kernel
theorem dX0_isOf_46 : decode cX0_isOf 46 = .ok (.iconst 0, 1) := by decide +kernel
theorem dX0_isOf_47 : decode cX0_isOf 47 = .ok (.ireturn, 1) := by decide +kernel
theorem dX0_burns_0 : decode cX0_burns 0 = .ok (.iload_n 1, 1) := by decide +kernel
theorem dX0_burns_1 : decode cX0_burns 1 = .ok (.bipush 20, 2) := by decide +kernel
theorem dX0_burns_3 : decode cX0_burns 3 = .ok (.isub, 1) := by decide +kernel
theorem dX0_burns_4 : decode cX0_burns 4 = .ok (.iconst 0, 1) := by decide +kernel
theorem dX0_burns_5 : decode cX0_burns 5 = .ok (.invokestatic 41, 3) := by decide +kernel
theorem dX0_burns_8 : decode cX0_burns 8 = .ok (.istore_n 2, 1) := by decide +kernel
theorem dX0_burns_9 : decode cX0_burns 9 = .ok (.aload_n 0, 1) := by decide +kernel
theorem dX0_burns_10 : decode cX0_burns 10 = .ok (.getfield 11, 3) := by decide +kernel
theorem dX0_burns_13 : decode cX0_burns 13 = .ok (.tableswitch 65 1 5 #[35, 55, 47, 57, 61], 35) := by decide +kernel
theorem dX0_burns_48 : decode cX0_burns 48 = .ok (.aload_n 0, 1) := by decide +kernel
theorem dX0_burns_49 : decode cX0_burns 49 = .ok (.getfield 18, 3) := by decide +kernel
theorem dX0_burns_52 : decode cX0_burns 52 = .ok (.bipush 10, 2) := by decide +kernel
theorem dX0_burns_54 : decode cX0_burns 54 = .ok (.imul, 1) := by decide +kernel
theorem dX0_burns_55 : decode cX0_burns 55 = .ok (.iload_n 1, 1) := by decide +kernel
theorem dX0_burns_56 : decode cX0_burns 56 = .ok (.iadd, 1) := by decide +kernel
theorem dX0_burns_57 : decode cX0_burns 57 = .ok (.iconst 2, 1) := by decide +kernel
theorem dX0_burns_58 : decode cX0_burns 58 = .ok (.idiv, 1) := by decide +kernel
theorem dX0_burns_59 : decode cX0_burns 59 = .ok (.ireturn, 1) := by decide +kernel
theorem dX0_burns_60 : decode cX0_burns 60 = .ok (.aload_n 0, 1) := by decide +kernel
theorem dX0_burns_61 : decode cX0_burns 61 = .ok (.getfield 18, 3) := by decide +kernel
theorem dX0_burns_64 : decode cX0_burns 64 = .ok (.bipush 10, 2) := by decide +kernel
theorem dX0_burns_66 : decode cX0_burns 66 = .ok (.imul, 1) := by decide +kernel
theorem dX0_burns_67 : decode cX0_burns 67 = .ok (.ireturn, 1) := by decide +kernel
theorem dX0_burns_68 : decode cX0_burns 68 = .ok (.iload_n 2, 1) := by decide +kernel
theorem dX0_burns_69 : decode cX0_burns 69 = .ok (.ireturn, 1) := by decide +kernel
theorem dX0_burns_70 : decode cX0_burns 70 = .ok (.iload_n 2, 1) := by decide +kernel
theorem dX0_burns_71 : decode cX0_burns 71 = .ok (.iconst 2, 1) := by decide +kernel
theorem dX0_burns_72 : decode cX0_burns 72 = .ok (.idiv, 1) := by decide +kernel
theorem dX0_burns_73 : decode cX0_burns 73 = .ok (.ireturn, 1) := by decide +kernel
theorem dX0_burns_74 : decode cX0_burns 74 = .ok (.sipush 9999, 3) := by decide +kernel
theorem dX0_burns_77 : decode cX0_burns 77 = .ok (.ireturn, 1) := by decide +kernel
theorem dX0_burns_78 : decode cX0_burns 78 = .ok (.iload_n 1, 1) := by decide +kernel
theorem dX0_burns_79 : decode cX0_burns 79 = .ok (.ireturn, 1) := by decide +kernel
theorem dX0_drunkIn_0 : decode cX0_drunkIn 0 = .ok (.iload_n 1, 1) := by decide +kernel
theorem dX0_drunkIn_1 : decode cX0_drunkIn 1 = .ok (.bipush 10, 2) := by decide +kernel
theorem dX0_drunkIn_3 : decode cX0_drunkIn 3 = .ok (.idiv, 1) := by decide +kernel
theorem dX0_drunkIn_4 : decode cX0_drunkIn 4 = .ok (.aload_n 0, 1) := by decide +kernel
theorem dX0_drunkIn_5 : decode cX0_drunkIn 5 = .ok (.getfield 18, 3) := by decide +kernel
theorem dX0_drunkIn_8 : decode cX0_drunkIn 8 = .ok (.invokestatic 47, 3) := by decide +kernel
theorem dX0_drunkIn_11 : decode cX0_drunkIn 11 = .ok (.istore_n 2, 1) := by decide +kernel
theorem dX0_drunkIn_12 : decode cX0_drunkIn 12 = .ok (.aload_n 0, 1) := by decide +kernel
theorem dX0_drunkIn_13 : decode cX0_drunkIn 13 = .ok (.getfield 11, 3) := by decide +kernel
theorem dX0_drunkIn_16 : decode cX0_drunkIn 16 = .ok (.lookupswitch 41 #[(4, 28), (5, 39)], 28) := by decide +kernel
theorem dX0_drunkIn_44 : decode cX0_drunkIn 44 = .ok (.iload_n 2, 1) := by decide +kernel
theorem dX0_drunkIn_45 : decode cX0_drunkIn 45 = .ok (.iconst 5, 1) := by decide +kernel
theorem dX0_drunkIn_46 : decode cX0_drunkIn 46 = .ok (.iadd, 1) := by decide +kernel
theorem dX0_drunkIn_47 : decode cX0_drunkIn 47 = .ok (.aload_n 0, 1) := by decide +kernel
theorem dX0_drunkIn_48 : decode cX0_drunkIn 48 = .ok (.getfield 18, 3) := by decide +kernel
theorem dX0_drunkIn_51 : decode cX0_drunkIn 51 = .ok (.invokestatic 47, 3) := by decide +kernel
theorem dX0_drunkIn_54 : decode cX0_drunkIn 54 = .ok (.ireturn, 1) := by decide +kernel
theorem dX0_drunkIn_55 : decode cX0_drunkIn 55 = .ok (.iconst 0, 1) := by decide +kernel
theorem dX0_drunkIn_56 : decode cX0_drunkIn 56 = .ok (.ireturn, 1) := by decide +kernel
theorem dX0_drunkIn_57 : decode cX0_drunkIn 57 = .ok (.iload_n 2, 1) := by decide +kernel
theorem dX0_drunkIn_58 : decode cX0_drunkIn 58 = .ok (.ireturn, 1) := by decide +kernel
theorem dX0_worth_0 : decode cX0_worth 0 = .ok (.aload_n 0, 1) := by decide +kernel
theorem dX0_worth_1 : decode cX0_worth 1 = .ok (.getfield 15, 3) := by decide +kernel
theorem dX0_worth_4 : decode cX0_worth 4 = .ok (.bipush 6, 2) := by decide +kernel
theorem dX0_worth_6 : decode cX0_worth 6 = .ok (.iadd, 1) := by decide +kernel
theorem dX0_worth_7 : decode cX0_worth 7 = .ok (.istore_n 1, 1) := by decide +kernel
theorem dX0_worth_8 : decode cX0_worth 8 = .ok (.bipush 99, 2) := by decide +kernel
theorem dX0_worth_10 : decode cX0_worth 10 = .ok (.aload_n 0, 1) := by decide +kernel
theorem dX0_worth_11 : decode cX0_worth 11 = .ok (.getfield 15, 3) := by decide +kernel
theorem dX0_worth_14 : decode cX0_worth 14 = .ok (.isub, 1) := by decide +kernel
theorem dX0_worth_15 : decode cX0_worth 15 = .ok (.istore_n 2, 1) := by decide +kernel
theorem dX0_worth_16 : decode cX0_worth 16 = .ok (.aload_n 0, 1) := by decide +kernel
theorem dX0_worth_17 : decode cX0_worth 17 = .ok (.getfield 11, 3) := by decide +kernel
theorem dX0_worth_20 : decode cX0_worth 20 = .ok (.tableswitch 50 1 5 #[36, 42, 38, 44, 48], 36) := by decide +kernel
theorem dX0_worth_56 : decode cX0_worth 56 = .ok (.iload_n 1, 1) := by decide +kernel
theorem dX0_worth_57 : decode cX0_worth 57 = .ok (.ireturn, 1) := by decide +kernel
theorem dX0_worth_58 : decode cX0_worth 58 = .ok (.iload_n 1, 1) := by decide +kernel
theorem dX0_worth_59 : decode cX0_worth 59 = .ok (.iconst 2, 1) := by decide +kernel
theorem dX0_worth_60 : decode cX0_worth 60 = .ok (.imul, 1) := by decide +kernel
theorem dX0_worth_61 : decode cX0_worth 61 = .ok (.ireturn, 1) := by decide +kernel
theorem dX0_worth_62 : decode cX0_worth 62 = .ok (.iload_n 2, 1) := by decide +kernel
theorem dX0_worth_63 : decode cX0_worth 63 = .ok (.ireturn, 1) := by decide +kernel
theorem dX0_worth_64 : decode cX0_worth 64 = .ok (.iload_n 2, 1) := by decide +kernel
theorem dX0_worth_65 : decode cX0_worth 65 = .ok (.iconst 4, 1) := by decide +kernel
theorem dX0_worth_66 : decode cX0_worth 66 = .ok (.isub, 1) := by decide +kernel
theorem dX0_worth_67 : decode cX0_worth 67 = .ok (.ireturn, 1) := by decide +kernel
theorem dX0_worth_68 : decode cX0_worth 68 = .ok (.iconst 3, 1) := by decide +kernel
theorem dX0_worth_69 : decode cX0_worth 69 = .ok (.ireturn, 1) := by decide +kernel
theorem dX0_worth_70 : decode cX0_worth 70 = .ok (.aload_n 0, 1) := by decide +kernel
theorem dX0_worth_71 : decode cX0_worth 71 = .ok (.getfield 15, 3) := by decide +kernel
theorem dX0_worth_74 : decode cX0_worth 74 = .ok (.ireturn, 1) := by decide +kernel
theorem dX0_isDry_0 : decode cX0_isDry 0 = .ok (.aload_n 0, 1) := by decide +kernel
theorem dX0_isDry_1 : decode cX0_isDry 1 = .ok (.getfield 18, 3) := by decide +kernel
theorem dX0_isDry_4 : decode cX0_isDry 4 = .ok (.ifCond .ne 15, 3) := by decide +kernel
theorem dX0_isDry_7 : decode cX0_isDry 7 = .ok (.aload_n 0, 1) := by decide +kernel
theorem dX0_isDry_8 : decode cX0_isDry 8 = .ok (.getfield 11, 3) := by decide +kernel
theorem dX0_isDry_11 : decode cX0_isDry 11 = .ok (.iconst 5, 1) := by decide +kernel
theorem dX0_isDry_12 : decode cX0_isDry 12 = .ok (.if_icmp .eq 7, 3) := by decide +kernel
theorem dX0_isDry_15 : decode cX0_isDry 15 = .ok (.iconst 1, 1) := by decide +kernel
theorem dX0_isDry_16 : decode cX0_isDry 16 = .ok (.goto 4, 3) := by decide +kernel
theorem dX0_isDry_19 : decode cX0_isDry 19 = .ok (.iconst 0, 1) := by decide +kernel
theorem dX0_isDry_20 : decode cX0_isDry 20 = .ok (.ireturn, 1) := by decide +kernel
theorem dX1_init_0 : decode cX1_init 0 = .ok (.aload_n 0, 1) := by decide +kernel
theorem dX1_init_1 : decode cX1_init 1 = .ok (.invokespecial 3, 3) := by decide +kernel
theorem dX1_init_4 : decode cX1_init 4 = .ok (.aload_n 0, 1) := by decide +kernel
theorem dX1_init_5 : decode cX1_init 5 = .ok (.iconst (-1), 1) := by decide +kernel
theorem dX1_init_6 : decode cX1_init 6 = .ok (.putfield 11, 3) := by decide +kernel
theorem dX1_init_9 : decode cX1_init 9 = .ok (.aload_n 0, 1) := by decide +kernel
theorem dX1_init_10 : decode cX1_init 10 = .ok (.bipush 24, 2) := by decide +kernel
theorem dX1_init_12 : decode cX1_init 12 = .ok (.newarray .int, 2) := by decide +kernel
theorem dX1_init_14 : decode cX1_init 14 = .ok (.putfield 15, 3) := by decide +kernel
theorem dX1_init_17 : decode cX1_init 17 = .ok (.return_, 1) := by decide +kernel
theorem dX1_isMissing_0 : decode cX1_isMissing 0 = .ok (.aload_n 0, 1) := by decide +kernel
theorem dX1_isMissing_1 : decode cX1_isMissing 1 = .ok (.getfield 11, 3) := by decide +kernel
theorem dX1_isMissing_4 : decode cX1_isMissing 4 = .ok (.iconst (-1), 1) := by decide +kernel
theorem dX1_isMissing_5 : decode cX1_isMissing 5 = .ok (.if_icmp .ne 7, 3) := by decide +kernel
theorem dX1_isMissing_8 : decode cX1_isMissing 8 = .ok (.iconst 1, 1) := by decide +kernel
theorem dX1_isMissing_9 : decode cX1_isMissing 9 = .ok (.goto 4, 3) := by decide +kernel
theorem dX1_isMissing_12 : decode cX1_isMissing 12 = .ok (.iconst 0, 1) := by decide +kernel
theorem dX1_isMissing_13 : decode cX1_isMissing 13 = .ok (.ireturn, 1) := by decide +kernel
theorem dX1_clear_0 : decode cX1_clear 0 = .ok (.aload_n 0, 1) := by decide +kernel
theorem dX1_clear_1 : decode cX1_clear 1 = .ok (.iload_n 1, 1) := by decide +kernel
theorem dX1_clear_2 : decode cX1_clear 2 = .ok (.putfield 11, 3) := by decide +kernel
theorem dX1_clear_5 : decode cX1_clear 5 = .ok (.aload_n 0, 1) := by decide +kernel
theorem dX1_clear_6 : decode cX1_clear 6 = .ok (.iconst 0, 1) := by decide +kernel
theorem dX1_clear_7 : decode cX1_clear 7 = .ok (.iload_n 2, 1) := by decide +kernel
theorem dX1_clear_8 : decode cX1_clear 8 = .ok (.bipush 24, 2) := by decide +kernel
theorem dX1_clear_10 : decode cX1_clear 10 = .ok (.invokestatic 19, 3) := by decide +kernel
theorem dX1_clear_13 : decode cX1_clear 13 = .ok (.invokestatic 25, 3) := by decide +kernel
theorem dX1_clear_16 : decode cX1_clear 16 = .ok (.putfield 28, 3) := by decide +kernel
theorem dX1_clear_19 : decode cX1_clear 19 = .ok (.iconst 0, 1) := by decide +kernel
theorem dX1_clear_20 : decode cX1_clear 20 = .ok (.istore_n 3, 1) := by decide +kernel
theorem dX1_clear_21 : decode cX1_clear 21 = .ok (.iload_n 3, 1) := by decide +kernel
theorem dX1_clear_22 : decode cX1_clear 22 = .ok (.bipush 24, 2) := by decide +kernel
theorem dX1_clear_24 : decode cX1_clear 24 = .ok (.if_icmp .ge 16, 3) := by decide +kernel
theorem dX1_clear_27 : decode cX1_clear 27 = .ok (.aload_n 0, 1) := by decide +kernel
theorem dX1_clear_28 : decode cX1_clear 28 = .ok (.getfield 15, 3) := by decide +kernel
theorem dX1_clear_31 : decode cX1_clear 31 = .ok (.iload_n 3, 1) := by decide +kernel
theorem dX1_clear_32 : decode cX1_clear 32 = .ok (.iconst 0, 1) := by decide +kernel
theorem dX1_clear_33 : decode cX1_clear 33 = .ok (.iastore, 1) := by decide +kernel
theorem dX1_clear_34 : decode cX1_clear 34 = .ok (.iinc 3 1, 3) := by decide +kernel
theorem dX1_clear_37 : decode cX1_clear 37 = .ok (.goto (-16), 3) := by decide +kernel
theorem dX1_clear_40 : decode cX1_clear 40 = .ok (.return_, 1) := by decide +kernel
theorem dX1_becomes_0 : decode cX1_becomes 0 = .ok (.aload_n 0, 1) := by decide +kernel
theorem dX1_becomes_1 : decode cX1_becomes 1 = .ok (.aload_n 1, 1) := by decide +kernel
theorem dX1_becomes_2 : decode cX1_becomes 2 = .ok (.getfield 11, 3) := by decide +kernel
theorem dX1_becomes_5 : decode cX1_becomes 5 = .ok (.putfield 11, 3) := by decide +kernel
theorem dX1_becomes_8 : decode cX1_becomes 8 = .ok (.aload_n 0, 1) := by decide +kernel
theorem dX1_becomes_9 : decode cX1_becomes 9 = .ok (.aload_n 1, 1) := by decide +kernel
theorem dX1_becomes_10 : decode cX1_becomes 10 = .ok (.getfield 28, 3) := by decide +kernel
theorem dX1_becomes_13 : decode cX1_becomes 13 = .ok (.putfield 28, 3) := by decide +kernel
theorem dX1_becomes_16 : decode cX1_becomes 16 = .ok (.aload_n 1, 1) := by decide +kernel
theorem dX1_becomes_17 : decode cX1_becomes 17 = .ok (.getfield 15, 3) := by decide +kernel
theorem dX1_becomes_20 : decode cX1_becomes 20 = .ok (.iconst 0, 1) := by decide +kernel
theorem dX1_becomes_21 : decode cX1_becomes 21 = .ok (.aload_n 0, 1) := by decide +kernel
theorem dX1_becomes_22 : decode cX1_becomes 22 = .ok (.getfield 15, 3) := by decide +kernel
theorem dX1_becomes_25 : decode cX1_becomes 25 = .ok (.iconst 0, 1) := by decide +kernel
theorem dX1_becomes_26 : decode cX1_becomes 26 = .ok (.bipush 24, 2) := by decide +kernel
theorem dX1_becomes_28 : decode cX1_becomes 28 = .ok (.invokestatic 31, 3) := by decide +kernel
theorem dX1_becomes_31 : decode cX1_becomes 31 = .ok (.return_, 1) := by decide +kernel
theorem dX1_hasPlace_0 : decode cX1_hasPlace 0 = .ok (.iconst 0, 1) := by decide +kernel
theorem dX1_hasPlace_1 : decode cX1_hasPlace 1 = .ok (.iload_n 1, 1) := by decide +kernel
theorem dX1_hasPlace_2 : decode cX1_hasPlace 2 = .ok (.if_icmp .gt 15, 3) := by decide +kernel
theorem dX1_hasPlace_5 : decode cX1_hasPlace 5 = .ok (.iload_n 1, 1) := by decide +kernel
theorem dX1_hasPlace_6 : decode cX1_hasPlace 6 = .ok (.aload_n 0, 1) := by decide +kernel
theorem dX1_hasPlace_7 : decode cX1_hasPlace 7 = .ok (.getfield 28, 3) := by decide +kernel
theorem dX1_hasPlace_10 : decode cX1_hasPlace 10 = .ok (.if_icmp .ge 7, 3) := by decide +kernel
theorem dX1_hasPlace_13 : decode cX1_hasPlace 13 = .ok (.iconst 1, 1) := by decide +kernel
theorem dX1_hasPlace_14 : decode cX1_hasPlace 14 = .ok (.goto 4, 3) := by decide +kernel
theorem dX1_hasPlace_17 : decode cX1_hasPlace 17 = .ok (.iconst 0, 1) := by decide +kernel
theorem dX1_hasPlace_18 : decode cX1_hasPlace 18 = .ok (.ireturn, 1) := by decide +kernel
theorem dX1_hasPlaces_0 : decode cX1_hasPlaces 0 = .ok (.iconst 0, 1) := by decide +kernel
theorem dX1_hasPlaces_1 : decode cX1_hasPlaces 1 = .ok (.iload_n 1, 1) := by decide +kernel
theorem dX1_hasPlaces_2 : decode cX1_hasPlaces 2 = .ok (.if_icmp .gt 30, 3) := by decide +kernel
theorem dX1_hasPlaces_5 : decode cX1_hasPlaces 5 = .ok (.iconst 0, 1) := by decide +kernel
theorem dX1_hasPlaces_6 : decode cX1_hasPlaces 6 = .ok (.iload_n 2, 1) := by decide +kernel
theorem dX1_hasPlaces_7 : decode cX1_hasPlaces 7 = .ok (.if_icmp .gt 25, 3) := by decide +kernel
theorem dX1_hasPlaces_10 : decode cX1_hasPlaces 10 = .ok (.iload_n 1, 1) := by decide +kernel
theorem dX1_hasPlaces_11 : decode cX1_hasPlaces 11 = .ok (.aload_n 0, 1) := by decide +kernel
theorem dX1_hasPlaces_12 : decode cX1_hasPlaces 12 = .ok (.getfield 28, 3) := by decide +kernel
theorem dX1_hasPlaces_15 : decode cX1_hasPlaces 15 = .ok (.if_icmp .gt 17, 3) := by decide +kernel
theorem dX1_hasPlaces_18 : decode cX1_hasPlaces 18 = .ok (.iload_n 2, 1) := by decide +kernel
theorem dX1_hasPlaces_19 : decode cX1_hasPlaces 19 = .ok (.aload_n 0, 1) := by decide +kernel
theorem dX1_hasPlaces_20 : decode cX1_hasPlaces 20 = .ok (.getfield 28, 3) := by decide +kernel
theorem dX1_hasPlaces_23 : decode cX1_hasPlaces 23 = .ok (.iload_n 1, 1) := by decide +kernel
theorem dX1_hasPlaces_24 : decode cX1_hasPlaces 24 = .ok (.isub, 1) := by decide +kernel
theorem dX1_hasPlaces_25 : decode cX1_hasPlaces 25 = .ok (.if_icmp .gt 7, 3) := by decide +kernel
theorem dX1_hasPlaces_28 : decode cX1_hasPlaces 28 = .ok (.iconst 1, 1) := by decide +kernel
theorem dX1_hasPlaces_29 : decode cX1_hasPlaces 29 = .ok (.goto 4, 3) := by decide +kernel
theorem dX1_hasPlaces_32 : decode cX1_hasPlaces 32 = .ok (.iconst 0, 1) := by decide +kernel
theorem dX1_hasPlaces_33 : decode cX1_hasPlaces 33 = .ok (.ireturn, 1) := by decide +kernel
theorem dX1_hasNumber_0 : decode cX1_hasNumber 0 = .ok (.aload_n 0, 1) := by decide +kernel
theorem dX1_hasNumber_1 : decode cX1_hasNumber 1 = .ok (.iload_n 1, 1) := by decide +kernel
theorem dX1_hasNumber_2 : decode cX1_hasNumber 2 = .ok (.invokevirtual 37, 3) := by decide +kernel
theorem dX1_hasNumber_5 : decode cX1_hasNumber 5 = .ok (.ifCond .eq 18, 3) := by decide +kernel
theorem dX1_hasNumber_8 : decode cX1_hasNumber 8 = .ok (.aload_n 0, 1) := by decide +kernel
theorem dX1_hasNumber_9 : decode cX1_hasNumber 9 = .ok (.getfield 15, 3) := by decide +kernel
theorem dX1_hasNumber_12 : decode cX1_hasNumber 12 = .ok (.iload_n 1, 1) := by decide +kernel
theorem dX1_hasNumber_13 : decode cX1_hasNumber 13 = .ok (.iaload, 1) := by decide +kernel
theorem dX1_hasNumber_14 : decode cX1_hasNumber 14 = .ok (.ldc 41, 2) := by decide +kernel
theorem dX1_hasNumber_16 : decode cX1_hasNumber 16 = .ok (.if_icmp .eq 7, 3) := by decide +kernel
theorem dX1_hasNumber_19 : decode cX1_hasNumber 19 = .ok (.iconst 1, 1) := by decide +kernel
theorem dX1_hasNumber_20 : decode cX1_hasNumber 20 = .ok (.goto 4, 3) := by decide +kernel
theorem dX1_hasNumber_23 : decode cX1_hasNumber 23 = .ok (.iconst 0, 1) := by decide +kernel
theorem dX1_hasNumber_24 : decode cX1_hasNumber 24 = .ok (.ireturn, 1) := by decide +kernel
theorem dX2_init_0 : decode cX2_init 0 = .ok (.aload_n 0, 1) := by decide +kernel
theorem dX2_init_1 : decode cX2_init 1 = .ok (.invokespecial 1, 3) := by decide +kernel
theorem dX2_init_4 : decode cX2_init 4 = .ok (.aload_n 0, 1) := by decide +kernel
theorem dX2_init_5 : decode cX2_init 5 = .ok (.new 7, 3) := by decide +kernel
theorem dX2_init_8 : decode cX2_init 8 = .ok (.dup, 1) := by decide +kernel
theorem dX2_init_9 : decode cX2_init 9 = .ok (.invokespecial 9, 3) := by decide +kernel
theorem dX2_init_12 : decode cX2_init 12 = .ok (.putfield 10, 3) := by decide +kernel
theorem dX2_init_15 : decode cX2_init 15 = .ok (.aload_n 0, 1) := by decide +kernel
theorem dX2_init_16 : decode cX2_init 16 = .ok (.new 16, 3) := by decide +kernel
theorem dX2_init_19 : decode cX2_init 19 = .ok (.dup, 1) := by decide +kernel
theorem dX2_init_20 : decode cX2_init 20 = .ok (.invokespecial 18, 3) := by decide +kernel
theorem dX2_init_23 : decode cX2_init 23 = .ok (.putfield 19, 3) := by decide +kernel
theorem dX2_init_26 : decode cX2_init 26 = .ok (.return_, 1) := by decide +kernel
theorem dX3_init_0 : decode cX3_init 0 = .ok (.aload_n 0, 1) := by decide +kernel
theorem dX3_init_1 : decode cX3_init 1 = .ok (.invokespecial 3, 3) := by decide +kernel
theorem dX3_init_4 : decode cX3_init 4 = .ok (.aload_n 0, 1) := by decide +kernel
theorem dX3_init_5 : decode cX3_init 5 = .ok (.bipush 10, 2) := by decide +kernel
theorem dX3_init_7 : decode cX3_init 7 = .ok (.anewarray 9, 3) := by decide +kernel
theorem dX3_init_10 : decode cX3_init 10 = .ok (.putfield 11, 3) := by decide +kernel
theorem dX3_init_13 : decode cX3_init 13 = .ok (.aload_n 0, 1) := by decide +kernel
theorem dX3_init_14 : decode cX3_init 14 = .ok (.bipush 10, 2) := by decide +kernel
theorem dX3_init_16 : decode cX3_init 16 = .ok (.newarray .int, 2) := by decide +kernel
theorem dX3_init_18 : decode cX3_init 18 = .ok (.putfield 17, 3) := by decide +kernel
theorem dX3_init_21 : decode cX3_init 21 = .ok (.aload_n 0, 1) := by decide +kernel
theorem dX3_init_22 : decode cX3_init 22 = .ok (.sipush 600, 3) := by decide +kernel
theorem dX3_init_25 : decode cX3_init 25 = .ok (.putfield 21, 3) := by decide +kernel
theorem dX3_init_28 : decode cX3_init 28 = .ok (.aload_n 0, 1) := by decide +kernel
theorem dX3_init_29 : decode cX3_init 29 = .ok (.iconst 1, 1) := by decide +kernel
theorem dX3_init_30 : decode cX3_init 30 = .ok (.putfield 25, 3) := by decide +kernel
theorem dX3_init_33 : decode cX3_init 33 = .ok (.aload_n 0, 1) := by decide +kernel
theorem dX3_init_34 : decode cX3_init 34 = .ok (.bipush 14, 2) := by decide +kernel
theorem dX3_init_36 : decode cX3_init 36 = .ok (.anewarray 28, 3) := by decide +kernel
theorem dX3_init_39 : decode cX3_init 39 = .ok (.putfield 30, 3) := by decide +kernel
theorem dX3_init_42 : decode cX3_init 42 = .ok (.aload_n 0, 1) := by decide +kernel
theorem dX3_init_43 : decode cX3_init 43 = .ok (.iconst 3, 1) := by decide +kernel
theorem dX3_init_44 : decode cX3_init 44 = .ok (.newarray .int, 2) := by decide +kernel
theorem dX3_init_46 : decode cX3_init 46 = .ok (.dup, 1) := by decide +kernel
theorem dX3_init_47 : decode cX3_init 47 = .ok (.iconst 0, 1) := by decide +kernel
theorem dX3_init_48 : decode cX3_init 48 = .ok (.ldc 34, 2) := by decide +kernel
theorem dX3_init_50 : decode cX3_init 50 = .ok (.iastore, 1) := by decide +kernel
theorem dX3_init_51 : decode cX3_init 51 = .ok (.dup, 1) := by decide +kernel
theorem dX3_init_52 : decode cX3_init 52 = .ok (.iconst 1, 1) := by decide +kernel
theorem dX3_init_53 : decode cX3_init 53 = .ok (.ldc 34, 2) := by decide +kernel
theorem dX3_init_55 : decode cX3_init 55 = .ok (.iastore, 1) := by decide +kernel
theorem dX3_init_56 : decode cX3_init 56 = .ok (.dup, 1) := by decide +kernel
theorem dX3_init_57 : decode cX3_init 57 = .ok (.iconst 2, 1) := by decide +kernel
theorem dX3_init_58 : decode cX3_init 58 = .ok (.ldc 34, 2) := by decide +kernel
theorem dX3_init_60 : decode cX3_init 60 = .ok (.iastore, 1) := by decide +kernel
theorem dX3_init_61 : decode cX3_init 61 = .ok (.putfield 35, 3) := by decide +kernel
theorem dX3_init_64 : decode cX3_init 64 = .ok (.iconst 0, 1) := by decide +kernel
theorem dX3_init_65 : decode cX3_init 65 = .ok (.istore_n 1, 1) := by decide +kernel
theorem dX3_init_66 : decode cX3_init 66 = .ok (.iload_n 1, 1) := by decide +kernel
theorem dX3_init_67 : decode cX3_init 67 = .ok (.bipush 10, 2) := by decide +kernel
theorem dX3_init_69 : decode cX3_init 69 = .ok (.if_icmp .ge 22, 3) := by decide +kernel
theorem dX3_init_72 : decode cX3_init 72 = .ok (.aload_n 0, 1) := by decide +kernel
theorem dX3_init_73 : decode cX3_init 73 = .ok (.getfield 11, 3) := by decide +kernel
theorem dX3_init_76 : decode cX3_init 76 = .ok (.iload_n 1, 1) := by decide +kernel
theorem dX3_init_77 : decode cX3_init 77 = .ok (.new 9, 3) := by decide +kernel
theorem dX3_init_80 : decode cX3_init 80 = .ok (.dup, 1) := by decide +kernel
theorem dX3_init_81 : decode cX3_init 81 = .ok (.invokespecial 38, 3) := by decide +kernel
theorem dX3_init_84 : decode cX3_init 84 = .ok (.aastore, 1) := by decide +kernel
theorem dX3_init_85 : decode cX3_init 85 = .ok (.iinc 1 1, 3) := by decide +kernel
theorem dX3_init_88 : decode cX3_init 88 = .ok (.goto (-22), 3) := by decide +kernel
theorem dX3_init_91 : decode cX3_init 91 = .ok (.return_, 1) := by decide +kernel
theorem dX3_becomes_0 : decode cX3_becomes 0 = .ok (.aload_n 0, 1) := by decide +kernel
theorem dX3_becomes_1 : decode cX3_becomes 1 = .ok (.aload_n 1, 1) := by decide +kernel
theorem dX3_becomes_2 : decode cX3_becomes 2 = .ok (.getfield 39, 3) := by decide +kernel
theorem dX3_becomes_5 : decode cX3_becomes 5 = .ok (.putfield 39, 3) := by decide +kernel
theorem dX3_becomes_8 : decode cX3_becomes 8 = .ok (.iconst 0, 1) := by decide +kernel
theorem dX3_becomes_9 : decode cX3_becomes 9 = .ok (.istore_n 2, 1) := by decide +kernel
theorem dX3_becomes_10 : decode cX3_becomes 10 = .ok (.iload_n 2, 1) := by decide +kernel
theorem dX3_becomes_11 : decode cX3_becomes 11 = .ok (.aload_n 0, 1) := by decide +kernel
theorem dX3_becomes_12 : decode cX3_becomes 12 = .ok (.getfield 39, 3) := by decide +kernel
theorem dX3_becomes_15 : decode cX3_becomes 15 = .ok (.if_icmp .ge 24, 3) := by decide +kernel
theorem dX3_becomes_18 : decode cX3_becomes 18 = .ok (.aload_n 0, 1) := by decide +kernel
theorem dX3_becomes_19 : decode cX3_becomes 19 = .ok (.getfield 11, 3) := by decide +kernel
theorem dX3_becomes_22 : decode cX3_becomes 22 = .ok (.iload_n 2, 1) := by decide +kernel
theorem dX3_becomes_23 : decode cX3_becomes 23 = .ok (.aaload, 1) := by decide +kernel
theorem dX3_becomes_24 : decode cX3_becomes 24 = .ok (.aload_n 1, 1) := by decide +kernel
theorem dX3_becomes_25 : decode cX3_becomes 25 = .ok (.getfield 11, 3) := by decide +kernel
theorem dX3_becomes_28 : decode cX3_becomes 28 = .ok (.iload_n 2, 1) := by decide +kernel
theorem dX3_becomes_29 : decode cX3_becomes 29 = .ok (.aaload, 1) := by decide +kernel
theorem dX3_becomes_30 : decode cX3_becomes 30 = .ok (.invokevirtual 42, 3) := by decide +kernel
theorem dX3_becomes_33 : decode cX3_becomes 33 = .ok (.iinc 2 1, 3) := by decide +kernel
theorem dX3_becomes_36 : decode cX3_becomes 36 = .ok (.goto (-26), 3) := by decide +kernel
theorem dX3_becomes_39 : decode cX3_becomes 39 = .ok (.aload_n 0, 1) := by decide +kernel
theorem dX3_becomes_40 : decode cX3_becomes 40 = .ok (.aload_n 1, 1) := by decide +kernel
theorem dX3_becomes_41 : decode cX3_becomes 41 = .ok (.getfield 46, 3) := by decide +kernel
theorem dX3_becomes_44 : decode cX3_becomes 44 = .ok (.putfield 46, 3) := by decide +kernel
theorem dX3_becomes_47 : decode cX3_becomes 47 = .ok (.aload_n 0, 1) := by decide +kernel
theorem dX3_becomes_48 : decode cX3_becomes 48 = .ok (.aload_n 1, 1) := by decide +kernel
theorem dX3_becomes_49 : decode cX3_becomes 49 = .ok (.getfield 49, 3) := by decide +kernel
theorem dX3_becomes_52 : decode cX3_becomes 52 = .ok (.putfield 49, 3) := by decide +kernel
theorem dX3_becomes_55 : decode cX3_becomes 55 = .ok (.aload_n 0, 1) := by decide +kernel
theorem dX3_becomes_56 : decode cX3_becomes 56 = .ok (.aload_n 1, 1) := by decide +kernel
theorem dX3_becomes_57 : decode cX3_becomes 57 = .ok (.getfield 21, 3) := by decide +kernel
theorem dX3_becomes_60 : decode cX3_becomes 60 = .ok (.putfield 21, 3) := by decide +kernel
theorem dX3_becomes_63 : decode cX3_becomes 63 = .ok (.aload_n 0, 1) := by decide +kernel
theorem dX3_becomes_64 : decode cX3_becomes 64 = .ok (.aload_n 1, 1) := by decide +kernel
theorem dX3_becomes_65 : decode cX3_becomes 65 = .ok (.getfield 52, 3) := by decide +kernel
theorem dX3_becomes_68 : decode cX3_becomes 68 = .ok (.putfield 52, 3) := by decide +kernel
theorem dX3_becomes_71 : decode cX3_becomes 71 = .ok (.aload_n 0, 1) := by decide +kernel
theorem dX3_becomes_72 : decode cX3_becomes 72 = .ok (.aload_n 1, 1) := by decide +kernel
theorem dX3_becomes_73 : decode cX3_becomes 73 = .ok (.getfield 55, 3) := by decide +kernel
theorem dX3_becomes_76 : decode cX3_becomes 76 = .ok (.putfield 55, 3) := by decide +kernel
theorem dX3_becomes_79 : decode cX3_becomes 79 = .ok (.aload_n 0, 1) := by decide +kernel
theorem dX3_becomes_80 : decode cX3_becomes 80 = .ok (.aload_n 1, 1) := by decide +kernel
theorem dX3_becomes_81 : decode cX3_becomes 81 = .ok (.getfield 25, 3) := by decide +kernel
theorem dX3_becomes_84 : decode cX3_becomes 84 = .ok (.putfield 25, 3) := by decide +kernel
theorem dX3_becomes_87 : decode cX3_becomes 87 = .ok (.aload_n 0, 1) := by decide +kernel
theorem dX3_becomes_88 : decode cX3_becomes 88 = .ok (.aload_n 1, 1) := by decide +kernel
theorem dX3_becomes_89 : decode cX3_becomes 89 = .ok (.getfield 58, 3) := by decide +kernel
theorem dX3_becomes_92 : decode cX3_becomes 92 = .ok (.putfield 58, 3) := by decide +kernel
theorem dX3_becomes_95 : decode cX3_becomes 95 = .ok (.iconst 0, 1) := by decide +kernel
theorem dX3_becomes_96 : decode cX3_becomes 96 = .ok (.istore_n 2, 1) := by decide +kernel
theorem dX3_becomes_97 : decode cX3_becomes 97 = .ok (.iload_n 2, 1) := by decide +kernel
theorem dX3_becomes_98 : decode cX3_becomes 98 = .ok (.aload_n 0, 1) := by decide +kernel
theorem dX3_becomes_99 : decode cX3_becomes 99 = .ok (.getfield 58, 3) := by decide +kernel
theorem dX3_becomes_102 : decode cX3_becomes 102 = .ok (.if_icmp .ge 21, 3) := by decide +kernel
theorem dX3_becomes_105 : decode cX3_becomes 105 = .ok (.aload_n 0, 1) := by decide +kernel
theorem dX3_becomes_106 : decode cX3_becomes 106 = .ok (.getfield 30, 3) := by decide +kernel
theorem dX3_becomes_109 : decode cX3_becomes 109 = .ok (.iload_n 2, 1) := by decide +kernel
theorem dX3_becomes_110 : decode cX3_becomes 110 = .ok (.aload_n 1, 1) := by decide +kernel
theorem dX3_becomes_111 : decode cX3_becomes 111 = .ok (.getfield 30, 3) := by decide +kernel
theorem dX3_becomes_114 : decode cX3_becomes 114 = .ok (.iload_n 2, 1) := by decide +kernel
theorem dX3_becomes_115 : decode cX3_becomes 115 = .ok (.aaload, 1) := by decide +kernel
theorem dX3_becomes_116 : decode cX3_becomes 116 = .ok (.aastore, 1) := by decide +kernel
theorem dX3_becomes_117 : decode cX3_becomes 117 = .ok (.iinc 2 1, 3) := by decide +kernel
theorem dX3_becomes_120 : decode cX3_becomes 120 = .ok (.goto (-23), 3) := by decide +kernel
theorem dX3_becomes_123 : decode cX3_becomes 123 = .ok (.aload_n 1, 1) := by decide +kernel
theorem dX3_becomes_124 : decode cX3_becomes 124 = .ok (.getfield 35, 3) := by decide +kernel
theorem dX3_becomes_127 : decode cX3_becomes 127 = .ok (.iconst 0, 1) := by decide +kernel
theorem dX3_becomes_128 : decode cX3_becomes 128 = .ok (.aload_n 0, 1) := by decide +kernel
theorem dX3_becomes_129 : decode cX3_becomes 129 = .ok (.getfield 35, 3) := by decide +kernel
theorem dX3_becomes_132 : decode cX3_becomes 132 = .ok (.iconst 0, 1) := by decide +kernel
theorem dX3_becomes_133 : decode cX3_becomes 133 = .ok (.iconst 3, 1) := by decide +kernel
theorem dX3_becomes_134 : decode cX3_becomes 134 = .ok (.invokestatic 61, 3) := by decide +kernel
theorem dX3_becomes_137 : decode cX3_becomes 137 = .ok (.return_, 1) := by decide +kernel
theorem dX3_hasLamp_0 : decode cX3_hasLamp 0 = .ok (.iconst 0, 1) := by decide +kernel
theorem dX3_hasLamp_1 : decode cX3_hasLamp 1 = .ok (.iload_n 1, 1) := by decide +kernel
theorem dX3_hasLamp_2 : decode cX3_hasLamp 2 = .ok (.if_icmp .gt 15, 3) := by decide +kernel
theorem dX3_hasLamp_5 : decode cX3_hasLamp 5 = .ok (.iload_n 1, 1) := by decide +kernel
theorem dX3_hasLamp_6 : decode cX3_hasLamp 6 = .ok (.aload_n 0, 1) := by decide +kernel
theorem dX3_hasLamp_7 : decode cX3_hasLamp 7 = .ok (.getfield 39, 3) := by decide +kernel
theorem dX3_hasLamp_10 : decode cX3_hasLamp 10 = .ok (.if_icmp .ge 7, 3) := by decide +kernel
theorem dX3_hasLamp_13 : decode cX3_hasLamp 13 = .ok (.iconst 1, 1) := by decide +kernel
theorem dX3_hasLamp_14 : decode cX3_hasLamp 14 = .ok (.goto 4, 3) := by decide +kernel
theorem dX3_hasLamp_17 : decode cX3_hasLamp 17 = .ok (.iconst 0, 1) := by decide +kernel
theorem dX3_hasLamp_18 : decode cX3_hasLamp 18 = .ok (.ireturn, 1) := by decide +kernel
theorem dX3_addLamp_0 : decode cX3_addLamp 0 = .ok (.aload_n 0, 1) := by decide +kernel
theorem dX3_addLamp_1 : decode cX3_addLamp 1 = .ok (.getfield 39, 3) := by decide +kernel
theorem dX3_addLamp_4 : decode cX3_addLamp 4 = .ok (.bipush 10, 2) := by decide +kernel
theorem dX3_addLamp_6 : decode cX3_addLamp 6 = .ok (.if_icmp .lt 4, 3) := by decide +kernel
theorem dX3_addLamp_9 : decode cX3_addLamp 9 = .ok (.return_, 1) := by decide +kernel
theorem dX3_addLamp_10 : decode cX3_addLamp 10 = .ok (.aload_n 0, 1) := by decide +kernel
theorem dX3_addLamp_11 : decode cX3_addLamp 11 = .ok (.getfield 11, 3) := by decide +kernel
theorem dX3_addLamp_14 : decode cX3_addLamp 14 = .ok (.aload_n 0, 1) := by decide +kernel
theorem dX3_addLamp_15 : decode cX3_addLamp 15 = .ok (.getfield 39, 3) := by decide +kernel
theorem dX3_addLamp_18 : decode cX3_addLamp 18 = .ok (.aaload, 1) := by decide +kernel
theorem dX3_addLamp_19 : decode cX3_addLamp 19 = .ok (.astore 5, 2) := by decide +kernel
theorem dX3_addLamp_21 : decode cX3_addLamp 21 = .ok (.aload 5, 2) := by decide +kernel
theorem dX3_addLamp_23 : decode cX3_addLamp 23 = .ok (.iload_n 1, 1) := by decide +kernel
theorem dX3_addLamp_24 : decode cX3_addLamp 24 = .ok (.putfield 67, 3) := by decide +kernel
theorem dX3_addLamp_27 : decode cX3_addLamp 27 = .ok (.aload 5, 2) := by decide +kernel
theorem dX3_addLamp_29 : decode cX3_addLamp 29 = .ok (.iload_n 2, 1) := by decide +kernel
theorem dX3_addLamp_30 : decode cX3_addLamp 30 = .ok (.putfield 70, 3) := by decide +kernel
theorem dX3_addLamp_33 : decode cX3_addLamp 33 = .ok (.aload 5, 2) := by decide +kernel
theorem dX3_addLamp_35 : decode cX3_addLamp 35 = .ok (.iload_n 3, 1) := by decide +kernel
theorem dX3_addLamp_36 : decode cX3_addLamp 36 = .ok (.putfield 73, 3) := by decide +kernel
theorem dX3_addLamp_39 : decode cX3_addLamp 39 = .ok (.aload 5, 2) := by decide +kernel
theorem dX3_addLamp_41 : decode cX3_addLamp 41 = .ok (.iload 4, 2) := by decide +kernel
theorem dX3_addLamp_43 : decode cX3_addLamp 43 = .ok (.putfield 76, 3) := by decide +kernel
theorem dX3_addLamp_46 : decode cX3_addLamp 46 = .ok (.aload 5, 2) := by decide +kernel
theorem dX3_addLamp_48 : decode cX3_addLamp 48 = .ok (.aload_n 0, 1) := by decide +kernel
theorem dX3_addLamp_49 : decode cX3_addLamp 49 = .ok (.getfield 39, 3) := by decide +kernel
theorem dX3_addLamp_52 : decode cX3_addLamp 52 = .ok (.putfield 79, 3) := by decide +kernel
theorem dX3_addLamp_55 : decode cX3_addLamp 55 = .ok (.aload 5, 2) := by decide +kernel
theorem dX3_addLamp_57 : decode cX3_addLamp 57 = .ok (.iconst 0, 1) := by decide +kernel
theorem dX3_addLamp_58 : decode cX3_addLamp 58 = .ok (.putfield 82, 3) := by decide +kernel
theorem dX3_addLamp_61 : decode cX3_addLamp 61 = .ok (.aload 5, 2) := by decide +kernel
theorem dX3_addLamp_63 : decode cX3_addLamp 63 = .ok (.iconst 0, 1) := by decide +kernel
theorem dX3_addLamp_64 : decode cX3_addLamp 64 = .ok (.putfield 85, 3) := by decide +kernel
theorem dX3_addLamp_67 : decode cX3_addLamp 67 = .ok (.aload_n 0, 1) := by decide +kernel
theorem dX3_addLamp_68 : decode cX3_addLamp 68 = .ok (.dup, 1) := by decide +kernel
theorem dX3_addLamp_69 : decode cX3_addLamp 69 = .ok (.getfield 39, 3) := by decide +kernel
theorem dX3_addLamp_72 : decode cX3_addLamp 72 = .ok (.iconst 1, 1) := by decide +kernel
theorem dX3_addLamp_73 : decode cX3_addLamp 73 = .ok (.iadd, 1) := by decide +kernel
theorem dX3_addLamp_74 : decode cX3_addLamp 74 = .ok (.putfield 39, 3) := by decide +kernel
theorem dX3_addLamp_77 : decode cX3_addLamp 77 = .ok (.return_, 1) := by decide +kernel
theorem dX3_hasText_0 : decode cX3_hasText 0 = .ok (.iconst 0, 1) := by decide +kernel
theorem dX3_hasText_1 : decode cX3_hasText 1 = .ok (.iload_n 1, 1) := by decide +kernel
theorem dX3_hasText_2 : decode cX3_hasText 2 = .ok (.if_icmp .gt 15, 3) := by decide +kernel
theorem dX3_hasText_5 : decode cX3_hasText 5 = .ok (.iload_n 1, 1) := by decide +kernel
theorem dX3_hasText_6 : decode cX3_hasText 6 = .ok (.aload_n 0, 1) := by decide +kernel
theorem dX3_hasText_7 : decode cX3_hasText 7 = .ok (.getfield 58, 3) := by decide +kernel
theorem dX3_hasText_10 : decode cX3_hasText 10 = .ok (.if_icmp .ge 7, 3) := by decide +kernel
theorem dX3_hasText_13 : decode cX3_hasText 13 = .ok (.iconst 1, 1) := by decide +kernel
theorem dX3_hasText_14 : decode cX3_hasText 14 = .ok (.goto 4, 3) := by decide +kernel
theorem dX3_hasText_17 : decode cX3_hasText 17 = .ok (.iconst 0, 1) := by decide +kernel
theorem dX3_hasText_18 : decode cX3_hasText 18 = .ok (.ireturn, 1) := by decide +kernel
theorem dX3_addText_0 : decode cX3_addText 0 = .ok (.aload_n 0, 1) := by decide +kernel
theorem dX3_addText_1 : decode cX3_addText 1 = .ok (.getfield 58, 3) := by decide +kernel
theorem dX3_addText_4 : decode cX3_addText 4 = .ok (.bipush 14, 2) := by decide +kernel
theorem dX3_addText_6 : decode cX3_addText 6 = .ok (.if_icmp .ge 13, 3) := by decide +kernel
theorem dX3_addText_9 : decode cX3_addText 9 = .ok (.aload_n 1, 1) := by decide +kernel
theorem dX3_addText_10 : decode cX3_addText 10 = .ok (.getfield 88, 3) := by decide +kernel
theorem dX3_addText_13 : decode cX3_addText 13 = .ok (.invokestatic 91, 3) := by decide +kernel
theorem dX3_addText_16 : decode cX3_addText 16 = .ok (.ifCond .ne 4, 3) := by decide +kernel
theorem dX3_addText_19 : decode cX3_addText 19 = .ok (.return_, 1) := by decide +kernel
theorem dX3_addText_20 : decode cX3_addText 20 = .ok (.aload_n 0, 1) := by decide +kernel
theorem dX3_addText_21 : decode cX3_addText 21 = .ok (.getfield 30, 3) := by decide +kernel
theorem dX3_addText_24 : decode cX3_addText 24 = .ok (.aload_n 0, 1) := by decide +kernel
theorem dX3_addText_25 : decode cX3_addText 25 = .ok (.getfield 58, 3) := by decide +kernel
theorem dX3_addText_28 : decode cX3_addText 28 = .ok (.aload_n 1, 1) := by decide +kernel
theorem dX3_addText_29 : decode cX3_addText 29 = .ok (.aastore, 1) := by decide +kernel
theorem dX3_addText_30 : decode cX3_addText 30 = .ok (.aload_n 0, 1) := by decide +kernel
theorem dX3_addText_31 : decode cX3_addText 31 = .ok (.getfield 35, 3) := by decide +kernel
theorem dX3_addText_34 : decode cX3_addText 34 = .ok (.aload_n 1, 1) := by decide +kernel
theorem dX3_addText_35 : decode cX3_addText 35 = .ok (.getfield 88, 3) := by decide +kernel
theorem dX3_addText_38 : decode cX3_addText 38 = .ok (.aload_n 0, 1) := by decide +kernel
theorem dX3_addText_39 : decode cX3_addText 39 = .ok (.getfield 58, 3) := by decide +kernel
theorem dX3_addText_42 : decode cX3_addText 42 = .ok (.iastore, 1) := by decide +kernel
theorem dX3_addText_43 : decode cX3_addText 43 = .ok (.aload_n 0, 1) := by decide +kernel
theorem dX3_addText_44 : decode cX3_addText 44 = .ok (.dup, 1) := by decide +kernel
theorem dX3_addText_45 : decode cX3_addText 45 = .ok (.getfield 58, 3) := by decide +kernel
theorem dX3_addText_48 : decode cX3_addText 48 = .ok (.iconst 1, 1) := by decide +kernel
theorem dX3_addText_49 : decode cX3_addText 49 = .ok (.iadd, 1) := by decide +kernel
theorem dX3_addText_50 : decode cX3_addText 50 = .ok (.putfield 58, 3) := by decide +kernel
theorem dX3_addText_53 : decode cX3_addText 53 = .ok (.return_, 1) := by decide +kernel
theorem dX3_textThatCounts_0 : decode cX3_textThatCounts 0 = .ok (.iload_n 1, 1) := by decide +kernel
theorem dX3_textThatCounts_1 : decode cX3_textThatCounts 1 = .ok (.invokestatic 91, 3) := by decide +kernel
theorem dX3_textThatCounts_4 : decode cX3_textThatCounts 4 = .ok (.ifCond .eq 30, 3) := by decide +kernel
theorem dX3_textThatCounts_7 : decode cX3_textThatCounts 7 = .ok (.aload_n 0, 1) := by decide +kernel
theorem dX3_textThatCounts_8 : decode cX3_textThatCounts 8 = .ok (.aload_n 0, 1) := by decide +kernel
theorem dX3_textThatCounts_9 : decode cX3_textThatCounts 9 = .ok (.getfield 35, 3) := by decide +kernel
theorem dX3_textThatCounts_12 : decode cX3_textThatCounts 12 = .ok (.iload_n 1, 1) := by decide +kernel
theorem dX3_textThatCounts_13 : decode cX3_textThatCounts 13 = .ok (.iaload, 1) := by decide +kernel
theorem dX3_textThatCounts_14 : decode cX3_textThatCounts 14 = .ok (.invokevirtual 95, 3) := by decide +kernel
theorem dX3_textThatCounts_17 : decode cX3_textThatCounts 17 = .ok (.ifCond .eq 17, 3) := by decide +kernel
theorem dX3_textThatCounts_20 : decode cX3_textThatCounts 20 = .ok (.aload_n 0, 1) := by decide +kernel
theorem dX3_textThatCounts_21 : decode cX3_textThatCounts 21 = .ok (.getfield 30, 3) := by decide +kernel
theorem dX3_textThatCounts_24 : decode cX3_textThatCounts 24 = .ok (.aload_n 0, 1) := by decide +kernel
theorem dX3_textThatCounts_25 : decode cX3_textThatCounts 25 = .ok (.getfield 35, 3) := by decide +kernel
theorem dX3_textThatCounts_28 : decode cX3_textThatCounts 28 = .ok (.iload_n 1, 1) := by decide +kernel
theorem dX3_textThatCounts_29 : decode cX3_textThatCounts 29 = .ok (.iaload, 1) := by decide +kernel
theorem dX3_textThatCounts_30 : decode cX3_textThatCounts 30 = .ok (.aaload, 1) := by decide +kernel
theorem dX3_textThatCounts_31 : decode cX3_textThatCounts 31 = .ok (.goto 4, 3) := by decide +kernel
theorem dX3_textThatCounts_34 : decode cX3_textThatCounts 34 = .ok (.aconst_null, 1) := by decide +kernel
theorem dX3_textThatCounts_35 : decode cX3_textThatCounts 35 = .ok (.areturn, 1) := by decide +kernel
theorem dX3_drawn_0 : decode cX3_drawn 0 = .ok (.aload_n 0, 1) := by decide +kernel
theorem dX3_drawn_1 : decode cX3_drawn 1 = .ok (.aload_n 0, 1) := by decide +kernel
theorem dX3_drawn_2 : decode cX3_drawn 2 = .ok (.getfield 25, 3) := by decide +kernel
theorem dX3_drawn_5 : decode cX3_drawn 5 = .ok (.ldc 98, 2) := by decide +kernel
theorem dX3_drawn_7 : decode cX3_drawn 7 = .ok (.imul, 1) := by decide +kernel
theorem dX3_drawn_8 : decode cX3_drawn 8 = .ok (.sipush 12345, 3) := by decide +kernel
theorem dX3_drawn_11 : decode cX3_drawn 11 = .ok (.iadd, 1) := by decide +kernel
theorem dX3_drawn_12 : decode cX3_drawn 12 = .ok (.putfield 25, 3) := by decide +kernel
theorem dX3_drawn_15 : decode cX3_drawn 15 = .ok (.aload_n 0, 1) := by decide +kernel
theorem dX3_drawn_16 : decode cX3_drawn 16 = .ok (.getfield 25, 3) := by decide +kernel
theorem dX3_drawn_19 : decode cX3_drawn 19 = .ok (.bipush 8, 2) := by decide +kernel
theorem dX3_drawn_21 : decode cX3_drawn 21 = .ok (.iushr, 1) := by decide +kernel
theorem dX3_drawn_22 : decode cX3_drawn 22 = .ok (.ireturn, 1) := by decide +kernel
theorem dX3_lineUp_0 : decode cX3_lineUp 0 = .ok (.iconst 0, 1) := by decide +kernel
theorem dX3_lineUp_1 : decode cX3_lineUp 1 = .ok (.istore_n 1, 1) := by decide +kernel
theorem dX3_lineUp_2 : decode cX3_lineUp 2 = .ok (.iload_n 1, 1) := by decide +kernel
theorem dX3_lineUp_3 : decode cX3_lineUp 3 = .ok (.aload_n 0, 1) := by decide +kernel
theorem dX3_lineUp_4 : decode cX3_lineUp 4 = .ok (.getfield 39, 3) := by decide +kernel
theorem dX3_lineUp_7 : decode cX3_lineUp 7 = .ok (.if_icmp .ge 74, 3) := by decide +kernel
theorem dX3_lineUp_10 : decode cX3_lineUp 10 = .ok (.aload_n 0, 1) := by decide +kernel
theorem dX3_lineUp_11 : decode cX3_lineUp 11 = .ok (.aload_n 0, 1) := by decide +kernel
theorem dX3_lineUp_12 : decode cX3_lineUp 12 = .ok (.getfield 11, 3) := by decide +kernel
theorem dX3_lineUp_15 : decode cX3_lineUp 15 = .ok (.iload_n 1, 1) := by decide +kernel
theorem dX3_lineUp_16 : decode cX3_lineUp 16 = .ok (.aaload, 1) := by decide +kernel
theorem dX3_lineUp_17 : decode cX3_lineUp 17 = .ok (.invokevirtual 99, 3) := by decide +kernel
theorem dX3_lineUp_20 : decode cX3_lineUp 20 = .ok (.istore_n 2, 1) := by decide +kernel
theorem dX3_lineUp_21 : decode cX3_lineUp 21 = .ok (.iload_n 1, 1) := by decide +kernel
theorem dX3_lineUp_22 : decode cX3_lineUp 22 = .ok (.istore_n 3, 1) := by decide +kernel
theorem dX3_lineUp_23 : decode cX3_lineUp 23 = .ok (.iload_n 3, 1) := by decide +kernel
theorem dX3_lineUp_24 : decode cX3_lineUp 24 = .ok (.ifCond .le 44, 3) := by decide +kernel
theorem dX3_lineUp_27 : decode cX3_lineUp 27 = .ok (.iload_n 2, 1) := by decide +kernel
theorem dX3_lineUp_28 : decode cX3_lineUp 28 = .ok (.aload_n 0, 1) := by decide +kernel
theorem dX3_lineUp_29 : decode cX3_lineUp 29 = .ok (.aload_n 0, 1) := by decide +kernel
theorem dX3_lineUp_30 : decode cX3_lineUp 30 = .ok (.getfield 11, 3) := by decide +kernel
theorem dX3_lineUp_33 : decode cX3_lineUp 33 = .ok (.aload_n 0, 1) := by decide +kernel
theorem dX3_lineUp_34 : decode cX3_lineUp 34 = .ok (.getfield 17, 3) := by decide +kernel
theorem dX3_lineUp_37 : decode cX3_lineUp 37 = .ok (.iload_n 3, 1) := by decide +kernel
theorem dX3_lineUp_38 : decode cX3_lineUp 38 = .ok (.iconst 1, 1) := by decide +kernel
theorem dX3_lineUp_39 : decode cX3_lineUp 39 = .ok (.isub, 1) := by decide +kernel
theorem dX3_lineUp_40 : decode cX3_lineUp 40 = .ok (.iaload, 1) := by decide +kernel
theorem dX3_lineUp_41 : decode cX3_lineUp 41 = .ok (.aaload, 1) := by decide +kernel
theorem dX3_lineUp_42 : decode cX3_lineUp 42 = .ok (.invokevirtual 99, 3) := by decide +kernel
theorem dX3_lineUp_45 : decode cX3_lineUp 45 = .ok (.if_icmp .ge 23, 3) := by decide +kernel
theorem dX3_lineUp_48 : decode cX3_lineUp 48 = .ok (.aload_n 0, 1) := by decide +kernel
theorem dX3_lineUp_49 : decode cX3_lineUp 49 = .ok (.getfield 17, 3) := by decide +kernel
theorem dX3_lineUp_52 : decode cX3_lineUp 52 = .ok (.iload_n 3, 1) := by decide +kernel
theorem dX3_lineUp_53 : decode cX3_lineUp 53 = .ok (.aload_n 0, 1) := by decide +kernel
theorem dX3_lineUp_54 : decode cX3_lineUp 54 = .ok (.getfield 17, 3) := by decide +kernel
theorem dX3_lineUp_57 : decode cX3_lineUp 57 = .ok (.iload_n 3, 1) := by decide +kernel
theorem dX3_lineUp_58 : decode cX3_lineUp 58 = .ok (.iconst 1, 1) := by decide +kernel
theorem dX3_lineUp_59 : decode cX3_lineUp 59 = .ok (.isub, 1) := by decide +kernel
theorem dX3_lineUp_60 : decode cX3_lineUp 60 = .ok (.iaload, 1) := by decide +kernel
theorem dX3_lineUp_61 : decode cX3_lineUp 61 = .ok (.iastore, 1) := by decide +kernel
theorem dX3_lineUp_62 : decode cX3_lineUp 62 = .ok (.iinc 3 (-1), 3) := by decide +kernel
theorem dX3_lineUp_65 : decode cX3_lineUp 65 = .ok (.goto (-42), 3) := by decide +kernel
theorem dX3_lineUp_68 : decode cX3_lineUp 68 = .ok (.aload_n 0, 1) := by decide +kernel
theorem dX3_lineUp_69 : decode cX3_lineUp 69 = .ok (.getfield 17, 3) := by decide +kernel
theorem dX3_lineUp_72 : decode cX3_lineUp 72 = .ok (.iload_n 3, 1) := by decide +kernel
theorem dX3_lineUp_73 : decode cX3_lineUp 73 = .ok (.iload_n 1, 1) := by decide +kernel
theorem dX3_lineUp_74 : decode cX3_lineUp 74 = .ok (.iastore, 1) := by decide +kernel
theorem dX3_lineUp_75 : decode cX3_lineUp 75 = .ok (.iinc 1 1, 3) := by decide +kernel
theorem dX3_lineUp_78 : decode cX3_lineUp 78 = .ok (.goto (-76), 3) := by decide +kernel
theorem dX3_lineUp_81 : decode cX3_lineUp 81 = .ok (.return_, 1) := by decide +kernel
theorem dX3_rankOf_0 : decode cX3_rankOf 0 = .ok (.aload_n 0, 1) := by decide +kernel
theorem dX3_rankOf_1 : decode cX3_rankOf 1 = .ok (.getfield 46, 3) := by decide +kernel
theorem dX3_rankOf_4 : decode cX3_rankOf 4 = .ok (.lookupswitch 39 #[(0, 28), (1, 33)], 28) := by decide +kernel
theorem dX3_rankOf_32 : decode cX3_rankOf 32 = .ok (.aload_n 1, 1) := by decide +kernel
theorem dX3_rankOf_33 : decode cX3_rankOf 33 = .ok (.getfield 79, 3) := by decide +kernel
theorem dX3_rankOf_36 : decode cX3_rankOf 36 = .ok (.ireturn, 1) := by decide +kernel
theorem dX3_rankOf_37 : decode cX3_rankOf 37 = .ok (.aload_n 1, 1) := by decide +kernel
theorem dX3_rankOf_38 : decode cX3_rankOf 38 = .ok (.getfield 79, 3) := by decide +kernel
theorem dX3_rankOf_41 : decode cX3_rankOf 41 = .ok (.ineg, 1) := by decide +kernel
theorem dX3_rankOf_42 : decode cX3_rankOf 42 = .ok (.ireturn, 1) := by decide +kernel
theorem dX3_rankOf_43 : decode cX3_rankOf 43 = .ok (.aload_n 1, 1) := by decide +kernel
theorem dX3_rankOf_44 : decode cX3_rankOf 44 = .ok (.getfield 70, 3) := by decide +kernel
theorem dX3_rankOf_47 : decode cX3_rankOf 47 = .ok (.ireturn, 1) := by decide +kernel
theorem dX3_hasLineOf_0 : decode cX3_hasLineOf 0 = .ok (.aload_n 0, 1) := by decide +kernel
theorem dX3_hasLineOf_1 : decode cX3_hasLineOf 1 = .ok (.getfield 39, 3) := by decide +kernel
theorem dX3_hasLineOf_4 : decode cX3_hasLineOf 4 = .ok (.aload_n 1, 1) := by decide +kernel
theorem dX3_hasLineOf_5 : decode cX3_hasLineOf 5 = .ok (.getfield 39, 3) := by decide +kernel
theorem dX3_hasLineOf_8 : decode cX3_hasLineOf 8 = .ok (.if_icmp .eq 5, 3) := by decide +kernel
theorem dX3_hasLineOf_11 : decode cX3_hasLineOf 11 = .ok (.iconst 0, 1) := by decide +kernel
theorem dX3_hasLineOf_12 : decode cX3_hasLineOf 12 = .ok (.ireturn, 1) := by decide +kernel
theorem dX3_hasLineOf_13 : decode cX3_hasLineOf 13 = .ok (.iconst 0, 1) := by decide +kernel
theorem dX3_hasLineOf_14 : decode cX3_hasLineOf 14 = .ok (.istore_n 2, 1) := by decide +kernel
theorem dX3_hasLineOf_15 : decode cX3_hasLineOf 15 = .ok (.iload_n 2, 1) := by decide +kernel
theorem dX3_hasLineOf_16 : decode cX3_hasLineOf 16 = .ok (.aload_n 0, 1) := by decide +kernel
theorem dX3_hasLineOf_17 : decode cX3_hasLineOf 17 = .ok (.getfield 39, 3) := by decide +kernel
theorem dX3_hasLineOf_20 : decode cX3_hasLineOf 20 = .ok (.if_icmp .ge 26, 3) := by decide +kernel
theorem dX3_hasLineOf_23 : decode cX3_hasLineOf 23 = .ok (.aload_n 0, 1) := by decide +kernel
theorem dX3_hasLineOf_24 : decode cX3_hasLineOf 24 = .ok (.getfield 17, 3) := by decide +kernel
theorem dX3_hasLineOf_27 : decode cX3_hasLineOf 27 = .ok (.iload_n 2, 1) := by decide +kernel
theorem dX3_hasLineOf_28 : decode cX3_hasLineOf 28 = .ok (.iaload, 1) := by decide +kernel
theorem dX3_hasLineOf_29 : decode cX3_hasLineOf 29 = .ok (.aload_n 1, 1) := by decide +kernel
theorem dX3_hasLineOf_30 : decode cX3_hasLineOf 30 = .ok (.getfield 17, 3) := by decide +kernel
theorem dX3_hasLineOf_33 : decode cX3_hasLineOf 33 = .ok (.iload_n 2, 1) := by decide +kernel
theorem dX3_hasLineOf_34 : decode cX3_hasLineOf 34 = .ok (.iaload, 1) := by decide +kernel
theorem dX3_hasLineOf_35 : decode cX3_hasLineOf 35 = .ok (.if_icmp .eq 5, 3) := by decide +kernel
theorem dX3_hasLineOf_38 : decode cX3_hasLineOf 38 = .ok (.iconst 0, 1) := by decide +kernel
theorem dX3_hasLineOf_39 : decode cX3_hasLineOf 39 = .ok (.ireturn, 1) := by decide +kernel
theorem dX3_hasLineOf_40 : decode cX3_hasLineOf 40 = .ok (.iinc 2 1, 3) := by decide +kernel
theorem dX3_hasLineOf_43 : decode cX3_hasLineOf 43 = .ok (.goto (-28), 3) := by decide +kernel
theorem dX3_hasLineOf_46 : decode cX3_hasLineOf 46 = .ok (.iconst 1, 1) := by decide +kernel
theorem dX3_hasLineOf_47 : decode cX3_hasLineOf 47 = .ok (.ireturn, 1) := by decide +kernel
theorem dX3_foremost_0 : decode cX3_foremost 0 = .ok (.aload_n 0, 1) := by decide +kernel
theorem dX3_foremost_1 : decode cX3_foremost 1 = .ok (.getfield 39, 3) := by decide +kernel
theorem dX3_foremost_4 : decode cX3_foremost 4 = .ok (.ifCond .ne 6, 3) := by decide +kernel
theorem dX3_foremost_7 : decode cX3_foremost 7 = .ok (.ldc 34, 2) := by decide +kernel
theorem dX3_foremost_9 : decode cX3_foremost 9 = .ok (.ireturn, 1) := by decide +kernel
theorem dX3_foremost_10 : decode cX3_foremost 10 = .ok (.aload_n 0, 1) := by decide +kernel
theorem dX3_foremost_11 : decode cX3_foremost 11 = .ok (.invokevirtual 103, 3) := by decide +kernel
theorem dX3_foremost_14 : decode cX3_foremost 14 = .ok (.aload_n 0, 1) := by decide +kernel
theorem dX3_foremost_15 : decode cX3_foremost 15 = .ok (.getfield 17, 3) := by decide +kernel
theorem dX3_foremost_18 : decode cX3_foremost 18 = .ok (.iconst 0, 1) := by decide +kernel
theorem dX3_foremost_19 : decode cX3_foremost 19 = .ok (.iaload, 1) := by decide +kernel
theorem dX3_foremost_20 : decode cX3_foremost 20 = .ok (.ireturn, 1) := by decide +kernel
theorem dX3_hindmostWalked_0 : decode cX3_hindmostWalked 0 = .ok (.aload_n 0, 1) := by decide +kernel
theorem dX3_hindmostWalked_1 : decode cX3_hindmostWalked 1 = .ok (.getfield 39, 3) := by decide +kernel
theorem dX3_hindmostWalked_4 : decode cX3_hindmostWalked 4 = .ok (.ifCond .ne 7, 3) := by decide +kernel
theorem dX3_hindmostWalked_7 : decode cX3_hindmostWalked 7 = .ok (.iconst 0, 1) := by decide +kernel
theorem dX3_hindmostWalked_8 : decode cX3_hindmostWalked 8 = .ok (.goto 14, 3) := by decide +kernel
theorem dX3_hindmostWalked_11 : decode cX3_hindmostWalked 11 = .ok (.aload_n 0, 1) := by decide +kernel
theorem dX3_hindmostWalked_12 : decode cX3_hindmostWalked 12 = .ok (.getfield 17, 3) := by decide +kernel
theorem dX3_hindmostWalked_15 : decode cX3_hindmostWalked 15 = .ok (.aload_n 0, 1) := by decide +kernel
theorem dX3_hindmostWalked_16 : decode cX3_hindmostWalked 16 = .ok (.getfield 39, 3) := by decide +kernel
theorem dX3_hindmostWalked_19 : decode cX3_hindmostWalked 19 = .ok (.iconst 1, 1) := by decide +kernel
theorem dX3_hindmostWalked_20 : decode cX3_hindmostWalked 20 = .ok (.isub, 1) := by decide +kernel
theorem dX3_hindmostWalked_21 : decode cX3_hindmostWalked 21 = .ok (.iaload, 1) := by decide +kernel
theorem dX3_hindmostWalked_22 : decode cX3_hindmostWalked 22 = .ok (.ireturn, 1) := by decide +kernel
theorem dX3_minutesTonight_0 : decode cX3_minutesTonight 0 = .ok (.aload_n 0, 1) := by decide +kernel
theorem dX3_minutesTonight_1 : decode cX3_minutesTonight 1 = .ok (.invokevirtual 103, 3) := by decide +kernel
theorem dX3_minutesTonight_4 : decode cX3_minutesTonight 4 = .ok (.iconst 0, 1) := by decide +kernel
theorem dX3_minutesTonight_5 : decode cX3_minutesTonight 5 = .ok (.istore_n 1, 1) := by decide +kernel
theorem dX3_minutesTonight_6 : decode cX3_minutesTonight 6 = .ok (.iconst 0, 1) := by decide +kernel
theorem dX3_minutesTonight_7 : decode cX3_minutesTonight 7 = .ok (.istore_n 2, 1) := by decide +kernel
theorem dX3_minutesTonight_8 : decode cX3_minutesTonight 8 = .ok (.iconst 0, 1) := by decide +kernel
theorem dX3_minutesTonight_9 : decode cX3_minutesTonight 9 = .ok (.istore_n 3, 1) := by decide +kernel
theorem dX3_minutesTonight_10 : decode cX3_minutesTonight 10 = .ok (.iload_n 3, 1) := by decide +kernel
theorem dX3_minutesTonight_11 : decode cX3_minutesTonight 11 = .ok (.aload_n 0, 1) := by decide +kernel
theorem dX3_minutesTonight_12 : decode cX3_minutesTonight 12 = .ok (.getfield 39, 3) := by decide +kernel
theorem dX3_minutesTonight_15 : decode cX3_minutesTonight 15 = .ok (.if_icmp .ge 40, 3) := by decide +kernel
theorem dX3_minutesTonight_18 : decode cX3_minutesTonight 18 = .ok (.aload_n 0, 1) := by decide +kernel
theorem dX3_minutesTonight_19 : decode cX3_minutesTonight 19 = .ok (.getfield 11, 3) := by decide +kernel
theorem dX3_minutesTonight_22 : decode cX3_minutesTonight 22 = .ok (.aload_n 0, 1) := by decide +kernel
theorem dX3_minutesTonight_23 : decode cX3_minutesTonight 23 = .ok (.getfield 17, 3) := by decide +kernel
theorem dX3_minutesTonight_26 : decode cX3_minutesTonight 26 = .ok (.iload_n 3, 1) := by decide +kernel
theorem dX3_minutesTonight_27 : decode cX3_minutesTonight 27 = .ok (.iaload, 1) := by decide +kernel
theorem dX3_minutesTonight_28 : decode cX3_minutesTonight 28 = .ok (.aaload, 1) := by decide +kernel
theorem dX3_minutesTonight_29 : decode cX3_minutesTonight 29 = .ok (.getfield 70, 3) := by decide +kernel
theorem dX3_minutesTonight_32 : decode cX3_minutesTonight 32 = .ok (.istore 4, 2) := by decide +kernel
theorem dX3_minutesTonight_34 : decode cX3_minutesTonight 34 = .ok (.iload_n 1, 1) := by decide +kernel
theorem dX3_minutesTonight_35 : decode cX3_minutesTonight 35 = .ok (.iload 4, 2) := by decide +kernel
theorem dX3_minutesTonight_37 : decode cX3_minutesTonight 37 = .ok (.iload_n 2, 1) := by decide +kernel
theorem dX3_minutesTonight_38 : decode cX3_minutesTonight 38 = .ok (.isub, 1) := by decide +kernel
theorem dX3_minutesTonight_39 : decode cX3_minutesTonight 39 = .ok (.invokestatic 106, 3) := by decide +kernel
theorem dX3_minutesTonight_42 : decode cX3_minutesTonight 42 = .ok (.iconst 1, 1) := by decide +kernel
theorem dX3_minutesTonight_43 : decode cX3_minutesTonight 43 = .ok (.iadd, 1) := by decide +kernel
theorem dX3_minutesTonight_44 : decode cX3_minutesTonight 44 = .ok (.iadd, 1) := by decide +kernel
theorem dX3_minutesTonight_45 : decode cX3_minutesTonight 45 = .ok (.istore_n 1, 1) := by decide +kernel
theorem dX3_minutesTonight_46 : decode cX3_minutesTonight 46 = .ok (.iload 4, 2) := by decide +kernel
theorem dX3_minutesTonight_48 : decode cX3_minutesTonight 48 = .ok (.istore_n 2, 1) := by decide +kernel
theorem dX3_minutesTonight_49 : decode cX3_minutesTonight 49 = .ok (.iinc 3 1, 3) := by decide +kernel
theorem dX3_minutesTonight_52 : decode cX3_minutesTonight 52 = .ok (.goto (-42), 3) := by decide +kernel
theorem dX3_minutesTonight_55 : decode cX3_minutesTonight 55 = .ok (.iload_n 1, 1) := by decide +kernel
theorem dX3_minutesTonight_56 : decode cX3_minutesTonight 56 = .ok (.ireturn, 1) := by decide +kernel
theorem dX3_passNights_0 : decode cX3_passNights 0 = .ok (.iconst 0, 1) := by decide +kernel
theorem dX3_passNights_1 : decode cX3_passNights 1 = .ok (.istore_n 3, 1) := by decide +kernel
theorem dX3_passNights_2 : decode cX3_passNights 2 = .ok (.iload_n 3, 1) := by decide +kernel
theorem dX3_passNights_3 : decode cX3_passNights 3 = .ok (.iload_n 1, 1) := by decide +kernel
theorem dX3_passNights_4 : decode cX3_passNights 4 = .ok (.if_icmp .ge 14, 3) := by decide +kernel
theorem dX3_passNights_7 : decode cX3_passNights 7 = .ok (.aload_n 0, 1) := by decide +kernel
theorem dX3_passNights_8 : decode cX3_passNights 8 = .ok (.iload_n 2, 1) := by decide +kernel
theorem dX3_passNights_9 : decode cX3_passNights 9 = .ok (.invokevirtual 112, 3) := by decide +kernel
theorem dX3_passNights_12 : decode cX3_passNights 12 = .ok (.iinc 3 1, 3) := by decide +kernel
theorem dX3_passNights_15 : decode cX3_passNights 15 = .ok (.goto (-13), 3) := by decide +kernel
theorem dX3_passNights_18 : decode cX3_passNights 18 = .ok (.return_, 1) := by decide +kernel
theorem dX3_passNight_0 : decode cX3_passNight 0 = .ok (.aload_n 0, 1) := by decide +kernel
theorem dX3_passNight_1 : decode cX3_passNight 1 = .ok (.aload_n 0, 1) := by decide +kernel
theorem dX3_passNight_2 : decode cX3_passNight 2 = .ok (.invokevirtual 116, 3) := by decide +kernel
theorem dX3_passNight_5 : decode cX3_passNight 5 = .ok (.bipush 10, 2) := by decide +kernel
theorem dX3_passNight_7 : decode cX3_passNight 7 = .ok (.irem, 1) := by decide +kernel
theorem dX3_passNight_8 : decode cX3_passNight 8 = .ok (.putfield 49, 3) := by decide +kernel
theorem dX3_passNight_11 : decode cX3_passNight 11 = .ok (.aload_n 0, 1) := by decide +kernel
theorem dX3_passNight_12 : decode cX3_passNight 12 = .ok (.invokevirtual 103, 3) := by decide +kernel
theorem dX3_passNight_15 : decode cX3_passNight 15 = .ok (.iconst 0, 1) := by decide +kernel
theorem dX3_passNight_16 : decode cX3_passNight 16 = .ok (.istore_n 2, 1) := by decide +kernel
theorem dX3_passNight_17 : decode cX3_passNight 17 = .ok (.iconst 0, 1) := by decide +kernel
theorem dX3_passNight_18 : decode cX3_passNight 18 = .ok (.istore_n 3, 1) := by decide +kernel
theorem dX3_passNight_19 : decode cX3_passNight 19 = .ok (.iconst 0, 1) := by decide +kernel
theorem dX3_passNight_20 : decode cX3_passNight 20 = .ok (.istore 4, 2) := by decide +kernel
theorem dX3_passNight_22 : decode cX3_passNight 22 = .ok (.iload 4, 2) := by decide +kernel
theorem dX3_passNight_24 : decode cX3_passNight 24 = .ok (.aload_n 0, 1) := by decide +kernel
theorem dX3_passNight_25 : decode cX3_passNight 25 = .ok (.getfield 39, 3) := by decide +kernel
theorem dX3_passNight_28 : decode cX3_passNight 28 = .ok (.if_icmp .ge 62, 3) := by decide +kernel
theorem dX3_passNight_31 : decode cX3_passNight 31 = .ok (.aload_n 0, 1) := by decide +kernel
theorem dX3_passNight_32 : decode cX3_passNight 32 = .ok (.getfield 17, 3) := by decide +kernel
theorem dX3_passNight_35 : decode cX3_passNight 35 = .ok (.iload 4, 2) := by decide +kernel
theorem dX3_passNight_37 : decode cX3_passNight 37 = .ok (.iaload, 1) := by decide +kernel
theorem dX3_passNight_38 : decode cX3_passNight 38 = .ok (.iload_n 1, 1) := by decide +kernel
theorem dX3_passNight_39 : decode cX3_passNight 39 = .ok (.if_icmp .eq 45, 3) := by decide +kernel
theorem dX3_passNight_42 : decode cX3_passNight 42 = .ok (.aload_n 0, 1) := by decide +kernel
theorem dX3_passNight_43 : decode cX3_passNight 43 = .ok (.getfield 11, 3) := by decide +kernel
theorem dX3_passNight_46 : decode cX3_passNight 46 = .ok (.aload_n 0, 1) := by decide +kernel
theorem dX3_passNight_47 : decode cX3_passNight 47 = .ok (.getfield 17, 3) := by decide +kernel
theorem dX3_passNight_50 : decode cX3_passNight 50 = .ok (.iload 4, 2) := by decide +kernel
theorem dX3_passNight_52 : decode cX3_passNight 52 = .ok (.iaload, 1) := by decide +kernel
theorem dX3_passNight_53 : decode cX3_passNight 53 = .ok (.aaload, 1) := by decide +kernel
theorem dX3_passNight_54 : decode cX3_passNight 54 = .ok (.astore 5, 2) := by decide +kernel
theorem dX3_passNight_56 : decode cX3_passNight 56 = .ok (.iload_n 2, 1) := by decide +kernel
theorem dX3_passNight_57 : decode cX3_passNight 57 = .ok (.aload 5, 2) := by decide +kernel
theorem dX3_passNight_59 : decode cX3_passNight 59 = .ok (.getfield 70, 3) := by decide +kernel
theorem dX3_passNight_62 : decode cX3_passNight 62 = .ok (.iload_n 3, 1) := by decide +kernel
theorem dX3_passNight_63 : decode cX3_passNight 63 = .ok (.isub, 1) := by decide +kernel
theorem dX3_passNight_64 : decode cX3_passNight 64 = .ok (.invokestatic 106, 3) := by decide +kernel
theorem dX3_passNight_67 : decode cX3_passNight 67 = .ok (.iconst 1, 1) := by decide +kernel
theorem dX3_passNight_68 : decode cX3_passNight 68 = .ok (.iadd, 1) := by decide +kernel
theorem dX3_passNight_69 : decode cX3_passNight 69 = .ok (.iadd, 1) := by decide +kernel
theorem dX3_passNight_70 : decode cX3_passNight 70 = .ok (.istore_n 2, 1) := by decide +kernel
theorem dX3_passNight_71 : decode cX3_passNight 71 = .ok (.aload 5, 2) := by decide +kernel
theorem dX3_passNight_73 : decode cX3_passNight 73 = .ok (.getfield 70, 3) := by decide +kernel
theorem dX3_passNight_76 : decode cX3_passNight 76 = .ok (.istore_n 3, 1) := by decide +kernel
theorem dX3_passNight_77 : decode cX3_passNight 77 = .ok (.aload_n 0, 1) := by decide +kernel
theorem dX3_passNight_78 : decode cX3_passNight 78 = .ok (.aload 5, 2) := by decide +kernel
theorem dX3_passNight_80 : decode cX3_passNight 80 = .ok (.iload_n 2, 1) := by decide +kernel
theorem dX3_passNight_81 : decode cX3_passNight 81 = .ok (.invokevirtual 120, 3) := by decide +kernel
theorem dX3_passNight_84 : decode cX3_passNight 84 = .ok (.iinc 4 1, 3) := by decide +kernel
theorem dX3_passNight_87 : decode cX3_passNight 87 = .ok (.goto (-65), 3) := by decide +kernel
theorem dX3_passNight_90 : decode cX3_passNight 90 = .ok (.aload_n 0, 1) := by decide +kernel
theorem dX3_passNight_91 : decode cX3_passNight 91 = .ok (.dup, 1) := by decide +kernel
theorem dX3_passNight_92 : decode cX3_passNight 92 = .ok (.getfield 52, 3) := by decide +kernel
theorem dX3_passNight_95 : decode cX3_passNight 95 = .ok (.iload_n 2, 1) := by decide +kernel
theorem dX3_passNight_96 : decode cX3_passNight 96 = .ok (.iadd, 1) := by decide +kernel
theorem dX3_passNight_97 : decode cX3_passNight 97 = .ok (.putfield 52, 3) := by decide +kernel
theorem dX3_passNight_100 : decode cX3_passNight 100 = .ok (.iconst 0, 1) := by decide +kernel
theorem dX3_passNight_101 : decode cX3_passNight 101 = .ok (.istore 4, 2) := by decide +kernel
theorem dX3_passNight_103 : decode cX3_passNight 103 = .ok (.iload 4, 2) := by decide +kernel
theorem dX3_passNight_105 : decode cX3_passNight 105 = .ok (.aload_n 0, 1) := by decide +kernel
theorem dX3_passNight_106 : decode cX3_passNight 106 = .ok (.getfield 39, 3) := by decide +kernel
theorem dX3_passNight_109 : decode cX3_passNight 109 = .ok (.if_icmp .ge 52, 3) := by decide +kernel
theorem dX3_passNight_112 : decode cX3_passNight 112 = .ok (.iload 4, 2) := by decide +kernel
theorem dX3_passNight_114 : decode cX3_passNight 114 = .ok (.iload_n 1, 1) := by decide +kernel
theorem dX3_passNight_115 : decode cX3_passNight 115 = .ok (.if_icmp .eq 40, 3) := by decide +kernel
theorem dX3_passNight_118 : decode cX3_passNight 118 = .ok (.aload_n 0, 1) := by decide +kernel
theorem dX3_passNight_119 : decode cX3_passNight 119 = .ok (.getfield 11, 3) := by decide +kernel
theorem dX3_passNight_122 : decode cX3_passNight 122 = .ok (.iload 4, 2) := by decide +kernel
theorem dX3_passNight_124 : decode cX3_passNight 124 = .ok (.aaload, 1) := by decide +kernel
theorem dX3_passNight_125 : decode cX3_passNight 125 = .ok (.aload_n 0, 1) := by decide +kernel
theorem dX3_passNight_126 : decode cX3_passNight 126 = .ok (.getfield 11, 3) := by decide +kernel
theorem dX3_passNight_129 : decode cX3_passNight 129 = .ok (.iload 4, 2) := by decide +kernel
theorem dX3_passNight_131 : decode cX3_passNight 131 = .ok (.aaload, 1) := by decide +kernel
theorem dX3_passNight_132 : decode cX3_passNight 132 = .ok (.getfield 73, 3) := by decide +kernel
theorem dX3_passNight_135 : decode cX3_passNight 135 = .ok (.aload_n 0, 1) := by decide +kernel
theorem dX3_passNight_136 : decode cX3_passNight 136 = .ok (.getfield 11, 3) := by decide +kernel
theorem dX3_passNight_139 : decode cX3_passNight 139 = .ok (.iload 4, 2) := by decide +kernel
theorem dX3_passNight_141 : decode cX3_passNight 141 = .ok (.aaload, 1) := by decide +kernel
theorem dX3_passNight_142 : decode cX3_passNight 142 = .ok (.getfield 76, 3) := by decide +kernel
theorem dX3_passNight_145 : decode cX3_passNight 145 = .ok (.iadd, 1) := by decide +kernel
theorem dX3_passNight_146 : decode cX3_passNight 146 = .ok (.sipush 999, 3) := by decide +kernel
theorem dX3_passNight_149 : decode cX3_passNight 149 = .ok (.invokestatic 124, 3) := by decide +kernel
theorem dX3_passNight_152 : decode cX3_passNight 152 = .ok (.putfield 73, 3) := by decide +kernel
theorem dX3_passNight_155 : decode cX3_passNight 155 = .ok (.iinc 4 1, 3) := by decide +kernel
theorem dX3_passNight_158 : decode cX3_passNight 158 = .ok (.goto (-55), 3) := by decide +kernel
theorem dX3_passNight_161 : decode cX3_passNight 161 = .ok (.aload_n 0, 1) := by decide +kernel
theorem dX3_passNight_162 : decode cX3_passNight 162 = .ok (.dup, 1) := by decide +kernel
theorem dX3_passNight_163 : decode cX3_passNight 163 = .ok (.getfield 55, 3) := by decide +kernel
theorem dX3_passNight_166 : decode cX3_passNight 166 = .ok (.iconst 1, 1) := by decide +kernel
theorem dX3_passNight_167 : decode cX3_passNight 167 = .ok (.iadd, 1) := by decide +kernel
theorem dX3_passNight_168 : decode cX3_passNight 168 = .ok (.putfield 55, 3) := by decide +kernel
theorem dX3_passNight_171 : decode cX3_passNight 171 = .ok (.return_, 1) := by decide +kernel
theorem dX3_light_0 : decode cX3_light 0 = .ok (.aload_n 1, 1) := by decide +kernel
theorem dX3_light_1 : decode cX3_light 1 = .ok (.aload_n 0, 1) := by decide +kernel
theorem dX3_light_2 : decode cX3_light 2 = .ok (.aload_n 1, 1) := by decide +kernel
theorem dX3_light_3 : decode cX3_light 3 = .ok (.invokevirtual 128, 3) := by decide +kernel
theorem dX3_light_6 : decode cX3_light 6 = .ok (.invokevirtual 131, 3) := by decide +kernel
theorem dX3_light_9 : decode cX3_light 9 = .ok (.istore_n 3, 1) := by decide +kernel
theorem dX3_light_10 : decode cX3_light 10 = .ok (.aload_n 1, 1) := by decide +kernel
theorem dX3_light_11 : decode cX3_light 11 = .ok (.invokevirtual 134, 3) := by decide +kernel
theorem dX3_light_14 : decode cX3_light 14 = .ok (.ifCond .eq 13, 3) := by decide +kernel
theorem dX3_light_17 : decode cX3_light 17 = .ok (.aload_n 1, 1) := by decide +kernel
theorem dX3_light_18 : decode cX3_light 18 = .ok (.dup, 1) := by decide +kernel
theorem dX3_light_19 : decode cX3_light 19 = .ok (.getfield 85, 3) := by decide +kernel
theorem dX3_light_22 : decode cX3_light 22 = .ok (.iconst 1, 1) := by decide +kernel
theorem dX3_light_23 : decode cX3_light 23 = .ok (.iadd, 1) := by decide +kernel
theorem dX3_light_24 : decode cX3_light 24 = .ok (.putfield 85, 3) := by decide +kernel
theorem dX3_light_27 : decode cX3_light 27 = .ok (.aload_n 1, 1) := by decide +kernel
theorem dX3_light_28 : decode cX3_light 28 = .ok (.iload_n 2, 1) := by decide +kernel
theorem dX3_light_29 : decode cX3_light 29 = .ok (.putfield 82, 3) := by decide +kernel
theorem dX3_light_32 : decode cX3_light 32 = .ok (.aload_n 1, 1) := by decide +kernel
theorem dX3_light_33 : decode cX3_light 33 = .ok (.iload_n 2, 1) := by decide +kernel
theorem dX3_light_34 : decode cX3_light 34 = .ok (.iload_n 2, 1) := by decide +kernel
theorem dX3_light_35 : decode cX3_light 35 = .ok (.iload_n 3, 1) := by decide +kernel
theorem dX3_light_36 : decode cX3_light 36 = .ok (.iadd, 1) := by decide +kernel
theorem dX3_light_37 : decode cX3_light 37 = .ok (.aload_n 0, 1) := by decide +kernel
theorem dX3_light_38 : decode cX3_light 38 = .ok (.getfield 21, 3) := by decide +kernel
theorem dX3_light_41 : decode cX3_light 41 = .ok (.invokestatic 124, 3) := by decide +kernel
theorem dX3_light_44 : decode cX3_light 44 = .ok (.invokestatic 138, 3) := by decide +kernel
theorem dX3_light_47 : decode cX3_light 47 = .ok (.putfield 79, 3) := by decide +kernel
theorem dX3_light_50 : decode cX3_light 50 = .ok (.aload_n 1, 1) := by decide +kernel
theorem dX3_light_51 : decode cX3_light 51 = .ok (.dup, 1) := by decide +kernel
theorem dX3_light_52 : decode cX3_light 52 = .ok (.getfield 73, 3) := by decide +kernel
theorem dX3_light_55 : decode cX3_light 55 = .ok (.aload_n 1, 1) := by decide +kernel
theorem dX3_light_56 : decode cX3_light 56 = .ok (.aload_n 1, 1) := by decide +kernel
theorem dX3_light_57 : decode cX3_light 57 = .ok (.getfield 79, 3) := by decide +kernel
theorem dX3_light_60 : decode cX3_light 60 = .ok (.iload_n 2, 1) := by decide +kernel
theorem dX3_light_61 : decode cX3_light 61 = .ok (.isub, 1) := by decide +kernel
theorem dX3_light_62 : decode cX3_light 62 = .ok (.invokevirtual 141, 3) := by decide +kernel
theorem dX3_light_65 : decode cX3_light 65 = .ok (.isub, 1) := by decide +kernel
theorem dX3_light_66 : decode cX3_light 66 = .ok (.putfield 73, 3) := by decide +kernel
theorem dX3_light_69 : decode cX3_light 69 = .ok (.return_, 1) := by decide +kernel
theorem dX3_burnAsLamp_0 : decode cX3_burnAsLamp 0 = .ok (.aload_n 0, 1) := by decide +kernel
theorem dX3_burnAsLamp_1 : decode cX3_burnAsLamp 1 = .ok (.iconst 0, 1) := by decide +kernel
theorem dX3_burnAsLamp_2 : decode cX3_burnAsLamp 2 = .ok (.invokevirtual 144, 3) := by decide +kernel
theorem dX3_burnAsLamp_5 : decode cX3_burnAsLamp 5 = .ok (.astore_n 2, 1) := by decide +kernel
theorem dX3_burnAsLamp_6 : decode cX3_burnAsLamp 6 = .ok (.aload_n 2, 1) := by decide +kernel
theorem dX3_burnAsLamp_7 : decode cX3_burnAsLamp 7 = .ok (.ifnonnull 25, 3) := by decide +kernel
theorem dX3_burnAsLamp_10 : decode cX3_burnAsLamp 10 = .ok (.aload_n 1, 1) := by decide +kernel
theorem dX3_burnAsLamp_11 : decode cX3_burnAsLamp 11 = .ok (.getfield 73, 3) := by decide +kernel
theorem dX3_burnAsLamp_14 : decode cX3_burnAsLamp 14 = .ok (.bipush 10, 2) := by decide +kernel
theorem dX3_burnAsLamp_16 : decode cX3_burnAsLamp 16 = .ok (.imul, 1) := by decide +kernel
theorem dX3_burnAsLamp_17 : decode cX3_burnAsLamp 17 = .ok (.aload_n 0, 1) := by decide +kernel
theorem dX3_burnAsLamp_18 : decode cX3_burnAsLamp 18 = .ok (.getfield 49, 3) := by decide +kernel
theorem dX3_burnAsLamp_21 : decode cX3_burnAsLamp 21 = .ok (.aload_n 1, 1) := by decide +kernel
theorem dX3_burnAsLamp_22 : decode cX3_burnAsLamp 22 = .ok (.getfield 73, 3) := by decide +kernel
theorem dX3_burnAsLamp_25 : decode cX3_burnAsLamp 25 = .ok (.imul, 1) := by decide +kernel
theorem dX3_burnAsLamp_26 : decode cX3_burnAsLamp 26 = .ok (.iconst 2, 1) := by decide +kernel
theorem dX3_burnAsLamp_27 : decode cX3_burnAsLamp 27 = .ok (.idiv, 1) := by decide +kernel
theorem dX3_burnAsLamp_28 : decode cX3_burnAsLamp 28 = .ok (.isub, 1) := by decide +kernel
theorem dX3_burnAsLamp_29 : decode cX3_burnAsLamp 29 = .ok (.goto 19, 3) := by decide +kernel
theorem dX3_burnAsLamp_32 : decode cX3_burnAsLamp 32 = .ok (.aload_n 2, 1) := by decide +kernel
theorem dX3_burnAsLamp_33 : decode cX3_burnAsLamp 33 = .ok (.aload_n 1, 1) := by decide +kernel
theorem dX3_burnAsLamp_34 : decode cX3_burnAsLamp 34 = .ok (.getfield 73, 3) := by decide +kernel
theorem dX3_burnAsLamp_37 : decode cX3_burnAsLamp 37 = .ok (.aload_n 0, 1) := by decide +kernel
theorem dX3_burnAsLamp_38 : decode cX3_burnAsLamp 38 = .ok (.getfield 49, 3) := by decide +kernel
theorem dX3_burnAsLamp_41 : decode cX3_burnAsLamp 41 = .ok (.aload_n 1, 1) := by decide +kernel
theorem dX3_burnAsLamp_42 : decode cX3_burnAsLamp 42 = .ok (.getfield 70, 3) := by decide +kernel
theorem dX3_burnAsLamp_45 : decode cX3_burnAsLamp 45 = .ok (.invokevirtual 148, 3) := by decide +kernel
theorem dX3_burnAsLamp_48 : decode cX3_burnAsLamp 48 = .ok (.istore_n 3, 1) := by decide +kernel
theorem dX3_burnAsLamp_49 : decode cX3_burnAsLamp 49 = .ok (.iload_n 3, 1) := by decide +kernel
theorem dX3_burnAsLamp_50 : decode cX3_burnAsLamp 50 = .ok (.iconst 0, 1) := by decide +kernel
theorem dX3_burnAsLamp_51 : decode cX3_burnAsLamp 51 = .ok (.sipush 9999, 3) := by decide +kernel
theorem dX3_burnAsLamp_54 : decode cX3_burnAsLamp 54 = .ok (.invokestatic 152, 3) := by decide +kernel
theorem dX3_burnAsLamp_57 : decode cX3_burnAsLamp 57 = .ok (.ireturn, 1) := by decide +kernel
theorem dX3_darkAt_0 : decode cX3_darkAt 0 = .ok (.iconst 0, 1) := by decide +kernel
theorem dX3_darkAt_1 : decode cX3_darkAt 1 = .ok (.istore_n 2, 1) := by decide +kernel
theorem dX3_darkAt_2 : decode cX3_darkAt 2 = .ok (.iconst 0, 1) := by decide +kernel
theorem dX3_darkAt_3 : decode cX3_darkAt 3 = .ok (.istore_n 3, 1) := by decide +kernel
theorem dX3_darkAt_4 : decode cX3_darkAt 4 = .ok (.iload_n 3, 1) := by decide +kernel
theorem dX3_darkAt_5 : decode cX3_darkAt 5 = .ok (.aload_n 0, 1) := by decide +kernel
theorem dX3_darkAt_6 : decode cX3_darkAt 6 = .ok (.getfield 39, 3) := by decide +kernel
theorem dX3_darkAt_9 : decode cX3_darkAt 9 = .ok (.if_icmp .ge 41, 3) := by decide +kernel
theorem dX3_darkAt_12 : decode cX3_darkAt 12 = .ok (.aload_n 0, 1) := by decide +kernel
theorem dX3_darkAt_13 : decode cX3_darkAt 13 = .ok (.getfield 11, 3) := by decide +kernel
theorem dX3_darkAt_16 : decode cX3_darkAt 16 = .ok (.iload_n 3, 1) := by decide +kernel
theorem dX3_darkAt_17 : decode cX3_darkAt 17 = .ok (.aaload, 1) := by decide +kernel
theorem dX3_darkAt_18 : decode cX3_darkAt 18 = .ok (.getfield 82, 3) := by decide +kernel
theorem dX3_darkAt_21 : decode cX3_darkAt 21 = .ok (.iload_n 1, 1) := by decide +kernel
theorem dX3_darkAt_22 : decode cX3_darkAt 22 = .ok (.if_icmp .gt 16, 3) := by decide +kernel
theorem dX3_darkAt_25 : decode cX3_darkAt 25 = .ok (.aload_n 0, 1) := by decide +kernel
theorem dX3_darkAt_26 : decode cX3_darkAt 26 = .ok (.getfield 11, 3) := by decide +kernel
theorem dX3_darkAt_29 : decode cX3_darkAt 29 = .ok (.iload_n 3, 1) := by decide +kernel
theorem dX3_darkAt_30 : decode cX3_darkAt 30 = .ok (.aaload, 1) := by decide +kernel
theorem dX3_darkAt_31 : decode cX3_darkAt 31 = .ok (.getfield 79, 3) := by decide +kernel
theorem dX3_darkAt_34 : decode cX3_darkAt 34 = .ok (.iload_n 1, 1) := by decide +kernel
theorem dX3_darkAt_35 : decode cX3_darkAt 35 = .ok (.if_icmp .gt 9, 3) := by decide +kernel
theorem dX3_darkAt_38 : decode cX3_darkAt 38 = .ok (.iload_n 2, 1) := by decide +kernel
theorem dX3_darkAt_39 : decode cX3_darkAt 39 = .ok (.iconst 1, 1) := by decide +kernel
theorem dX3_darkAt_40 : decode cX3_darkAt 40 = .ok (.iload_n 3, 1) := by decide +kernel
theorem dX3_darkAt_41 : decode cX3_darkAt 41 = .ok (.ishl, 1) := by decide +kernel
theorem dX3_darkAt_42 : decode cX3_darkAt 42 = .ok (.ior, 1) := by decide +kernel
theorem dX3_darkAt_43 : decode cX3_darkAt 43 = .ok (.istore_n 2, 1) := by decide +kernel
theorem dX3_darkAt_44 : decode cX3_darkAt 44 = .ok (.iinc 3 1, 3) := by decide +kernel
theorem dX3_darkAt_47 : decode cX3_darkAt 47 = .ok (.goto (-43), 3) := by decide +kernel
theorem dX3_darkAt_50 : decode cX3_darkAt 50 = .ok (.iload_n 2, 1) := by decide +kernel
theorem dX3_darkAt_51 : decode cX3_darkAt 51 = .ok (.ireturn, 1) := by decide +kernel
theorem dX3_sumOf_0 : decode cX3_sumOf 0 = .ok (.iconst 0, 1) := by decide +kernel
theorem dX3_sumOf_1 : decode cX3_sumOf 1 = .ok (.istore_n 2, 1) := by decide +kernel
theorem dX3_sumOf_2 : decode cX3_sumOf 2 = .ok (.iconst 0, 1) := by decide +kernel
theorem dX3_sumOf_3 : decode cX3_sumOf 3 = .ok (.istore_n 3, 1) := by decide +kernel
theorem dX3_sumOf_4 : decode cX3_sumOf 4 = .ok (.iload_n 3, 1) := by decide +kernel
theorem dX3_sumOf_5 : decode cX3_sumOf 5 = .ok (.aload_n 0, 1) := by decide +kernel
theorem dX3_sumOf_6 : decode cX3_sumOf 6 = .ok (.getfield 39, 3) := by decide +kernel
theorem dX3_sumOf_9 : decode cX3_sumOf 9 = .ok (.if_icmp .ge 22, 3) := by decide +kernel
theorem dX3_sumOf_12 : decode cX3_sumOf 12 = .ok (.iload_n 2, 1) := by decide +kernel
theorem dX3_sumOf_13 : decode cX3_sumOf 13 = .ok (.aload_n 0, 1) := by decide +kernel
theorem dX3_sumOf_14 : decode cX3_sumOf 14 = .ok (.getfield 11, 3) := by decide +kernel
theorem dX3_sumOf_17 : decode cX3_sumOf 17 = .ok (.iload_n 3, 1) := by decide +kernel
theorem dX3_sumOf_18 : decode cX3_sumOf 18 = .ok (.aaload, 1) := by decide +kernel
theorem dX3_sumOf_19 : decode cX3_sumOf 19 = .ok (.iload_n 1, 1) := by decide +kernel
theorem dX3_sumOf_20 : decode cX3_sumOf 20 = .ok (.invokevirtual 155, 3) := by decide +kernel
theorem dX3_sumOf_23 : decode cX3_sumOf 23 = .ok (.iadd, 1) := by decide +kernel
theorem dX3_sumOf_24 : decode cX3_sumOf 24 = .ok (.istore_n 2, 1) := by decide +kernel
theorem dX3_sumOf_25 : decode cX3_sumOf 25 = .ok (.iinc 3 1, 3) := by decide +kernel
theorem dX3_sumOf_28 : decode cX3_sumOf 28 = .ok (.goto (-24), 3) := by decide +kernel
theorem dX3_sumOf_31 : decode cX3_sumOf 31 = .ok (.iload_n 2, 1) := by decide +kernel
theorem dX3_sumOf_32 : decode cX3_sumOf 32 = .ok (.ireturn, 1) := by decide +kernel
theorem dX4_init_0 : decode cX4_init 0 = .ok (.aload_n 0, 1) := by decide +kernel
theorem dX4_init_1 : decode cX4_init 1 = .ok (.invokespecial 1, 3) := by decide +kernel
theorem dX4_init_4 : decode cX4_init 4 = .ok (.aload_n 0, 1) := by decide +kernel
theorem dX4_init_5 : decode cX4_init 5 = .ok (.iload_n 1, 1) := by decide +kernel
theorem dX4_init_6 : decode cX4_init 6 = .ok (.putfield 7, 3) := by decide +kernel
theorem dX4_init_9 : decode cX4_init 9 = .ok (.aload_n 0, 1) := by decide +kernel
theorem dX4_init_10 : decode cX4_init 10 = .ok (.iload_n 2, 1) := by decide +kernel
theorem dX4_init_11 : decode cX4_init 11 = .ok (.putfield 13, 3) := by decide +kernel
theorem dX4_init_14 : decode cX4_init 14 = .ok (.aload_n 0, 1) := by decide +kernel
theorem dX4_init_15 : decode cX4_init 15 = .ok (.aload_n 3, 1) := by decide +kernel
theorem dX4_init_16 : decode cX4_init 16 = .ok (.putfield 16, 3) := by decide +kernel
theorem dX4_init_19 : decode cX4_init 19 = .ok (.aload_n 0, 1) := by decide +kernel
theorem dX4_init_20 : decode cX4_init 20 = .ok (.iload_n 2, 1) := by decide +kernel
theorem dX4_init_21 : decode cX4_init 21 = .ok (.iconst 1, 1) := by decide +kernel
theorem dX4_init_22 : decode cX4_init 22 = .ok (.invokestatic 20, 3) := by decide +kernel
theorem dX4_init_25 : decode cX4_init 25 = .ok (.newarray .int, 2) := by decide +kernel
theorem dX4_init_27 : decode cX4_init 27 = .ok (.putfield 26, 3) := by decide +kernel
theorem dX4_init_30 : decode cX4_init 30 = .ok (.return_, 1) := by decide +kernel
theorem dX4_isKey_0 : decode cX4_isKey 0 = .ok (.iconst 0, 1) := by decide +kernel
theorem dX4_isKey_1 : decode cX4_isKey 1 = .ok (.iload_n 0, 1) := by decide +kernel
theorem dX4_isKey_2 : decode cX4_isKey 2 = .ok (.if_icmp .gt 12, 3) := by decide +kernel
theorem dX4_isKey_5 : decode cX4_isKey 5 = .ok (.iload_n 0, 1) := by decide +kernel
theorem dX4_isKey_6 : decode cX4_isKey 6 = .ok (.iconst 3, 1) := by decide +kernel
theorem dX4_isKey_7 : decode cX4_isKey 7 = .ok (.if_icmp .ge 7, 3) := by decide +kernel
theorem dX4_isKey_10 : decode cX4_isKey 10 = .ok (.iconst 1, 1) := by decide +kernel
theorem dX4_isKey_11 : decode cX4_isKey 11 = .ok (.goto 4, 3) := by decide +kernel
theorem dX4_isKey_14 : decode cX4_isKey 14 = .ok (.iconst 0, 1) := by decide +kernel
theorem dX4_isKey_15 : decode cX4_isKey 15 = .ok (.ireturn, 1) := by decide +kernel
theorem dX4_gives_0 : decode cX4_gives 0 = .ok (.iconst 0, 1) := by decide +kernel
theorem dX4_gives_1 : decode cX4_gives 1 = .ok (.istore 4, 2) := by decide +kernel
theorem dX4_gives_3 : decode cX4_gives 3 = .ok (.iconst 0, 1) := by decide +kernel
theorem dX4_gives_4 : decode cX4_gives 4 = .ok (.istore 5, 2) := by decide +kernel
theorem dX4_gives_6 : decode cX4_gives 6 = .ok (.iload 5, 2) := by decide +kernel
theorem dX4_gives_8 : decode cX4_gives 8 = .ok (.aload_n 0, 1) := by decide +kernel
theorem dX4_gives_9 : decode cX4_gives 9 = .ok (.getfield 16, 3) := by decide +kernel
theorem dX4_gives_12 : decode cX4_gives 12 = .ok (.arraylength, 1) := by decide +kernel
theorem dX4_gives_13 : decode cX4_gives 13 = .ok (.if_icmp .ge 161, 3) := by decide +kernel
theorem dX4_gives_16 : decode cX4_gives 16 = .ok (.aload_n 0, 1) := by decide +kernel
theorem dX4_gives_17 : decode cX4_gives 17 = .ok (.getfield 16, 3) := by decide +kernel
theorem dX4_gives_20 : decode cX4_gives 20 = .ok (.iload 5, 2) := by decide +kernel
theorem dX4_gives_22 : decode cX4_gives 22 = .ok (.iaload, 1) := by decide +kernel
theorem dX4_gives_23 : decode cX4_gives 23 = .ok (.istore 6, 2) := by decide +kernel
theorem dX4_gives_25 : decode cX4_gives 25 = .ok (.iload 6, 2) := by decide +kernel
theorem dX4_gives_27 : decode cX4_gives 27 = .ok (.bipush (-3), 2) := by decide +kernel
theorem dX4_gives_29 : decode cX4_gives 29 = .ok (.if_icmp .lt 58, 3) := by decide +kernel
theorem dX4_gives_32 : decode cX4_gives 32 = .ok (.iload 4, 2) := by decide +kernel
theorem dX4_gives_34 : decode cX4_gives 34 = .ok (.aload_n 0, 1) := by decide +kernel
theorem dX4_gives_35 : decode cX4_gives 35 = .ok (.getfield 26, 3) := by decide +kernel
theorem dX4_gives_38 : decode cX4_gives 38 = .ok (.arraylength, 1) := by decide +kernel
theorem dX4_gives_39 : decode cX4_gives 39 = .ok (.if_icmp .ge 129, 3) := by decide +kernel
theorem dX4_gives_42 : decode cX4_gives 42 = .ok (.aload_n 0, 1) := by decide +kernel
theorem dX4_gives_43 : decode cX4_gives 43 = .ok (.getfield 26, 3) := by decide +kernel
theorem dX4_gives_46 : decode cX4_gives 46 = .ok (.iload 4, 2) := by decide +kernel
theorem dX4_gives_48 : decode cX4_gives 48 = .ok (.iload 6, 2) := by decide +kernel
theorem dX4_gives_50 : decode cX4_gives 50 = .ok (.ifCond .lt 8, 3) := by decide +kernel
theorem dX4_gives_53 : decode cX4_gives 53 = .ok (.iload 6, 2) := by decide +kernel
theorem dX4_gives_55 : decode cX4_gives 55 = .ok (.goto 25, 3) := by decide +kernel
theorem dX4_gives_58 : decode cX4_gives 58 = .ok (.iload 6, 2) := by decide +kernel
theorem dX4_gives_60 : decode cX4_gives 60 = .ok (.iconst (-1), 1) := by decide +kernel
theorem dX4_gives_61 : decode cX4_gives 61 = .ok (.if_icmp .ne 7, 3) := by decide +kernel
theorem dX4_gives_64 : decode cX4_gives 64 = .ok (.iload_n 1, 1) := by decide +kernel
theorem dX4_gives_65 : decode cX4_gives 65 = .ok (.goto 15, 3) := by decide +kernel
theorem dX4_gives_68 : decode cX4_gives 68 = .ok (.iload 6, 2) := by decide +kernel
theorem dX4_gives_70 : decode cX4_gives 70 = .ok (.bipush (-3), 2) := by decide +kernel
theorem dX4_gives_72 : decode cX4_gives 72 = .ok (.if_icmp .ne 7, 3) := by decide +kernel
theorem dX4_gives_75 : decode cX4_gives 75 = .ok (.iload_n 3, 1) := by decide +kernel
theorem dX4_gives_76 : decode cX4_gives 76 = .ok (.goto 4, 3) := by decide +kernel
theorem dX4_gives_79 : decode cX4_gives 79 = .ok (.iload_n 2, 1) := by decide +kernel
theorem dX4_gives_80 : decode cX4_gives 80 = .ok (.iastore, 1) := by decide +kernel
theorem dX4_gives_81 : decode cX4_gives 81 = .ok (.iinc 4 1, 3) := by decide +kernel
theorem dX4_gives_84 : decode cX4_gives 84 = .ok (.goto 84, 3) := by decide +kernel
theorem dX4_gives_87 : decode cX4_gives 87 = .ok (.iload 6, 2) := by decide +kernel
theorem dX4_gives_89 : decode cX4_gives 89 = .ok (.bipush (-4), 2) := by decide +kernel
theorem dX4_gives_91 : decode cX4_gives 91 = .ok (.if_icmp .ne 38, 3) := by decide +kernel
theorem dX4_gives_94 : decode cX4_gives 94 = .ok (.iload 4, 2) := by decide +kernel
theorem dX4_gives_96 : decode cX4_gives 96 = .ok (.iconst 1, 1) := by decide +kernel
theorem dX4_gives_97 : decode cX4_gives 97 = .ok (.if_icmp .lt 71, 3) := by decide +kernel
theorem dX4_gives_100 : decode cX4_gives 100 = .ok (.aload_n 0, 1) := by decide +kernel
theorem dX4_gives_101 : decode cX4_gives 101 = .ok (.getfield 26, 3) := by decide +kernel
theorem dX4_gives_104 : decode cX4_gives 104 = .ok (.iload 4, 2) := by decide +kernel
theorem dX4_gives_106 : decode cX4_gives 106 = .ok (.iconst 1, 1) := by decide +kernel
theorem dX4_gives_107 : decode cX4_gives 107 = .ok (.isub, 1) := by decide +kernel
theorem dX4_gives_108 : decode cX4_gives 108 = .ok (.aload_n 0, 1) := by decide +kernel
theorem dX4_gives_109 : decode cX4_gives 109 = .ok (.getfield 26, 3) := by decide +kernel
theorem dX4_gives_112 : decode cX4_gives 112 = .ok (.iload 4, 2) := by decide +kernel
theorem dX4_gives_114 : decode cX4_gives 114 = .ok (.iconst 1, 1) := by decide +kernel
theorem dX4_gives_115 : decode cX4_gives 115 = .ok (.isub, 1) := by decide +kernel
theorem dX4_gives_116 : decode cX4_gives 116 = .ok (.iaload, 1) := by decide +kernel
theorem dX4_gives_117 : decode cX4_gives 117 = .ok (.ifCond .ne 7, 3) := by decide +kernel
theorem dX4_gives_120 : decode cX4_gives 120 = .ok (.iconst 1, 1) := by decide +kernel
theorem dX4_gives_121 : decode cX4_gives 121 = .ok (.goto 4, 3) := by decide +kernel
theorem dX4_gives_124 : decode cX4_gives 124 = .ok (.iconst 0, 1) := by decide +kernel
theorem dX4_gives_125 : decode cX4_gives 125 = .ok (.iastore, 1) := by decide +kernel
theorem dX4_gives_126 : decode cX4_gives 126 = .ok (.goto 42, 3) := by decide +kernel
theorem dX4_gives_129 : decode cX4_gives 129 = .ok (.iload 4, 2) := by decide +kernel
theorem dX4_gives_131 : decode cX4_gives 131 = .ok (.iconst 2, 1) := by decide +kernel
theorem dX4_gives_132 : decode cX4_gives 132 = .ok (.if_icmp .lt 36, 3) := by decide +kernel
theorem dX4_gives_135 : decode cX4_gives 135 = .ok (.iinc 4 (-1), 3) := by decide +kernel
theorem dX4_gives_138 : decode cX4_gives 138 = .ok (.aload_n 0, 1) := by decide +kernel
theorem dX4_gives_139 : decode cX4_gives 139 = .ok (.getfield 26, 3) := by decide +kernel
theorem dX4_gives_142 : decode cX4_gives 142 = .ok (.iload 4, 2) := by decide +kernel
theorem dX4_gives_144 : decode cX4_gives 144 = .ok (.iconst 1, 1) := by decide +kernel
theorem dX4_gives_145 : decode cX4_gives 145 = .ok (.isub, 1) := by decide +kernel
theorem dX4_gives_146 : decode cX4_gives 146 = .ok (.iload 6, 2) := by decide +kernel
theorem dX4_gives_148 : decode cX4_gives 148 = .ok (.aload_n 0, 1) := by decide +kernel
theorem dX4_gives_149 : decode cX4_gives 149 = .ok (.getfield 26, 3) := by decide +kernel
theorem dX4_gives_152 : decode cX4_gives 152 = .ok (.iload 4, 2) := by decide +kernel
theorem dX4_gives_154 : decode cX4_gives 154 = .ok (.iconst 1, 1) := by decide +kernel
theorem dX4_gives_155 : decode cX4_gives 155 = .ok (.isub, 1) := by decide +kernel
theorem dX4_gives_156 : decode cX4_gives 156 = .ok (.iaload, 1) := by decide +kernel
theorem dX4_gives_157 : decode cX4_gives 157 = .ok (.aload_n 0, 1) := by decide +kernel
theorem dX4_gives_158 : decode cX4_gives 158 = .ok (.getfield 26, 3) := by decide +kernel
theorem dX4_gives_161 : decode cX4_gives 161 = .ok (.iload 4, 2) := by decide +kernel
theorem dX4_gives_163 : decode cX4_gives 163 = .ok (.iaload, 1) := by decide +kernel
theorem dX4_gives_164 : decode cX4_gives 164 = .ok (.invokestatic 29, 3) := by decide +kernel
theorem dX4_gives_167 : decode cX4_gives 167 = .ok (.iastore, 1) := by decide +kernel
theorem dX4_gives_168 : decode cX4_gives 168 = .ok (.iinc 5 1, 3) := by decide +kernel
theorem dX4_gives_171 : decode cX4_gives 171 = .ok (.goto (-165), 3) := by decide +kernel
theorem dX4_gives_174 : decode cX4_gives 174 = .ok (.aload_n 0, 1) := by decide +kernel
theorem dX4_gives_175 : decode cX4_gives 175 = .ok (.getfield 26, 3) := by decide +kernel
theorem dX4_gives_178 : decode cX4_gives 178 = .ok (.iconst 0, 1) := by decide +kernel
theorem dX4_gives_179 : decode cX4_gives 179 = .ok (.iaload, 1) := by decide +kernel
theorem dX4_gives_180 : decode cX4_gives 180 = .ok (.ireturn, 1) := by decide +kernel
theorem dX4_workedOut_0 : decode cX4_workedOut 0 = .ok (.iload_n 0, 1) := by decide +kernel
theorem dX4_workedOut_1 : decode cX4_workedOut 1 = .ok (.tableswitch 120 (-12) (-5) #[116, 112, 108, 97, 86, 75, 61, 47], 47) := by decide +kernel
theorem dX4_workedOut_48 : decode cX4_workedOut 48 = .ok (.iload_n 1, 1) := by decide +kernel
theorem dX4_workedOut_49 : decode cX4_workedOut 49 = .ok (.ifCond .ne 7, 3) := by decide +kernel
theorem dX4_workedOut_52 : decode cX4_workedOut 52 = .ok (.iload_n 2, 1) := by decide +kernel
theorem dX4_workedOut_53 : decode cX4_workedOut 53 = .ok (.ifCond .eq 7, 3) := by decide +kernel
theorem dX4_workedOut_56 : decode cX4_workedOut 56 = .ok (.iconst 1, 1) := by decide +kernel
theorem dX4_workedOut_57 : decode cX4_workedOut 57 = .ok (.goto 4, 3) := by decide +kernel
theorem dX4_workedOut_60 : decode cX4_workedOut 60 = .ok (.iconst 0, 1) := by decide +kernel
theorem dX4_workedOut_61 : decode cX4_workedOut 61 = .ok (.ireturn, 1) := by decide +kernel
theorem dX4_workedOut_62 : decode cX4_workedOut 62 = .ok (.iload_n 1, 1) := by decide +kernel
theorem dX4_workedOut_63 : decode cX4_workedOut 63 = .ok (.ifCond .eq 11, 3) := by decide +kernel
theorem dX4_workedOut_66 : decode cX4_workedOut 66 = .ok (.iload_n 2, 1) := by decide +kernel
theorem dX4_workedOut_67 : decode cX4_workedOut 67 = .ok (.ifCond .eq 7, 3) := by decide +kernel
theorem dX4_workedOut_70 : decode cX4_workedOut 70 = .ok (.iconst 1, 1) := by decide +kernel
theorem dX4_workedOut_71 : decode cX4_workedOut 71 = .ok (.goto 4, 3) := by decide +kernel
theorem dX4_workedOut_74 : decode cX4_workedOut 74 = .ok (.iconst 0, 1) := by decide +kernel
theorem dX4_workedOut_75 : decode cX4_workedOut 75 = .ok (.ireturn, 1) := by decide +kernel
theorem dX4_workedOut_76 : decode cX4_workedOut 76 = .ok (.iload_n 1, 1) := by decide +kernel
theorem dX4_workedOut_77 : decode cX4_workedOut 77 = .ok (.iload_n 2, 1) := by decide +kernel
theorem dX4_workedOut_78 : decode cX4_workedOut 78 = .ok (.if_icmp .ge 7, 3) := by decide +kernel
theorem dX4_workedOut_81 : decode cX4_workedOut 81 = .ok (.iconst 1, 1) := by decide +kernel
theorem dX4_workedOut_82 : decode cX4_workedOut 82 = .ok (.goto 4, 3) := by decide +kernel
theorem dX4_workedOut_85 : decode cX4_workedOut 85 = .ok (.iconst 0, 1) := by decide +kernel
theorem dX4_workedOut_86 : decode cX4_workedOut 86 = .ok (.ireturn, 1) := by decide +kernel
theorem dX4_workedOut_87 : decode cX4_workedOut 87 = .ok (.iload_n 1, 1) := by decide +kernel
theorem dX4_workedOut_88 : decode cX4_workedOut 88 = .ok (.iload_n 2, 1) := by decide +kernel
theorem dX4_workedOut_89 : decode cX4_workedOut 89 = .ok (.if_icmp .ne 7, 3) := by decide +kernel
theorem dX4_workedOut_92 : decode cX4_workedOut 92 = .ok (.iconst 1, 1) := by decide +kernel
theorem dX4_workedOut_93 : decode cX4_workedOut 93 = .ok (.goto 4, 3) := by decide +kernel
theorem dX4_workedOut_96 : decode cX4_workedOut 96 = .ok (.iconst 0, 1) := by decide +kernel
theorem dX4_workedOut_97 : decode cX4_workedOut 97 = .ok (.ireturn, 1) := by decide +kernel
theorem dX4_workedOut_98 : decode cX4_workedOut 98 = .ok (.iload_n 1, 1) := by decide +kernel
theorem dX4_workedOut_99 : decode cX4_workedOut 99 = .ok (.iload_n 2, 1) := by decide +kernel
theorem dX4_workedOut_100 : decode cX4_workedOut 100 = .ok (.if_icmp .le 7, 3) := by decide +kernel
theorem dX4_workedOut_103 : decode cX4_workedOut 103 = .ok (.iconst 1, 1) := by decide +kernel
theorem dX4_workedOut_104 : decode cX4_workedOut 104 = .ok (.goto 4, 3) := by decide +kernel
theorem dX4_workedOut_107 : decode cX4_workedOut 107 = .ok (.iconst 0, 1) := by decide +kernel
theorem dX4_workedOut_108 : decode cX4_workedOut 108 = .ok (.ireturn, 1) := by decide +kernel
theorem dX4_workedOut_109 : decode cX4_workedOut 109 = .ok (.iload_n 1, 1) := by decide +kernel
theorem dX4_workedOut_110 : decode cX4_workedOut 110 = .ok (.iload_n 2, 1) := by decide +kernel
theorem dX4_workedOut_111 : decode cX4_workedOut 111 = .ok (.iadd, 1) := by decide +kernel
theorem dX4_workedOut_112 : decode cX4_workedOut 112 = .ok (.ireturn, 1) := by decide +kernel
theorem dX4_workedOut_113 : decode cX4_workedOut 113 = .ok (.iload_n 1, 1) := by decide +kernel
theorem dX4_workedOut_114 : decode cX4_workedOut 114 = .ok (.iload_n 2, 1) := by decide +kernel
theorem dX4_workedOut_115 : decode cX4_workedOut 115 = .ok (.isub, 1) := by decide +kernel
theorem dX4_workedOut_116 : decode cX4_workedOut 116 = .ok (.ireturn, 1) := by decide +kernel
theorem dX4_workedOut_117 : decode cX4_workedOut 117 = .ok (.iload_n 1, 1) := by decide +kernel
theorem dX4_workedOut_118 : decode cX4_workedOut 118 = .ok (.iload_n 2, 1) := by decide +kernel
theorem dX4_workedOut_119 : decode cX4_workedOut 119 = .ok (.imul, 1) := by decide +kernel
theorem dX4_workedOut_120 : decode cX4_workedOut 120 = .ok (.ireturn, 1) := by decide +kernel
theorem dX4_workedOut_121 : decode cX4_workedOut 121 = .ok (.iload_n 2, 1) := by decide +kernel
theorem dX4_workedOut_122 : decode cX4_workedOut 122 = .ok (.ifCond .ne 7, 3) := by decide +kernel
theorem dX4_workedOut_125 : decode cX4_workedOut 125 = .ok (.iconst 0, 1) := by decide +kernel
theorem dX4_workedOut_126 : decode cX4_workedOut 126 = .ok (.goto 6, 3) := by decide +kernel
theorem dX4_workedOut_129 : decode cX4_workedOut 129 = .ok (.iload_n 1, 1) := by decide +kernel
theorem dX4_workedOut_130 : decode cX4_workedOut 130 = .ok (.iload_n 2, 1) := by decide +kernel
theorem dX4_workedOut_131 : decode cX4_workedOut 131 = .ok (.idiv, 1) := by decide +kernel
theorem dX4_workedOut_132 : decode cX4_workedOut 132 = .ok (.ireturn, 1) := by decide +kernel
theorem dX5_init_0 : decode cX5_init 0 = .ok (.aload_n 0, 1) := by decide +kernel
theorem dX5_init_1 : decode cX5_init 1 = .ok (.invokespecial 3, 3) := by decide +kernel
theorem dX5_init_4 : decode cX5_init 4 = .ok (.aload_n 0, 1) := by decide +kernel
theorem dX5_init_5 : decode cX5_init 5 = .ok (.bipush 96, 2) := by decide +kernel
theorem dX5_init_7 : decode cX5_init 7 = .ok (.newarray .int, 2) := by decide +kernel
theorem dX5_init_9 : decode cX5_init 9 = .ok (.putfield 9, 3) := by decide +kernel
theorem dX5_init_12 : decode cX5_init 12 = .ok (.aload_n 0, 1) := by decide +kernel
theorem dX5_init_13 : decode cX5_init 13 = .ok (.bipush 96, 2) := by decide +kernel
theorem dX5_init_15 : decode cX5_init 15 = .ok (.newarray .int, 2) := by decide +kernel
theorem dX5_init_17 : decode cX5_init 17 = .ok (.putfield 15, 3) := by decide +kernel
theorem dX5_init_20 : decode cX5_init 20 = .ok (.return_, 1) := by decide +kernel
theorem dX5_addBytes_0 : decode cX5_addBytes 0 = .ok (.bipush 24, 2) := by decide +kernel
theorem dX5_addBytes_2 : decode cX5_addBytes 2 = .ok (.istore_n 2, 1) := by decide +kernel
theorem dX5_addBytes_3 : decode cX5_addBytes 3 = .ok (.iload_n 2, 1) := by decide +kernel
theorem dX5_addBytes_4 : decode cX5_addBytes 4 = .ok (.ifCond .lt 44, 3) := by decide +kernel
theorem dX5_addBytes_7 : decode cX5_addBytes 7 = .ok (.aload_n 0, 1) := by decide +kernel
theorem dX5_addBytes_8 : decode cX5_addBytes 8 = .ok (.getfield 18, 3) := by decide +kernel
theorem dX5_addBytes_11 : decode cX5_addBytes 11 = .ok (.bipush 96, 2) := by decide +kernel
theorem dX5_addBytes_13 : decode cX5_addBytes 13 = .ok (.if_icmp .ge 35, 3) := by decide +kernel
theorem dX5_addBytes_16 : decode cX5_addBytes 16 = .ok (.aload_n 0, 1) := by decide +kernel
theorem dX5_addBytes_17 : decode cX5_addBytes 17 = .ok (.getfield 9, 3) := by decide +kernel
theorem dX5_addBytes_20 : decode cX5_addBytes 20 = .ok (.aload_n 0, 1) := by decide +kernel
theorem dX5_addBytes_21 : decode cX5_addBytes 21 = .ok (.getfield 18, 3) := by decide +kernel
theorem dX5_addBytes_24 : decode cX5_addBytes 24 = .ok (.iload_n 1, 1) := by decide +kernel
theorem dX5_addBytes_25 : decode cX5_addBytes 25 = .ok (.iload_n 2, 1) := by decide +kernel
theorem dX5_addBytes_26 : decode cX5_addBytes 26 = .ok (.iushr, 1) := by decide +kernel
theorem dX5_addBytes_27 : decode cX5_addBytes 27 = .ok (.sipush 255, 3) := by decide +kernel
theorem dX5_addBytes_30 : decode cX5_addBytes 30 = .ok (.iand, 1) := by decide +kernel
theorem dX5_addBytes_31 : decode cX5_addBytes 31 = .ok (.iastore, 1) := by decide +kernel
theorem dX5_addBytes_32 : decode cX5_addBytes 32 = .ok (.aload_n 0, 1) := by decide +kernel
theorem dX5_addBytes_33 : decode cX5_addBytes 33 = .ok (.dup, 1) := by decide +kernel
theorem dX5_addBytes_34 : decode cX5_addBytes 34 = .ok (.getfield 18, 3) := by decide +kernel
theorem dX5_addBytes_37 : decode cX5_addBytes 37 = .ok (.iconst 1, 1) := by decide +kernel
theorem dX5_addBytes_38 : decode cX5_addBytes 38 = .ok (.iadd, 1) := by decide +kernel
theorem dX5_addBytes_39 : decode cX5_addBytes 39 = .ok (.putfield 18, 3) := by decide +kernel
theorem dX5_addBytes_42 : decode cX5_addBytes 42 = .ok (.iinc 2 (-8), 3) := by decide +kernel
theorem dX5_addBytes_45 : decode cX5_addBytes 45 = .ok (.goto (-42), 3) := by decide +kernel
theorem dX5_addBytes_48 : decode cX5_addBytes 48 = .ok (.return_, 1) := by decide +kernel
theorem dX5_readText_0 : decode cX5_readText 0 = .ok (.aload_n 0, 1) := by decide +kernel
theorem dX5_readText_1 : decode cX5_readText 1 = .ok (.iconst 3, 1) := by decide +kernel
theorem dX5_readText_2 : decode cX5_readText 2 = .ok (.putfield 22, 3) := by decide +kernel
theorem dX5_readText_5 : decode cX5_readText 5 = .ok (.aload_n 0, 1) := by decide +kernel
theorem dX5_readText_6 : decode cX5_readText 6 = .ok (.iconst 0, 1) := by decide +kernel
theorem dX5_readText_7 : decode cX5_readText 7 = .ok (.putfield 25, 3) := by decide +kernel
theorem dX5_readText_10 : decode cX5_readText 10 = .ok (.aload_n 0, 1) := by decide +kernel
theorem dX5_readText_11 : decode cX5_readText 11 = .ok (.iconst 0, 1) := by decide +kernel
theorem dX5_readText_12 : decode cX5_readText 12 = .ok (.putfield 28, 3) := by decide +kernel
theorem dX5_readText_15 : decode cX5_readText 15 = .ok (.aload_n 0, 1) := by decide +kernel
theorem dX5_readText_16 : decode cX5_readText 16 = .ok (.iconst 0, 1) := by decide +kernel
theorem dX5_readText_17 : decode cX5_readText 17 = .ok (.putfield 31, 3) := by decide +kernel
theorem dX5_readText_20 : decode cX5_readText 20 = .ok (.aload_n 0, 1) := by decide +kernel
theorem dX5_readText_21 : decode cX5_readText 21 = .ok (.invokevirtual 34, 3) := by decide +kernel
theorem dX5_readText_24 : decode cX5_readText 24 = .ok (.aload_n 0, 1) := by decide +kernel
theorem dX5_readText_25 : decode cX5_readText 25 = .ok (.aload_n 0, 1) := by decide +kernel
theorem dX5_readText_26 : decode cX5_readText 26 = .ok (.invokevirtual 37, 3) := by decide +kernel
theorem dX5_readText_29 : decode cX5_readText 29 = .ok (.putfield 41, 3) := by decide +kernel
theorem dX5_readText_32 : decode cX5_readText 32 = .ok (.aload_n 0, 1) := by decide +kernel
theorem dX5_readText_33 : decode cX5_readText 33 = .ok (.getfield 41, 3) := by decide +kernel
theorem dX5_readText_36 : decode cX5_readText 36 = .ok (.ifCond .ge 5, 3) := by decide +kernel
theorem dX5_readText_39 : decode cX5_readText 39 = .ok (.iconst 0, 1) := by decide +kernel
theorem dX5_readText_40 : decode cX5_readText 40 = .ok (.ireturn, 1) := by decide +kernel
theorem dX5_readText_41 : decode cX5_readText 41 = .ok (.aload_n 0, 1) := by decide +kernel
theorem dX5_readText_42 : decode cX5_readText 42 = .ok (.invokevirtual 34, 3) := by decide +kernel
theorem dX5_readText_45 : decode cX5_readText 45 = .ok (.aload_n 0, 1) := by decide +kernel
theorem dX5_readText_46 : decode cX5_readText 46 = .ok (.iconst 0, 1) := by decide +kernel
theorem dX5_readText_47 : decode cX5_readText 47 = .ok (.iconst 0, 1) := by decide +kernel
theorem dX5_readText_48 : decode cX5_readText 48 = .ok (.iconst 0, 1) := by decide +kernel
theorem dX5_readText_49 : decode cX5_readText 49 = .ok (.invokevirtual 44, 3) := by decide +kernel
theorem dX5_readText_52 : decode cX5_readText 52 = .ok (.ifCond .eq 14, 3) := by decide +kernel
theorem dX5_readText_55 : decode cX5_readText 55 = .ok (.aload_n 0, 1) := by decide +kernel
theorem dX5_readText_56 : decode cX5_readText 56 = .ok (.getfield 22, 3) := by decide +kernel
theorem dX5_readText_59 : decode cX5_readText 59 = .ok (.ifCond .ne 7, 3) := by decide +kernel
theorem dX5_readText_62 : decode cX5_readText 62 = .ok (.iconst 1, 1) := by decide +kernel
theorem dX5_readText_63 : decode cX5_readText 63 = .ok (.goto 4, 3) := by decide +kernel
theorem dX5_readText_66 : decode cX5_readText 66 = .ok (.iconst 0, 1) := by decide +kernel
theorem dX5_readText_67 : decode cX5_readText 67 = .ok (.ireturn, 1) := by decide +kernel
theorem dX5_readOne_0 : decode cX5_readOne 0 = .ok (.aload_n 0, 1) := by decide +kernel
theorem dX5_readOne_1 : decode cX5_readOne 1 = .ok (.getfield 31, 3) := by decide +kernel
theorem dX5_readOne_4 : decode cX5_readOne 4 = .ok (.newarray .int, 2) := by decide +kernel
theorem dX5_readOne_6 : decode cX5_readOne 6 = .ok (.astore_n 1, 1) := by decide +kernel
theorem dX5_readOne_7 : decode cX5_readOne 7 = .ok (.aload_n 0, 1) := by decide +kernel
theorem dX5_readOne_8 : decode cX5_readOne 8 = .ok (.getfield 15, 3) := by decide +kernel
theorem dX5_readOne_11 : decode cX5_readOne 11 = .ok (.iconst 0, 1) := by decide +kernel
theorem dX5_readOne_12 : decode cX5_readOne 12 = .ok (.aload_n 1, 1) := by decide +kernel
theorem dX5_readOne_13 : decode cX5_readOne 13 = .ok (.iconst 0, 1) := by decide +kernel
theorem dX5_readOne_14 : decode cX5_readOne 14 = .ok (.aload_n 0, 1) := by decide +kernel
theorem dX5_readOne_15 : decode cX5_readOne 15 = .ok (.getfield 31, 3) := by decide +kernel
theorem dX5_readOne_18 : decode cX5_readOne 18 = .ok (.invokestatic 48, 3) := by decide +kernel
theorem dX5_readOne_21 : decode cX5_readOne 21 = .ok (.new 54, 3) := by decide +kernel
theorem dX5_readOne_24 : decode cX5_readOne 24 = .ok (.dup, 1) := by decide +kernel
theorem dX5_readOne_25 : decode cX5_readOne 25 = .ok (.aload_n 0, 1) := by decide +kernel
theorem dX5_readOne_26 : decode cX5_readOne 26 = .ok (.getfield 41, 3) := by decide +kernel
theorem dX5_readOne_29 : decode cX5_readOne 29 = .ok (.aload_n 0, 1) := by decide +kernel
theorem dX5_readOne_30 : decode cX5_readOne 30 = .ok (.getfield 28, 3) := by decide +kernel
theorem dX5_readOne_33 : decode cX5_readOne 33 = .ok (.aload_n 1, 1) := by decide +kernel
theorem dX5_readOne_34 : decode cX5_readOne 34 = .ok (.invokespecial 56, 3) := by decide +kernel
theorem dX5_readOne_37 : decode cX5_readOne 37 = .ok (.areturn, 1) := by decide +kernel
theorem dX5_step_0 : decode cX5_step 0 = .ok (.aload_n 0, 1) := by decide +kernel
theorem dX5_step_1 : decode cX5_step 1 = .ok (.getfield 22, 3) := by decide +kernel
theorem dX5_step_4 : decode cX5_step 4 = .ok (.iconst 1, 1) := by decide +kernel
theorem dX5_step_5 : decode cX5_step 5 = .ok (.if_icmp .eq 11, 3) := by decide +kernel
theorem dX5_step_8 : decode cX5_step 8 = .ok (.aload_n 0, 1) := by decide +kernel
theorem dX5_step_9 : decode cX5_step 9 = .ok (.getfield 22, 3) := by decide +kernel
theorem dX5_step_12 : decode cX5_step 12 = .ok (.iconst 2, 1) := by decide +kernel
theorem dX5_step_13 : decode cX5_step 13 = .ok (.if_icmp .ne 7, 3) := by decide +kernel
theorem dX5_step_16 : decode cX5_step 16 = .ok (.iconst 1, 1) := by decide +kernel
theorem dX5_step_17 : decode cX5_step 17 = .ok (.goto 4, 3) := by decide +kernel
theorem dX5_step_20 : decode cX5_step 20 = .ok (.iconst 0, 1) := by decide +kernel
theorem dX5_step_21 : decode cX5_step 21 = .ok (.istore_n 1, 1) := by decide +kernel
theorem dX5_step_22 : decode cX5_step 22 = .ok (.aload_n 0, 1) := by decide +kernel
theorem dX5_step_23 : decode cX5_step 23 = .ok (.getfield 25, 3) := by decide +kernel
theorem dX5_step_26 : decode cX5_step 26 = .ok (.istore_n 2, 1) := by decide +kernel
theorem dX5_step_27 : decode cX5_step 27 = .ok (.aload_n 0, 1) := by decide +kernel
theorem dX5_step_28 : decode cX5_step 28 = .ok (.aload_n 0, 1) := by decide +kernel
theorem dX5_step_29 : decode cX5_step 29 = .ok (.getfield 25, 3) := by decide +kernel
theorem dX5_step_32 : decode cX5_step 32 = .ok (.putfield 59, 3) := by decide +kernel
theorem dX5_step_35 : decode cX5_step 35 = .ok (.aload_n 0, 1) := by decide +kernel
theorem dX5_step_36 : decode cX5_step 36 = .ok (.getfield 59, 3) := by decide +kernel
theorem dX5_step_39 : decode cX5_step 39 = .ok (.aload_n 0, 1) := by decide +kernel
theorem dX5_step_40 : decode cX5_step 40 = .ok (.getfield 18, 3) := by decide +kernel
theorem dX5_step_43 : decode cX5_step 43 = .ok (.if_icmp .ge 30, 3) := by decide +kernel
theorem dX5_step_46 : decode cX5_step 46 = .ok (.aload_n 0, 1) := by decide +kernel
theorem dX5_step_47 : decode cX5_step 47 = .ok (.getfield 9, 3) := by decide +kernel
theorem dX5_step_50 : decode cX5_step 50 = .ok (.aload_n 0, 1) := by decide +kernel
theorem dX5_step_51 : decode cX5_step 51 = .ok (.getfield 59, 3) := by decide +kernel
theorem dX5_step_54 : decode cX5_step 54 = .ok (.iaload, 1) := by decide +kernel
theorem dX5_step_55 : decode cX5_step 55 = .ok (.bipush 32, 2) := by decide +kernel
theorem dX5_step_57 : decode cX5_step 57 = .ok (.if_icmp .ne 16, 3) := by decide +kernel
theorem dX5_step_60 : decode cX5_step 60 = .ok (.aload_n 0, 1) := by decide +kernel
theorem dX5_step_61 : decode cX5_step 61 = .ok (.dup, 1) := by decide +kernel
theorem dX5_step_62 : decode cX5_step 62 = .ok (.getfield 59, 3) := by decide +kernel
theorem dX5_step_65 : decode cX5_step 65 = .ok (.iconst 1, 1) := by decide +kernel
theorem dX5_step_66 : decode cX5_step 66 = .ok (.iadd, 1) := by decide +kernel
theorem dX5_step_67 : decode cX5_step 67 = .ok (.putfield 59, 3) := by decide +kernel
theorem dX5_step_70 : decode cX5_step 70 = .ok (.goto (-35), 3) := by decide +kernel
theorem dX5_step_73 : decode cX5_step 73 = .ok (.aload_n 0, 1) := by decide +kernel
theorem dX5_step_74 : decode cX5_step 74 = .ok (.aload_n 0, 1) := by decide +kernel
theorem dX5_step_75 : decode cX5_step 75 = .ok (.aload_n 0, 1) := by decide +kernel
theorem dX5_step_76 : decode cX5_step 76 = .ok (.getfield 59, 3) := by decide +kernel
theorem dX5_step_79 : decode cX5_step 79 = .ok (.invokevirtual 62, 3) := by decide +kernel
theorem dX5_step_82 : decode cX5_step 82 = .ok (.putfield 22, 3) := by decide +kernel
theorem dX5_step_85 : decode cX5_step 85 = .ok (.aload_n 0, 1) := by decide +kernel
theorem dX5_step_86 : decode cX5_step 86 = .ok (.aload_n 0, 1) := by decide +kernel
theorem dX5_step_87 : decode cX5_step 87 = .ok (.getfield 59, 3) := by decide +kernel
theorem dX5_step_90 : decode cX5_step 90 = .ok (.putfield 25, 3) := by decide +kernel
theorem dX5_step_93 : decode cX5_step 93 = .ok (.aload_n 0, 1) := by decide +kernel
theorem dX5_step_94 : decode cX5_step 94 = .ok (.getfield 22, 3) := by decide +kernel
theorem dX5_step_97 : decode cX5_step 97 = .ok (.iconst 3, 1) := by decide +kernel
theorem dX5_step_98 : decode cX5_step 98 = .ok (.if_icmp .ne 16, 3) := by decide +kernel
theorem dX5_step_101 : decode cX5_step 101 = .ok (.aload_n 0, 1) := by decide +kernel
theorem dX5_step_102 : decode cX5_step 102 = .ok (.dup, 1) := by decide +kernel
theorem dX5_step_103 : decode cX5_step 103 = .ok (.getfield 25, 3) := by decide +kernel
theorem dX5_step_106 : decode cX5_step 106 = .ok (.iconst 1, 1) := by decide +kernel
theorem dX5_step_107 : decode cX5_step 107 = .ok (.iadd, 1) := by decide +kernel
theorem dX5_step_108 : decode cX5_step 108 = .ok (.putfield 25, 3) := by decide +kernel
theorem dX5_step_111 : decode cX5_step 111 = .ok (.goto 97, 3) := by decide +kernel
theorem dX5_step_114 : decode cX5_step 114 = .ok (.aload_n 0, 1) := by decide +kernel
theorem dX5_step_115 : decode cX5_step 115 = .ok (.getfield 22, 3) := by decide +kernel
theorem dX5_step_118 : decode cX5_step 118 = .ok (.ifCond .eq 90, 3) := by decide +kernel
theorem dX5_step_121 : decode cX5_step 121 = .ok (.aload_n 0, 1) := by decide +kernel
theorem dX5_step_122 : decode cX5_step 122 = .ok (.getfield 25, 3) := by decide +kernel
theorem dX5_step_125 : decode cX5_step 125 = .ok (.aload_n 0, 1) := by decide +kernel
theorem dX5_step_126 : decode cX5_step 126 = .ok (.getfield 18, 3) := by decide +kernel
theorem dX5_step_129 : decode cX5_step 129 = .ok (.if_icmp .ge 31, 3) := by decide +kernel
theorem dX5_step_132 : decode cX5_step 132 = .ok (.aload_n 0, 1) := by decide +kernel
theorem dX5_step_133 : decode cX5_step 133 = .ok (.aload_n 0, 1) := by decide +kernel
theorem dX5_step_134 : decode cX5_step 134 = .ok (.getfield 25, 3) := by decide +kernel
theorem dX5_step_137 : decode cX5_step 137 = .ok (.invokevirtual 62, 3) := by decide +kernel
theorem dX5_step_140 : decode cX5_step 140 = .ok (.aload_n 0, 1) := by decide +kernel
theorem dX5_step_141 : decode cX5_step 141 = .ok (.getfield 22, 3) := by decide +kernel
theorem dX5_step_144 : decode cX5_step 144 = .ok (.if_icmp .ne 16, 3) := by decide +kernel
theorem dX5_step_147 : decode cX5_step 147 = .ok (.aload_n 0, 1) := by decide +kernel
theorem dX5_step_148 : decode cX5_step 148 = .ok (.dup, 1) := by decide +kernel
theorem dX5_step_149 : decode cX5_step 149 = .ok (.getfield 25, 3) := by decide +kernel
theorem dX5_step_152 : decode cX5_step 152 = .ok (.iconst 1, 1) := by decide +kernel
theorem dX5_step_153 : decode cX5_step 153 = .ok (.iadd, 1) := by decide +kernel
theorem dX5_step_154 : decode cX5_step 154 = .ok (.putfield 25, 3) := by decide +kernel
theorem dX5_step_157 : decode cX5_step 157 = .ok (.goto (-36), 3) := by decide +kernel
theorem dX5_step_160 : decode cX5_step 160 = .ok (.aload_n 0, 1) := by decide +kernel
theorem dX5_step_161 : decode cX5_step 161 = .ok (.getfield 22, 3) := by decide +kernel
theorem dX5_step_164 : decode cX5_step 164 = .ok (.iconst 2, 1) := by decide +kernel
theorem dX5_step_165 : decode cX5_step 165 = .ok (.if_icmp .ne 20, 3) := by decide +kernel
theorem dX5_step_168 : decode cX5_step 168 = .ok (.aload_n 0, 1) := by decide +kernel
theorem dX5_step_169 : decode cX5_step 169 = .ok (.getfield 25, 3) := by decide +kernel
theorem dX5_step_172 : decode cX5_step 172 = .ok (.aload_n 0, 1) := by decide +kernel
theorem dX5_step_173 : decode cX5_step 173 = .ok (.getfield 59, 3) := by decide +kernel
theorem dX5_step_176 : decode cX5_step 176 = .ok (.isub, 1) := by decide +kernel
theorem dX5_step_177 : decode cX5_step 177 = .ok (.iconst 4, 1) := by decide +kernel
theorem dX5_step_178 : decode cX5_step 178 = .ok (.if_icmp .le 7, 3) := by decide +kernel
theorem dX5_step_181 : decode cX5_step 181 = .ok (.iconst 1, 1) := by decide +kernel
theorem dX5_step_182 : decode cX5_step 182 = .ok (.goto 4, 3) := by decide +kernel
theorem dX5_step_185 : decode cX5_step 185 = .ok (.iconst 0, 1) := by decide +kernel
theorem dX5_step_186 : decode cX5_step 186 = .ok (.istore_n 3, 1) := by decide +kernel
theorem dX5_step_187 : decode cX5_step 187 = .ok (.iload_n 3, 1) := by decide +kernel
theorem dX5_step_188 : decode cX5_step 188 = .ok (.ifCond .ne 15, 3) := by decide +kernel
theorem dX5_step_191 : decode cX5_step 191 = .ok (.iload_n 1, 1) := by decide +kernel
theorem dX5_step_192 : decode cX5_step 192 = .ok (.ifCond .eq 16, 3) := by decide +kernel
theorem dX5_step_195 : decode cX5_step 195 = .ok (.aload_n 0, 1) := by decide +kernel
theorem dX5_step_196 : decode cX5_step 196 = .ok (.getfield 59, 3) := by decide +kernel
theorem dX5_step_199 : decode cX5_step 199 = .ok (.iload_n 2, 1) := by decide +kernel
theorem dX5_step_200 : decode cX5_step 200 = .ok (.if_icmp .ne 8, 3) := by decide +kernel
theorem dX5_step_203 : decode cX5_step 203 = .ok (.aload_n 0, 1) := by decide +kernel
theorem dX5_step_204 : decode cX5_step 204 = .ok (.iconst 4, 1) := by decide +kernel
theorem dX5_step_205 : decode cX5_step 205 = .ok (.putfield 22, 3) := by decide +kernel
theorem dX5_step_208 : decode cX5_step 208 = .ok (.return_, 1) := by decide +kernel
theorem dX5_sortAt_0 : decode cX5_sortAt 0 = .ok (.iload_n 1, 1) := by decide +kernel
theorem dX5_sortAt_1 : decode cX5_sortAt 1 = .ok (.ifCond .lt 11, 3) := by decide +kernel
theorem dX5_sortAt_4 : decode cX5_sortAt 4 = .ok (.iload_n 1, 1) := by decide +kernel
theorem dX5_sortAt_5 : decode cX5_sortAt 5 = .ok (.aload_n 0, 1) := by decide +kernel
theorem dX5_sortAt_6 : decode cX5_sortAt 6 = .ok (.getfield 18, 3) := by decide +kernel
theorem dX5_sortAt_9 : decode cX5_sortAt 9 = .ok (.if_icmp .lt 5, 3) := by decide +kernel
theorem dX5_sortAt_12 : decode cX5_sortAt 12 = .ok (.iconst 0, 1) := by decide +kernel
theorem dX5_sortAt_13 : decode cX5_sortAt 13 = .ok (.ireturn, 1) := by decide +kernel
theorem dX5_sortAt_14 : decode cX5_sortAt 14 = .ok (.aload_n 0, 1) := by decide +kernel
theorem dX5_sortAt_15 : decode cX5_sortAt 15 = .ok (.getfield 9, 3) := by decide +kernel
theorem dX5_sortAt_18 : decode cX5_sortAt 18 = .ok (.iload_n 1, 1) := by decide +kernel
theorem dX5_sortAt_19 : decode cX5_sortAt 19 = .ok (.iaload, 1) := by decide +kernel
theorem dX5_sortAt_20 : decode cX5_sortAt 20 = .ok (.istore_n 2, 1) := by decide +kernel
theorem dX5_sortAt_21 : decode cX5_sortAt 21 = .ok (.bipush 97, 2) := by decide +kernel
theorem dX5_sortAt_23 : decode cX5_sortAt 23 = .ok (.iload_n 2, 1) := by decide +kernel
theorem dX5_sortAt_24 : decode cX5_sortAt 24 = .ok (.if_icmp .gt 11, 3) := by decide +kernel
theorem dX5_sortAt_27 : decode cX5_sortAt 27 = .ok (.iload_n 2, 1) := by decide +kernel
theorem dX5_sortAt_28 : decode cX5_sortAt 28 = .ok (.bipush 122, 2) := by decide +kernel
theorem dX5_sortAt_30 : decode cX5_sortAt 30 = .ok (.if_icmp .gt 5, 3) := by decide +kernel
theorem dX5_sortAt_33 : decode cX5_sortAt 33 = .ok (.iconst 1, 1) := by decide +kernel
theorem dX5_sortAt_34 : decode cX5_sortAt 34 = .ok (.ireturn, 1) := by decide +kernel
theorem dX5_sortAt_35 : decode cX5_sortAt 35 = .ok (.bipush 48, 2) := by decide +kernel
theorem dX5_sortAt_37 : decode cX5_sortAt 37 = .ok (.iload_n 2, 1) := by decide +kernel
theorem dX5_sortAt_38 : decode cX5_sortAt 38 = .ok (.if_icmp .gt 13, 3) := by decide +kernel
theorem dX5_sortAt_41 : decode cX5_sortAt 41 = .ok (.iload_n 2, 1) := by decide +kernel
theorem dX5_sortAt_42 : decode cX5_sortAt 42 = .ok (.bipush 57, 2) := by decide +kernel
theorem dX5_sortAt_44 : decode cX5_sortAt 44 = .ok (.if_icmp .gt 7, 3) := by decide +kernel
theorem dX5_sortAt_47 : decode cX5_sortAt 47 = .ok (.iconst 2, 1) := by decide +kernel
theorem dX5_sortAt_48 : decode cX5_sortAt 48 = .ok (.goto 4, 3) := by decide +kernel
theorem dX5_sortAt_51 : decode cX5_sortAt 51 = .ok (.iconst 3, 1) := by decide +kernel
theorem dX5_sortAt_52 : decode cX5_sortAt 52 = .ok (.ireturn, 1) := by decide +kernel
theorem dX5_keyHere_0 : decode cX5_keyHere 0 = .ok (.aload_n 0, 1) := by decide +kernel
theorem dX5_keyHere_1 : decode cX5_keyHere 1 = .ok (.ldc 66, 2) := by decide +kernel
theorem dX5_keyHere_3 : decode cX5_keyHere 3 = .ok (.invokevirtual 68, 3) := by decide +kernel
theorem dX5_keyHere_6 : decode cX5_keyHere 6 = .ok (.ifCond .eq 5, 3) := by decide +kernel
theorem dX5_keyHere_9 : decode cX5_keyHere 9 = .ok (.iconst 0, 1) := by decide +kernel
theorem dX5_keyHere_10 : decode cX5_keyHere 10 = .ok (.ireturn, 1) := by decide +kernel
theorem dX5_keyHere_11 : decode cX5_keyHere 11 = .ok (.aload_n 0, 1) := by decide +kernel
theorem dX5_keyHere_12 : decode cX5_keyHere 12 = .ok (.ldc 72, 2) := by decide +kernel
theorem dX5_keyHere_14 : decode cX5_keyHere 14 = .ok (.invokevirtual 68, 3) := by decide +kernel
theorem dX5_keyHere_17 : decode cX5_keyHere 17 = .ok (.ifCond .eq 5, 3) := by decide +kernel
theorem dX5_keyHere_20 : decode cX5_keyHere 20 = .ok (.iconst 1, 1) := by decide +kernel
theorem dX5_keyHere_21 : decode cX5_keyHere 21 = .ok (.ireturn, 1) := by decide +kernel
theorem dX5_keyHere_22 : decode cX5_keyHere 22 = .ok (.aload_n 0, 1) := by decide +kernel
theorem dX5_keyHere_23 : decode cX5_keyHere 23 = .ok (.ldc 74, 2) := by decide +kernel
theorem dX5_keyHere_25 : decode cX5_keyHere 25 = .ok (.invokevirtual 68, 3) := by decide +kernel
theorem dX5_keyHere_28 : decode cX5_keyHere 28 = .ok (.ifCond .eq 7, 3) := by decide +kernel
theorem dX5_keyHere_31 : decode cX5_keyHere 31 = .ok (.iconst 2, 1) := by decide +kernel
theorem dX5_keyHere_32 : decode cX5_keyHere 32 = .ok (.goto 4, 3) := by decide +kernel
theorem dX5_keyHere_35 : decode cX5_keyHere 35 = .ok (.iconst (-1), 1) := by decide +kernel
theorem dX5_keyHere_36 : decode cX5_keyHere 36 = .ok (.ireturn, 1) := by decide +kernel
theorem dX5_isWord_0 : decode cX5_isWord 0 = .ok (.aload_n 0, 1) := by decide +kernel
theorem dX5_isWord_1 : decode cX5_isWord 1 = .ok (.getfield 22, 3) := by decide +kernel
theorem dX5_isWord_4 : decode cX5_isWord 4 = .ok (.iconst 1, 1) := by decide +kernel
theorem dX5_isWord_5 : decode cX5_isWord 5 = .ok (.if_icmp .ne 19, 3) := by decide +kernel
theorem dX5_isWord_8 : decode cX5_isWord 8 = .ok (.aload_n 0, 1) := by decide +kernel
theorem dX5_isWord_9 : decode cX5_isWord 9 = .ok (.getfield 25, 3) := by decide +kernel
theorem dX5_isWord_12 : decode cX5_isWord 12 = .ok (.aload_n 0, 1) := by decide +kernel
theorem dX5_isWord_13 : decode cX5_isWord 13 = .ok (.getfield 59, 3) := by decide +kernel
theorem dX5_isWord_16 : decode cX5_isWord 16 = .ok (.isub, 1) := by decide +kernel
theorem dX5_isWord_17 : decode cX5_isWord 17 = .ok (.aload_n 1, 1) := by decide +kernel
theorem dX5_isWord_18 : decode cX5_isWord 18 = .ok (.invokevirtual 76, 3) := by decide +kernel
theorem dX5_isWord_21 : decode cX5_isWord 21 = .ok (.if_icmp .eq 5, 3) := by decide +kernel
theorem dX5_isWord_24 : decode cX5_isWord 24 = .ok (.iconst 0, 1) := by decide +kernel
theorem dX5_isWord_25 : decode cX5_isWord 25 = .ok (.ireturn, 1) := by decide +kernel
theorem dX5_isWord_26 : decode cX5_isWord 26 = .ok (.iconst 0, 1) := by decide +kernel
theorem dX5_isWord_27 : decode cX5_isWord 27 = .ok (.istore_n 2, 1) := by decide +kernel
theorem dX5_isWord_28 : decode cX5_isWord 28 = .ok (.iload_n 2, 1) := by decide +kernel
theorem dX5_isWord_29 : decode cX5_isWord 29 = .ok (.aload_n 1, 1) := by decide +kernel
theorem dX5_isWord_30 : decode cX5_isWord 30 = .ok (.invokevirtual 76, 3) := by decide +kernel
theorem dX5_isWord_33 : decode cX5_isWord 33 = .ok (.if_icmp .ge 30, 3) := by decide +kernel
theorem dX5_isWord_36 : decode cX5_isWord 36 = .ok (.aload_n 0, 1) := by decide +kernel
theorem dX5_isWord_37 : decode cX5_isWord 37 = .ok (.getfield 9, 3) := by decide +kernel
theorem dX5_isWord_40 : decode cX5_isWord 40 = .ok (.aload_n 0, 1) := by decide +kernel
theorem dX5_isWord_41 : decode cX5_isWord 41 = .ok (.getfield 59, 3) := by decide +kernel
theorem dX5_isWord_44 : decode cX5_isWord 44 = .ok (.iload_n 2, 1) := by decide +kernel
theorem dX5_isWord_45 : decode cX5_isWord 45 = .ok (.iadd, 1) := by decide +kernel
theorem dX5_isWord_46 : decode cX5_isWord 46 = .ok (.iaload, 1) := by decide +kernel
theorem dX5_isWord_47 : decode cX5_isWord 47 = .ok (.aload_n 1, 1) := by decide +kernel
theorem dX5_isWord_48 : decode cX5_isWord 48 = .ok (.iload_n 2, 1) := by decide +kernel
theorem dX5_isWord_49 : decode cX5_isWord 49 = .ok (.invokevirtual 80, 3) := by decide +kernel
theorem dX5_isWord_52 : decode cX5_isWord 52 = .ok (.if_icmp .eq 5, 3) := by decide +kernel
theorem dX5_isWord_55 : decode cX5_isWord 55 = .ok (.iconst 0, 1) := by decide +kernel
theorem dX5_isWord_56 : decode cX5_isWord 56 = .ok (.ireturn, 1) := by decide +kernel
theorem dX5_isWord_57 : decode cX5_isWord 57 = .ok (.iinc 2 1, 3) := by decide +kernel
theorem dX5_isWord_60 : decode cX5_isWord 60 = .ok (.goto (-32), 3) := by decide +kernel
theorem dX5_isWord_63 : decode cX5_isWord 63 = .ok (.iconst 1, 1) := by decide +kernel
theorem dX5_isWord_64 : decode cX5_isWord 64 = .ok (.ireturn, 1) := by decide +kernel
theorem dX5_isSign_0 : decode cX5_isSign 0 = .ok (.aload_n 0, 1) := by decide +kernel
theorem dX5_isSign_1 : decode cX5_isSign 1 = .ok (.getfield 22, 3) := by decide +kernel
theorem dX5_isSign_4 : decode cX5_isSign 4 = .ok (.iconst 3, 1) := by decide +kernel
theorem dX5_isSign_5 : decode cX5_isSign 5 = .ok (.if_icmp .ne 20, 3) := by decide +kernel
theorem dX5_isSign_8 : decode cX5_isSign 8 = .ok (.aload_n 0, 1) := by decide +kernel
theorem dX5_isSign_9 : decode cX5_isSign 9 = .ok (.getfield 9, 3) := by decide +kernel
theorem dX5_isSign_12 : decode cX5_isSign 12 = .ok (.aload_n 0, 1) := by decide +kernel
theorem dX5_isSign_13 : decode cX5_isSign 13 = .ok (.getfield 59, 3) := by decide +kernel
theorem dX5_isSign_16 : decode cX5_isSign 16 = .ok (.iaload, 1) := by decide +kernel
theorem dX5_isSign_17 : decode cX5_isSign 17 = .ok (.iload_n 1, 1) := by decide +kernel
theorem dX5_isSign_18 : decode cX5_isSign 18 = .ok (.if_icmp .ne 7, 3) := by decide +kernel
theorem dX5_isSign_21 : decode cX5_isSign 21 = .ok (.iconst 1, 1) := by decide +kernel
theorem dX5_isSign_22 : decode cX5_isSign 22 = .ok (.goto 4, 3) := by decide +kernel
theorem dX5_isSign_25 : decode cX5_isSign 25 = .ok (.iconst 0, 1) := by decide +kernel
theorem dX5_isSign_26 : decode cX5_isSign 26 = .ok (.ireturn, 1) := by decide +kernel
theorem dX5_readLevel_0 : decode cX5_readLevel 0 = .ok (.iload_n 1, 1) := by decide +kernel
theorem dX5_readLevel_1 : decode cX5_readLevel 1 = .ok (.iconst 4, 1) := by decide +kernel
theorem dX5_readLevel_2 : decode cX5_readLevel 2 = .ok (.if_icmp .le 10, 3) := by decide +kernel
theorem dX5_readLevel_5 : decode cX5_readLevel 5 = .ok (.aload_n 0, 1) := by decide +kernel
theorem dX5_readLevel_6 : decode cX5_readLevel 6 = .ok (.iload_n 2, 1) := by decide +kernel
theorem dX5_readLevel_7 : decode cX5_readLevel 7 = .ok (.iload_n 3, 1) := by decide +kernel
theorem dX5_readLevel_8 : decode cX5_readLevel 8 = .ok (.invokevirtual 84, 3) := by decide +kernel
theorem dX5_readLevel_11 : decode cX5_readLevel 11 = .ok (.ireturn, 1) := by decide +kernel
theorem dX5_readLevel_12 : decode cX5_readLevel 12 = .ok (.aload_n 0, 1) := by decide +kernel
theorem dX5_readLevel_13 : decode cX5_readLevel 13 = .ok (.iload_n 1, 1) := by decide +kernel
theorem dX5_readLevel_14 : decode cX5_readLevel 14 = .ok (.iconst 1, 1) := by decide +kernel
theorem dX5_readLevel_15 : decode cX5_readLevel 15 = .ok (.iadd, 1) := by decide +kernel
theorem dX5_readLevel_16 : decode cX5_readLevel 16 = .ok (.iload_n 2, 1) := by decide +kernel
theorem dX5_readLevel_17 : decode cX5_readLevel 17 = .ok (.iload_n 3, 1) := by decide +kernel
theorem dX5_readLevel_18 : decode cX5_readLevel 18 = .ok (.invokevirtual 44, 3) := by decide +kernel
theorem dX5_readLevel_21 : decode cX5_readLevel 21 = .ok (.ifCond .ne 5, 3) := by decide +kernel
theorem dX5_readLevel_24 : decode cX5_readLevel 24 = .ok (.iconst 0, 1) := by decide +kernel
theorem dX5_readLevel_25 : decode cX5_readLevel 25 = .ok (.ireturn, 1) := by decide +kernel
theorem dX5_readLevel_26 : decode cX5_readLevel 26 = .ok (.iload_n 1, 1) := by decide +kernel
theorem dX5_readLevel_27 : decode cX5_readLevel 27 = .ok (.iconst 2, 1) := by decide +kernel
theorem dX5_readLevel_28 : decode cX5_readLevel 28 = .ok (.if_icmp .ne 7, 3) := by decide +kernel
theorem dX5_readLevel_31 : decode cX5_readLevel 31 = .ok (.iconst 1, 1) := by decide +kernel
theorem dX5_readLevel_32 : decode cX5_readLevel 32 = .ok (.goto 5, 3) := by decide +kernel
theorem dX5_readLevel_35 : decode cX5_readLevel 35 = .ok (.bipush 96, 2) := by decide +kernel
theorem dX5_readLevel_37 : decode cX5_readLevel 37 = .ok (.istore 4, 2) := by decide +kernel
theorem dX5_readLevel_39 : decode cX5_readLevel 39 = .ok (.iconst 0, 1) := by decide +kernel
theorem dX5_readLevel_40 : decode cX5_readLevel 40 = .ok (.istore 5, 2) := by decide +kernel
theorem dX5_readLevel_42 : decode cX5_readLevel 42 = .ok (.iload 5, 2) := by decide +kernel
theorem dX5_readLevel_44 : decode cX5_readLevel 44 = .ok (.iload 4, 2) := by decide +kernel
theorem dX5_readLevel_46 : decode cX5_readLevel 46 = .ok (.if_icmp .ge 47, 3) := by decide +kernel
theorem dX5_readLevel_49 : decode cX5_readLevel 49 = .ok (.aload_n 0, 1) := by decide +kernel
theorem dX5_readLevel_50 : decode cX5_readLevel 50 = .ok (.iload_n 1, 1) := by decide +kernel
theorem dX5_readLevel_51 : decode cX5_readLevel 51 = .ok (.invokevirtual 88, 3) := by decide +kernel
theorem dX5_readLevel_54 : decode cX5_readLevel 54 = .ok (.istore 6, 2) := by decide +kernel
theorem dX5_readLevel_56 : decode cX5_readLevel 56 = .ok (.iload 6, 2) := by decide +kernel
theorem dX5_readLevel_58 : decode cX5_readLevel 58 = .ok (.ifCond .ne 5, 3) := by decide +kernel
theorem dX5_readLevel_61 : decode cX5_readLevel 61 = .ok (.iconst 1, 1) := by decide +kernel
theorem dX5_readLevel_62 : decode cX5_readLevel 62 = .ok (.ireturn, 1) := by decide +kernel
theorem dX5_readLevel_63 : decode cX5_readLevel 63 = .ok (.aload_n 0, 1) := by decide +kernel
theorem dX5_readLevel_64 : decode cX5_readLevel 64 = .ok (.invokevirtual 34, 3) := by decide +kernel
theorem dX5_readLevel_67 : decode cX5_readLevel 67 = .ok (.aload_n 0, 1) := by decide +kernel
theorem dX5_readLevel_68 : decode cX5_readLevel 68 = .ok (.iload_n 1, 1) := by decide +kernel
theorem dX5_readLevel_69 : decode cX5_readLevel 69 = .ok (.iconst 1, 1) := by decide +kernel
theorem dX5_readLevel_70 : decode cX5_readLevel 70 = .ok (.iadd, 1) := by decide +kernel
theorem dX5_readLevel_71 : decode cX5_readLevel 71 = .ok (.iload_n 2, 1) := by decide +kernel
theorem dX5_readLevel_72 : decode cX5_readLevel 72 = .ok (.iload_n 3, 1) := by decide +kernel
theorem dX5_readLevel_73 : decode cX5_readLevel 73 = .ok (.invokevirtual 44, 3) := by decide +kernel
theorem dX5_readLevel_76 : decode cX5_readLevel 76 = .ok (.ifCond .ne 5, 3) := by decide +kernel
theorem dX5_readLevel_79 : decode cX5_readLevel 79 = .ok (.iconst 0, 1) := by decide +kernel
theorem dX5_readLevel_80 : decode cX5_readLevel 80 = .ok (.ireturn, 1) := by decide +kernel
theorem dX5_readLevel_81 : decode cX5_readLevel 81 = .ok (.aload_n 0, 1) := by decide +kernel
theorem dX5_readLevel_82 : decode cX5_readLevel 82 = .ok (.iload 6, 2) := by decide +kernel
theorem dX5_readLevel_84 : decode cX5_readLevel 84 = .ok (.invokevirtual 91, 3) := by decide +kernel
theorem dX5_readLevel_87 : decode cX5_readLevel 87 = .ok (.iinc 5 1, 3) := by decide +kernel
theorem dX5_readLevel_90 : decode cX5_readLevel 90 = .ok (.goto (-48), 3) := by decide +kernel
theorem dX5_readLevel_93 : decode cX5_readLevel 93 = .ok (.iconst 1, 1) := by decide +kernel
theorem dX5_readLevel_94 : decode cX5_readLevel 94 = .ok (.ireturn, 1) := by decide +kernel
theorem dX5_workOf_0 : decode cX5_workOf 0 = .ok (.aload_n 0, 1) := by decide +kernel
theorem dX5_workOf_1 : decode cX5_workOf 1 = .ok (.getfield 22, 3) := by decide +kernel
theorem dX5_workOf_4 : decode cX5_workOf 4 = .ok (.iconst 3, 1) := by decide +kernel
theorem dX5_workOf_5 : decode cX5_workOf 5 = .ok (.if_icmp .eq 5, 3) := by decide +kernel
theorem dX5_workOf_8 : decode cX5_workOf 8 = .ok (.iconst 0, 1) := by decide +kernel
theorem dX5_workOf_9 : decode cX5_workOf 9 = .ok (.ireturn, 1) := by decide +kernel
theorem dX5_workOf_10 : decode cX5_workOf 10 = .ok (.aload_n 0, 1) := by decide +kernel
theorem dX5_workOf_11 : decode cX5_workOf 11 = .ok (.getfield 9, 3) := by decide +kernel
theorem dX5_workOf_14 : decode cX5_workOf 14 = .ok (.aload_n 0, 1) := by decide +kernel
theorem dX5_workOf_15 : decode cX5_workOf 15 = .ok (.getfield 59, 3) := by decide +kernel
theorem dX5_workOf_18 : decode cX5_workOf 18 = .ok (.iaload, 1) := by decide +kernel
theorem dX5_workOf_19 : decode cX5_workOf 19 = .ok (.lookupswitch 188 #[(38, 92), (42, 164), (43, 140), (45, 152), (47, 176), (60, 104), (61, 116), (62, 128), (124, 81)], 81) := by decide +kernel
theorem dX5_workOf_100 : decode cX5_workOf 100 = .ok (.iload_n 1, 1) := by decide +kernel
theorem dX5_workOf_101 : decode cX5_workOf 101 = .ok (.ifCond .ne 8, 3) := by decide +kernel
theorem dX5_workOf_104 : decode cX5_workOf 104 = .ok (.bipush (-5), 2) := by decide +kernel
theorem dX5_workOf_106 : decode cX5_workOf 106 = .ok (.goto 4, 3) := by decide +kernel
theorem dX5_workOf_109 : decode cX5_workOf 109 = .ok (.iconst 0, 1) := by decide +kernel
theorem dX5_workOf_110 : decode cX5_workOf 110 = .ok (.ireturn, 1) := by decide +kernel
theorem dX5_workOf_111 : decode cX5_workOf 111 = .ok (.iload_n 1, 1) := by decide +kernel
