theorem dX8_init_0 : decode cX8_init 0 = .ok (.aload_n 0, 1) := by decide +kernel
theorem dX8_init_1 : decode cX8_init 1 = .ok (.invokespecial 1, 3) := by decide +kernel
theorem dX8_init_4 : decode cX8_init 4 = .ok (.aload_n 0, 1) := by decide +kernel
theorem dX8_init_5 : decode cX8_init 5 = .ok (.sipush 200, 3) := by decide +kernel
theorem dX8_init_8 : decode cX8_init 8 = .ok (.newarray .int, 2) := by decide +kernel
theorem dX8_init_10 : decode cX8_init 10 = .ok (.putfield 7, 3) := by decide +kernel
theorem dX8_init_13 : decode cX8_init 13 = .ok (.aload_n 0, 1) := by decide +kernel
theorem dX8_init_14 : decode cX8_init 14 = .ok (.bipush 33, 2) := by decide +kernel
theorem dX8_init_16 : decode cX8_init 16 = .ok (.newarray .int, 2) := by decide +kernel
theorem dX8_init_18 : decode cX8_init 18 = .ok (.putfield 13, 3) := by decide +kernel
theorem dX8_init_21 : decode cX8_init 21 = .ok (.aload_n 0, 1) := by decide +kernel
theorem dX8_init_22 : decode cX8_init 22 = .ok (.bipush 33, 2) := by decide +kernel
theorem dX8_init_24 : decode cX8_init 24 = .ok (.newarray .int, 2) := by decide +kernel
theorem dX8_init_26 : decode cX8_init 26 = .ok (.putfield 16, 3) := by decide +kernel
theorem dX8_init_29 : decode cX8_init 29 = .ok (.aload_n 0, 1) := by decide +kernel
theorem dX8_init_30 : decode cX8_init 30 = .ok (.bipush 51, 2) := by decide +kernel
theorem dX8_init_32 : decode cX8_init 32 = .ok (.newarray .int, 2) := by decide +kernel
theorem dX8_init_34 : decode cX8_init 34 = .ok (.putfield 19, 3) := by decide +kernel
theorem dX8_init_37 : decode cX8_init 37 = .ok (.aload_n 0, 1) := by decide +kernel
theorem dX8_init_38 : decode cX8_init 38 = .ok (.sipush 510, 3) := by decide +kernel
theorem dX8_init_41 : decode cX8_init 41 = .ok (.newarray .int, 2) := by decide +kernel
theorem dX8_init_43 : decode cX8_init 43 = .ok (.putfield 22, 3) := by decide +kernel
theorem dX8_init_46 : decode cX8_init 46 = .ok (.aload_n 0, 1) := by decide +kernel
theorem dX8_init_47 : decode cX8_init 47 = .ok (.bipush 102, 2) := by decide +kernel
theorem dX8_init_49 : decode cX8_init 49 = .ok (.newarray .int, 2) := by decide +kernel
theorem dX8_init_51 : decode cX8_init 51 = .ok (.putfield 25, 3) := by decide +kernel
theorem dX8_init_54 : decode cX8_init 54 = .ok (.aload_n 0, 1) := by decide +kernel
theorem dX8_init_55 : decode cX8_init 55 = .ok (.iconst 2, 1) := by decide +kernel
theorem dX8_init_56 : decode cX8_init 56 = .ok (.newarray .boolean, 2) := by decide +kernel
theorem dX8_init_58 : decode cX8_init 58 = .ok (.putfield 28, 3) := by decide +kernel
theorem dX8_init_61 : decode cX8_init 61 = .ok (.aload_n 0, 1) := by decide +kernel
theorem dX8_init_62 : decode cX8_init 62 = .ok (.iconst 5, 1) := by decide +kernel
theorem dX8_init_63 : decode cX8_init 63 = .ok (.newarray .int, 2) := by decide +kernel
theorem dX8_init_65 : decode cX8_init 65 = .ok (.putfield 32, 3) := by decide +kernel
theorem dX8_init_68 : decode cX8_init 68 = .ok (.aload_n 0, 1) := by decide +kernel
theorem dX8_init_69 : decode cX8_init 69 = .ok (.iconst 5, 1) := by decide +kernel
theorem dX8_init_70 : decode cX8_init 70 = .ok (.newarray .int, 2) := by decide +kernel
theorem dX8_init_72 : decode cX8_init 72 = .ok (.putfield 35, 3) := by decide +kernel
theorem dX8_init_75 : decode cX8_init 75 = .ok (.aload_n 0, 1) := by decide +kernel
theorem dX8_init_76 : decode cX8_init 76 = .ok (.bipush 51, 2) := by decide +kernel
theorem dX8_init_78 : decode cX8_init 78 = .ok (.newarray .int, 2) := by decide +kernel
theorem dX8_init_80 : decode cX8_init 80 = .ok (.putfield 38, 3) := by decide +kernel
theorem dX8_init_83 : decode cX8_init 83 = .ok (.aload_n 0, 1) := by decide +kernel
theorem dX8_init_84 : decode cX8_init 84 = .ok (.sipush 128, 3) := by decide +kernel
theorem dX8_init_87 : decode cX8_init 87 = .ok (.newarray .int, 2) := by decide +kernel
theorem dX8_init_89 : decode cX8_init 89 = .ok (.putfield 41, 3) := by decide +kernel
theorem dX8_init_92 : decode cX8_init 92 = .ok (.aload_n 0, 1) := by decide +kernel
theorem dX8_init_93 : decode cX8_init 93 = .ok (.invokevirtual 44, 3) := by decide +kernel
theorem dX8_init_96 : decode cX8_init 96 = .ok (.pop, 1) := by decide +kernel
theorem dX8_init_97 : decode cX8_init 97 = .ok (.aload_n 0, 1) := by decide +kernel
theorem dX8_init_98 : decode cX8_init 98 = .ok (.invokevirtual 48, 3) := by decide +kernel
theorem dX8_init_101 : decode cX8_init 101 = .ok (.return_, 1) := by decide +kernel
theorem dX8_in_0 : decode cX8_in 0 = .ok (.iload_n 0, 1) := by decide +kernel
theorem dX8_in_1 : decode cX8_in 1 = .ok (.iload_n 1, 1) := by decide +kernel
theorem dX8_in_2 : decode cX8_in 2 = .ok (.if_icmp .lt 12, 3) := by decide +kernel
theorem dX8_in_5 : decode cX8_in 5 = .ok (.iload_n 0, 1) := by decide +kernel
theorem dX8_in_6 : decode cX8_in 6 = .ok (.iload_n 2, 1) := by decide +kernel
theorem dX8_in_7 : decode cX8_in 7 = .ok (.if_icmp .gt 7, 3) := by decide +kernel
theorem dX8_in_10 : decode cX8_in 10 = .ok (.iconst 1, 1) := by decide +kernel
theorem dX8_in_11 : decode cX8_in 11 = .ok (.goto 4, 3) := by decide +kernel
theorem dX8_in_14 : decode cX8_in 14 = .ok (.iconst 0, 1) := by decide +kernel
theorem dX8_in_15 : decode cX8_in 15 = .ok (.ireturn, 1) := by decide +kernel
theorem dX8_isPan_0 : decode cX8_isPan 0 = .ok (.iload_n 1, 1) := by decide +kernel
theorem dX8_isPan_1 : decode cX8_isPan 1 = .ok (.iconst 0, 1) := by decide +kernel
theorem dX8_isPan_2 : decode cX8_isPan 2 = .ok (.aload_n 0, 1) := by decide +kernel
theorem dX8_isPan_3 : decode cX8_isPan 3 = .ok (.getfield 13, 3) := by decide +kernel
theorem dX8_isPan_6 : decode cX8_isPan 6 = .ok (.iconst 0, 1) := by decide +kernel
theorem dX8_isPan_7 : decode cX8_isPan 7 = .ok (.iaload, 1) := by decide +kernel
theorem dX8_isPan_8 : decode cX8_isPan 8 = .ok (.iconst 1, 1) := by decide +kernel
theorem dX8_isPan_9 : decode cX8_isPan 9 = .ok (.isub, 1) := by decide +kernel
theorem dX8_isPan_10 : decode cX8_isPan 10 = .ok (.invokestatic 51, 3) := by decide +kernel
theorem dX8_isPan_13 : decode cX8_isPan 13 = .ok (.ireturn, 1) := by decide +kernel
theorem dX8_ones_0 : decode cX8_ones 0 = .ok (.iconst 0, 1) := by decide +kernel
theorem dX8_ones_1 : decode cX8_ones 1 = .ok (.istore_n 1, 1) := by decide +kernel
theorem dX8_ones_2 : decode cX8_ones 2 = .ok (.iconst 0, 1) := by decide +kernel
theorem dX8_ones_3 : decode cX8_ones 3 = .ok (.istore_n 2, 1) := by decide +kernel
theorem dX8_ones_4 : decode cX8_ones 4 = .ok (.iload_n 2, 1) := by decide +kernel
theorem dX8_ones_5 : decode cX8_ones 5 = .ok (.bipush 7, 2) := by decide +kernel
theorem dX8_ones_7 : decode cX8_ones 7 = .ok (.if_icmp .ge 17, 3) := by decide +kernel
theorem dX8_ones_10 : decode cX8_ones 10 = .ok (.iload_n 1, 1) := by decide +kernel
theorem dX8_ones_11 : decode cX8_ones 11 = .ok (.iload_n 0, 1) := by decide +kernel
theorem dX8_ones_12 : decode cX8_ones 12 = .ok (.iload_n 2, 1) := by decide +kernel
theorem dX8_ones_13 : decode cX8_ones 13 = .ok (.ishr, 1) := by decide +kernel
theorem dX8_ones_14 : decode cX8_ones 14 = .ok (.iconst 1, 1) := by decide +kernel
theorem dX8_ones_15 : decode cX8_ones 15 = .ok (.iand, 1) := by decide +kernel
theorem dX8_ones_16 : decode cX8_ones 16 = .ok (.iadd, 1) := by decide +kernel
theorem dX8_ones_17 : decode cX8_ones 17 = .ok (.istore_n 1, 1) := by decide +kernel
theorem dX8_ones_18 : decode cX8_ones 18 = .ok (.iinc 2 1, 3) := by decide +kernel
theorem dX8_ones_21 : decode cX8_ones 21 = .ok (.goto (-17), 3) := by decide +kernel
theorem dX8_ones_24 : decode cX8_ones 24 = .ok (.iload_n 1, 1) := by decide +kernel
theorem dX8_ones_25 : decode cX8_ones 25 = .ok (.ireturn, 1) := by decide +kernel
theorem dX8_type_0 : decode cX8_type 0 = .ok (.iload_n 1, 1) := by decide +kernel
theorem dX8_type_1 : decode cX8_type 1 = .ok (.iconst 0, 1) := by decide +kernel
theorem dX8_type_2 : decode cX8_type 2 = .ok (.sipush 255, 3) := by decide +kernel
theorem dX8_type_5 : decode cX8_type 5 = .ok (.invokestatic 51, 3) := by decide +kernel
theorem dX8_type_8 : decode cX8_type 8 = .ok (.ifCond .ne 5, 3) := by decide +kernel
theorem dX8_type_11 : decode cX8_type 11 = .ok (.iconst (-1), 1) := by decide +kernel
theorem dX8_type_12 : decode cX8_type 12 = .ok (.ireturn, 1) := by decide +kernel
theorem dX8_type_13 : decode cX8_type 13 = .ok (.aload_n 0, 1) := by decide +kernel
theorem dX8_type_14 : decode cX8_type 14 = .ok (.getfield 55, 3) := by decide +kernel
theorem dX8_type_17 : decode cX8_type 17 = .ok (.sipush 200, 3) := by decide +kernel
theorem dX8_type_20 : decode cX8_type 20 = .ok (.if_icmp .ne 6, 3) := by decide +kernel
theorem dX8_type_23 : decode cX8_type 23 = .ok (.bipush (-3), 2) := by decide +kernel
theorem dX8_type_25 : decode cX8_type 25 = .ok (.ireturn, 1) := by decide +kernel
theorem dX8_type_26 : decode cX8_type 26 = .ok (.aload_n 0, 1) := by decide +kernel
theorem dX8_type_27 : decode cX8_type 27 = .ok (.getfield 7, 3) := by decide +kernel
theorem dX8_type_30 : decode cX8_type 30 = .ok (.aload_n 0, 1) := by decide +kernel
theorem dX8_type_31 : decode cX8_type 31 = .ok (.getfield 55, 3) := by decide +kernel
theorem dX8_type_34 : decode cX8_type 34 = .ok (.iload_n 1, 1) := by decide +kernel
theorem dX8_type_35 : decode cX8_type 35 = .ok (.iastore, 1) := by decide +kernel
theorem dX8_type_36 : decode cX8_type 36 = .ok (.aload_n 0, 1) := by decide +kernel
theorem dX8_type_37 : decode cX8_type 37 = .ok (.dup, 1) := by decide +kernel
theorem dX8_type_38 : decode cX8_type 38 = .ok (.getfield 55, 3) := by decide +kernel
theorem dX8_type_41 : decode cX8_type 41 = .ok (.iconst 1, 1) := by decide +kernel
theorem dX8_type_42 : decode cX8_type 42 = .ok (.iadd, 1) := by decide +kernel
theorem dX8_type_43 : decode cX8_type 43 = .ok (.putfield 55, 3) := by decide +kernel
theorem dX8_type_46 : decode cX8_type 46 = .ok (.aload_n 0, 1) := by decide +kernel
theorem dX8_type_47 : decode cX8_type 47 = .ok (.getfield 55, 3) := by decide +kernel
theorem dX8_type_50 : decode cX8_type 50 = .ok (.ireturn, 1) := by decide +kernel
theorem dX8_clear_0 : decode cX8_clear 0 = .ok (.aload_n 0, 1) := by decide +kernel
theorem dX8_clear_1 : decode cX8_clear 1 = .ok (.getfield 55, 3) := by decide +kernel
theorem dX8_clear_4 : decode cX8_clear 4 = .ok (.istore_n 1, 1) := by decide +kernel
theorem dX8_clear_5 : decode cX8_clear 5 = .ok (.aload_n 0, 1) := by decide +kernel
theorem dX8_clear_6 : decode cX8_clear 6 = .ok (.iconst 0, 1) := by decide +kernel
theorem dX8_clear_7 : decode cX8_clear 7 = .ok (.putfield 55, 3) := by decide +kernel
theorem dX8_clear_10 : decode cX8_clear 10 = .ok (.iload_n 1, 1) := by decide +kernel
theorem dX8_clear_11 : decode cX8_clear 11 = .ok (.ireturn, 1) := by decide +kernel
theorem dX8_letterAt_0 : decode cX8_letterAt 0 = .ok (.iload_n 1, 1) := by decide +kernel
theorem dX8_letterAt_1 : decode cX8_letterAt 1 = .ok (.aload_n 0, 1) := by decide +kernel
theorem dX8_letterAt_2 : decode cX8_letterAt 2 = .ok (.getfield 55, 3) := by decide +kernel
theorem dX8_letterAt_5 : decode cX8_letterAt 5 = .ok (.if_icmp .ge 12, 3) := by decide +kernel
theorem dX8_letterAt_8 : decode cX8_letterAt 8 = .ok (.aload_n 0, 1) := by decide +kernel
theorem dX8_letterAt_9 : decode cX8_letterAt 9 = .ok (.getfield 7, 3) := by decide +kernel
theorem dX8_letterAt_12 : decode cX8_letterAt 12 = .ok (.iload_n 1, 1) := by decide +kernel
theorem dX8_letterAt_13 : decode cX8_letterAt 13 = .ok (.iaload, 1) := by decide +kernel
theorem dX8_letterAt_14 : decode cX8_letterAt 14 = .ok (.goto 4, 3) := by decide +kernel
theorem dX8_letterAt_17 : decode cX8_letterAt 17 = .ok (.iconst (-1), 1) := by decide +kernel
theorem dX8_letterAt_18 : decode cX8_letterAt 18 = .ok (.ireturn, 1) := by decide +kernel
theorem dX8_isDigit_0 : decode cX8_isDigit 0 = .ok (.iload_n 0, 1) := by decide +kernel
theorem dX8_isDigit_1 : decode cX8_isDigit 1 = .ok (.bipush 48, 2) := by decide +kernel
theorem dX8_isDigit_3 : decode cX8_isDigit 3 = .ok (.bipush 57, 2) := by decide +kernel
theorem dX8_isDigit_5 : decode cX8_isDigit 5 = .ok (.invokestatic 51, 3) := by decide +kernel
theorem dX8_isDigit_8 : decode cX8_isDigit 8 = .ok (.ireturn, 1) := by decide +kernel
theorem dX8_token_0 : decode cX8_token 0 = .ok (.aload_n 0, 1) := by decide +kernel
theorem dX8_token_1 : decode cX8_token 1 = .ok (.aload_n 0, 1) := by decide +kernel
theorem dX8_token_2 : decode cX8_token 2 = .ok (.getfield 59, 3) := by decide +kernel
theorem dX8_token_5 : decode cX8_token 5 = .ok (.invokevirtual 62, 3) := by decide +kernel
theorem dX8_token_8 : decode cX8_token 8 = .ok (.bipush 32, 2) := by decide +kernel
theorem dX8_token_10 : decode cX8_token 10 = .ok (.if_icmp .ne 16, 3) := by decide +kernel
theorem dX8_token_13 : decode cX8_token 13 = .ok (.aload_n 0, 1) := by decide +kernel
theorem dX8_token_14 : decode cX8_token 14 = .ok (.dup, 1) := by decide +kernel
theorem dX8_token_15 : decode cX8_token 15 = .ok (.getfield 59, 3) := by decide +kernel
theorem dX8_token_18 : decode cX8_token 18 = .ok (.iconst 1, 1) := by decide +kernel
theorem dX8_token_19 : decode cX8_token 19 = .ok (.iadd, 1) := by decide +kernel
theorem dX8_token_20 : decode cX8_token 20 = .ok (.putfield 59, 3) := by decide +kernel
theorem dX8_token_23 : decode cX8_token 23 = .ok (.goto (-23), 3) := by decide +kernel
theorem dX8_token_26 : decode cX8_token 26 = .ok (.aload_n 0, 1) := by decide +kernel
theorem dX8_token_27 : decode cX8_token 27 = .ok (.aload_n 0, 1) := by decide +kernel
theorem dX8_token_28 : decode cX8_token 28 = .ok (.getfield 59, 3) := by decide +kernel
theorem dX8_token_31 : decode cX8_token 31 = .ok (.putfield 66, 3) := by decide +kernel
theorem dX8_token_34 : decode cX8_token 34 = .ok (.aload_n 0, 1) := by decide +kernel
theorem dX8_token_35 : decode cX8_token 35 = .ok (.aload_n 0, 1) := by decide +kernel
theorem dX8_token_36 : decode cX8_token 36 = .ok (.getfield 59, 3) := by decide +kernel
theorem dX8_token_39 : decode cX8_token 39 = .ok (.invokevirtual 62, 3) := by decide +kernel
theorem dX8_token_42 : decode cX8_token 42 = .ok (.istore_n 1, 1) := by decide +kernel
theorem dX8_token_43 : decode cX8_token 43 = .ok (.aload_n 0, 1) := by decide +kernel
theorem dX8_token_44 : decode cX8_token 44 = .ok (.iload_n 1, 1) := by decide +kernel
theorem dX8_token_45 : decode cX8_token 45 = .ok (.ifCond .ge 7, 3) := by decide +kernel
theorem dX8_token_48 : decode cX8_token 48 = .ok (.iconst 0, 1) := by decide +kernel
theorem dX8_token_49 : decode cX8_token 49 = .ok (.goto 47, 3) := by decide +kernel
theorem dX8_token_52 : decode cX8_token 52 = .ok (.iload_n 1, 1) := by decide +kernel
theorem dX8_token_53 : decode cX8_token 53 = .ok (.bipush 112, 2) := by decide +kernel
theorem dX8_token_55 : decode cX8_token 55 = .ok (.if_icmp .eq 15, 3) := by decide +kernel
theorem dX8_token_58 : decode cX8_token 58 = .ok (.iload_n 1, 1) := by decide +kernel
theorem dX8_token_59 : decode cX8_token 59 = .ok (.bipush 108, 2) := by decide +kernel
theorem dX8_token_61 : decode cX8_token 61 = .ok (.if_icmp .eq 9, 3) := by decide +kernel
theorem dX8_token_64 : decode cX8_token 64 = .ok (.iload_n 1, 1) := by decide +kernel
theorem dX8_token_65 : decode cX8_token 65 = .ok (.bipush 115, 2) := by decide +kernel
theorem dX8_token_67 : decode cX8_token 67 = .ok (.if_icmp .ne 7, 3) := by decide +kernel
theorem dX8_token_70 : decode cX8_token 70 = .ok (.iconst 1, 1) := by decide +kernel
theorem dX8_token_71 : decode cX8_token 71 = .ok (.goto 25, 3) := by decide +kernel
theorem dX8_token_74 : decode cX8_token 74 = .ok (.iload_n 1, 1) := by decide +kernel
theorem dX8_token_75 : decode cX8_token 75 = .ok (.invokestatic 69, 3) := by decide +kernel
theorem dX8_token_78 : decode cX8_token 78 = .ok (.ifCond .eq 7, 3) := by decide +kernel
theorem dX8_token_81 : decode cX8_token 81 = .ok (.iconst 2, 1) := by decide +kernel
theorem dX8_token_82 : decode cX8_token 82 = .ok (.goto 14, 3) := by decide +kernel
theorem dX8_token_85 : decode cX8_token 85 = .ok (.iload_n 1, 1) := by decide +kernel
theorem dX8_token_86 : decode cX8_token 86 = .ok (.bipush 59, 2) := by decide +kernel
theorem dX8_token_88 : decode cX8_token 88 = .ok (.if_icmp .ne 7, 3) := by decide +kernel
theorem dX8_token_91 : decode cX8_token 91 = .ok (.iconst 3, 1) := by decide +kernel
theorem dX8_token_92 : decode cX8_token 92 = .ok (.goto 4, 3) := by decide +kernel
theorem dX8_token_95 : decode cX8_token 95 = .ok (.iconst 4, 1) := by decide +kernel
theorem dX8_token_96 : decode cX8_token 96 = .ok (.putfield 73, 3) := by decide +kernel
theorem dX8_token_99 : decode cX8_token 99 = .ok (.aload_n 0, 1) := by decide +kernel
theorem dX8_token_100 : decode cX8_token 100 = .ok (.iload_n 1, 1) := by decide +kernel
theorem dX8_token_101 : decode cX8_token 101 = .ok (.putfield 76, 3) := by decide +kernel
theorem dX8_token_104 : decode cX8_token 104 = .ok (.aload_n 0, 1) := by decide +kernel
theorem dX8_token_105 : decode cX8_token 105 = .ok (.dup, 1) := by decide +kernel
theorem dX8_token_106 : decode cX8_token 106 = .ok (.getfield 59, 3) := by decide +kernel
theorem dX8_token_109 : decode cX8_token 109 = .ok (.aload_n 0, 1) := by decide +kernel
theorem dX8_token_110 : decode cX8_token 110 = .ok (.getfield 73, 3) := by decide +kernel
theorem dX8_token_113 : decode cX8_token 113 = .ok (.ifCond .ne 7, 3) := by decide +kernel
theorem dX8_token_116 : decode cX8_token 116 = .ok (.iconst 0, 1) := by decide +kernel
theorem dX8_token_117 : decode cX8_token 117 = .ok (.goto 4, 3) := by decide +kernel
theorem dX8_token_120 : decode cX8_token 120 = .ok (.iconst 1, 1) := by decide +kernel
theorem dX8_token_121 : decode cX8_token 121 = .ok (.iadd, 1) := by decide +kernel
theorem dX8_token_122 : decode cX8_token 122 = .ok (.putfield 59, 3) := by decide +kernel
theorem dX8_token_125 : decode cX8_token 125 = .ok (.aload_n 0, 1) := by decide +kernel
theorem dX8_token_126 : decode cX8_token 126 = .ok (.getfield 73, 3) := by decide +kernel
theorem dX8_token_129 : decode cX8_token 129 = .ok (.iconst 2, 1) := by decide +kernel
theorem dX8_token_130 : decode cX8_token 130 = .ok (.if_icmp .ne 83, 3) := by decide +kernel
theorem dX8_token_133 : decode cX8_token 133 = .ok (.aload_n 0, 1) := by decide +kernel
theorem dX8_token_134 : decode cX8_token 134 = .ok (.iload_n 1, 1) := by decide +kernel
theorem dX8_token_135 : decode cX8_token 135 = .ok (.bipush 48, 2) := by decide +kernel
theorem dX8_token_137 : decode cX8_token 137 = .ok (.isub, 1) := by decide +kernel
theorem dX8_token_138 : decode cX8_token 138 = .ok (.putfield 76, 3) := by decide +kernel
theorem dX8_token_141 : decode cX8_token 141 = .ok (.aload_n 0, 1) := by decide +kernel
theorem dX8_token_142 : decode cX8_token 142 = .ok (.aload_n 0, 1) := by decide +kernel
theorem dX8_token_143 : decode cX8_token 143 = .ok (.getfield 59, 3) := by decide +kernel
theorem dX8_token_146 : decode cX8_token 146 = .ok (.invokevirtual 62, 3) := by decide +kernel
theorem dX8_token_149 : decode cX8_token 149 = .ok (.invokestatic 69, 3) := by decide +kernel
theorem dX8_token_152 : decode cX8_token 152 = .ok (.ifCond .eq 61, 3) := by decide +kernel
theorem dX8_token_155 : decode cX8_token 155 = .ok (.aload_n 0, 1) := by decide +kernel
theorem dX8_token_156 : decode cX8_token 156 = .ok (.iload_n 1, 1) := by decide +kernel
theorem dX8_token_157 : decode cX8_token 157 = .ok (.bipush 48, 2) := by decide +kernel
theorem dX8_token_159 : decode cX8_token 159 = .ok (.if_icmp .eq 12, 3) := by decide +kernel
theorem dX8_token_162 : decode cX8_token 162 = .ok (.aload_n 0, 1) := by decide +kernel
theorem dX8_token_163 : decode cX8_token 163 = .ok (.getfield 76, 3) := by decide +kernel
theorem dX8_token_166 : decode cX8_token 166 = .ok (.bipush 99, 2) := by decide +kernel
theorem dX8_token_168 : decode cX8_token 168 = .ok (.if_icmp .le 9, 3) := by decide +kernel
theorem dX8_token_171 : decode cX8_token 171 = .ok (.sipush 1000, 3) := by decide +kernel
theorem dX8_token_174 : decode cX8_token 174 = .ok (.goto 23, 3) := by decide +kernel
theorem dX8_token_177 : decode cX8_token 177 = .ok (.bipush 10, 2) := by decide +kernel
theorem dX8_token_179 : decode cX8_token 179 = .ok (.aload_n 0, 1) := by decide +kernel
theorem dX8_token_180 : decode cX8_token 180 = .ok (.getfield 76, 3) := by decide +kernel
theorem dX8_token_183 : decode cX8_token 183 = .ok (.imul, 1) := by decide +kernel
theorem dX8_token_184 : decode cX8_token 184 = .ok (.aload_n 0, 1) := by decide +kernel
theorem dX8_token_185 : decode cX8_token 185 = .ok (.getfield 7, 3) := by decide +kernel
theorem dX8_token_188 : decode cX8_token 188 = .ok (.aload_n 0, 1) := by decide +kernel
theorem dX8_token_189 : decode cX8_token 189 = .ok (.getfield 59, 3) := by decide +kernel
theorem dX8_token_192 : decode cX8_token 192 = .ok (.iaload, 1) := by decide +kernel
theorem dX8_token_193 : decode cX8_token 193 = .ok (.iadd, 1) := by decide +kernel
theorem dX8_token_194 : decode cX8_token 194 = .ok (.bipush 48, 2) := by decide +kernel
theorem dX8_token_196 : decode cX8_token 196 = .ok (.isub, 1) := by decide +kernel
theorem dX8_token_197 : decode cX8_token 197 = .ok (.putfield 76, 3) := by decide +kernel
theorem dX8_token_200 : decode cX8_token 200 = .ok (.aload_n 0, 1) := by decide +kernel
theorem dX8_token_201 : decode cX8_token 201 = .ok (.dup, 1) := by decide +kernel
theorem dX8_token_202 : decode cX8_token 202 = .ok (.getfield 59, 3) := by decide +kernel
theorem dX8_token_205 : decode cX8_token 205 = .ok (.iconst 1, 1) := by decide +kernel
theorem dX8_token_206 : decode cX8_token 206 = .ok (.iadd, 1) := by decide +kernel
theorem dX8_token_207 : decode cX8_token 207 = .ok (.putfield 59, 3) := by decide +kernel
theorem dX8_token_210 : decode cX8_token 210 = .ok (.goto (-69), 3) := by decide +kernel
theorem dX8_token_213 : decode cX8_token 213 = .ok (.return_, 1) := by decide +kernel
theorem dX8_number_0 : decode cX8_number 0 = .ok (.aload_n 0, 1) := by decide +kernel
theorem dX8_number_1 : decode cX8_number 1 = .ok (.invokevirtual 79, 3) := by decide +kernel
theorem dX8_number_4 : decode cX8_number 4 = .ok (.aload_n 0, 1) := by decide +kernel
theorem dX8_number_5 : decode cX8_number 5 = .ok (.getfield 16, 3) := by decide +kernel
theorem dX8_number_8 : decode cX8_number 8 = .ok (.iload_n 1, 1) := by decide +kernel
theorem dX8_number_9 : decode cX8_number 9 = .ok (.aload_n 0, 1) := by decide +kernel
theorem dX8_number_10 : decode cX8_number 10 = .ok (.getfield 76, 3) := by decide +kernel
theorem dX8_number_13 : decode cX8_number 13 = .ok (.iastore, 1) := by decide +kernel
theorem dX8_number_14 : decode cX8_number 14 = .ok (.aload_n 0, 1) := by decide +kernel
theorem dX8_number_15 : decode cX8_number 15 = .ok (.getfield 73, 3) := by decide +kernel
theorem dX8_number_18 : decode cX8_number 18 = .ok (.iconst 2, 1) := by decide +kernel
theorem dX8_number_19 : decode cX8_number 19 = .ok (.if_icmp .ne 19, 3) := by decide +kernel
theorem dX8_number_22 : decode cX8_number 22 = .ok (.aload_n 0, 1) := by decide +kernel
theorem dX8_number_23 : decode cX8_number 23 = .ok (.getfield 76, 3) := by decide +kernel
theorem dX8_number_26 : decode cX8_number 26 = .ok (.iload_n 2, 1) := by decide +kernel
theorem dX8_number_27 : decode cX8_number 27 = .ok (.iload_n 3, 1) := by decide +kernel
theorem dX8_number_28 : decode cX8_number 28 = .ok (.invokestatic 51, 3) := by decide +kernel
theorem dX8_number_31 : decode cX8_number 31 = .ok (.ifCond .eq 7, 3) := by decide +kernel
theorem dX8_number_34 : decode cX8_number 34 = .ok (.iconst 1, 1) := by decide +kernel
theorem dX8_number_35 : decode cX8_number 35 = .ok (.goto 4, 3) := by decide +kernel
theorem dX8_number_38 : decode cX8_number 38 = .ok (.iconst 0, 1) := by decide +kernel
theorem dX8_number_39 : decode cX8_number 39 = .ok (.ireturn, 1) := by decide +kernel
theorem dX8_once_0 : decode cX8_once 0 = .ok (.aload_n 0, 1) := by decide +kernel
theorem dX8_once_1 : decode cX8_once 1 = .ok (.getfield 16, 3) := by decide +kernel
theorem dX8_once_4 : decode cX8_once 4 = .ok (.iconst 4, 1) := by decide +kernel
theorem dX8_once_5 : decode cX8_once 5 = .ok (.iaload, 1) := by decide +kernel
theorem dX8_once_6 : decode cX8_once 6 = .ok (.iload_n 1, 1) := by decide +kernel
theorem dX8_once_7 : decode cX8_once 7 = .ok (.iand, 1) := by decide +kernel
theorem dX8_once_8 : decode cX8_once 8 = .ok (.ifCond .eq 5, 3) := by decide +kernel
theorem dX8_once_11 : decode cX8_once 11 = .ok (.iconst 0, 1) := by decide +kernel
theorem dX8_once_12 : decode cX8_once 12 = .ok (.ireturn, 1) := by decide +kernel
theorem dX8_once_13 : decode cX8_once 13 = .ok (.aload_n 0, 1) := by decide +kernel
theorem dX8_once_14 : decode cX8_once 14 = .ok (.getfield 16, 3) := by decide +kernel
theorem dX8_once_17 : decode cX8_once 17 = .ok (.iconst 4, 1) := by decide +kernel
theorem dX8_once_18 : decode cX8_once 18 = .ok (.dup2, 1) := by decide +kernel
theorem dX8_once_19 : decode cX8_once 19 = .ok (.iaload, 1) := by decide +kernel
theorem dX8_once_20 : decode cX8_once 20 = .ok (.iload_n 1, 1) := by decide +kernel
theorem dX8_once_21 : decode cX8_once 21 = .ok (.ior, 1) := by decide +kernel
theorem dX8_once_22 : decode cX8_once 22 = .ok (.iastore, 1) := by decide +kernel
theorem dX8_once_23 : decode cX8_once 23 = .ok (.aload_n 0, 1) := by decide +kernel
theorem dX8_once_24 : decode cX8_once 24 = .ok (.iload_n 2, 1) := by decide +kernel
theorem dX8_once_25 : decode cX8_once 25 = .ok (.iload_n 3, 1) := by decide +kernel
theorem dX8_once_26 : decode cX8_once 26 = .ok (.iload 4, 2) := by decide +kernel
theorem dX8_once_28 : decode cX8_once 28 = .ok (.invokevirtual 82, 3) := by decide +kernel
theorem dX8_once_31 : decode cX8_once 31 = .ok (.ireturn, 1) := by decide +kernel
theorem dX8_readsItem_0 : decode cX8_readsItem 0 = .ok (.aload_n 0, 1) := by decide +kernel
theorem dX8_readsItem_1 : decode cX8_readsItem 1 = .ok (.getfield 73, 3) := by decide +kernel
theorem dX8_readsItem_4 : decode cX8_readsItem 4 = .ok (.iconst 1, 1) := by decide +kernel
theorem dX8_readsItem_5 : decode cX8_readsItem 5 = .ok (.if_icmp .ne 10, 3) := by decide +kernel
theorem dX8_readsItem_8 : decode cX8_readsItem 8 = .ok (.aload_n 0, 1) := by decide +kernel
theorem dX8_readsItem_9 : decode cX8_readsItem 9 = .ok (.getfield 76, 3) := by decide +kernel
theorem dX8_readsItem_12 : decode cX8_readsItem 12 = .ok (.goto 4, 3) := by decide +kernel
theorem dX8_readsItem_15 : decode cX8_readsItem 15 = .ok (.iconst 0, 1) := by decide +kernel
theorem dX8_readsItem_16 : decode cX8_readsItem 16 = .ok (.istore_n 1, 1) := by decide +kernel
theorem dX8_readsItem_17 : decode cX8_readsItem 17 = .ok (.iload_n 1, 1) := by decide +kernel
theorem dX8_readsItem_18 : decode cX8_readsItem 18 = .ok (.bipush 112, 2) := by decide +kernel
theorem dX8_readsItem_20 : decode cX8_readsItem 20 = .ok (.if_icmp .ne 84, 3) := by decide +kernel
theorem dX8_readsItem_23 : decode cX8_readsItem 23 = .ok (.aload_n 0, 1) := by decide +kernel
theorem dX8_readsItem_24 : decode cX8_readsItem 24 = .ok (.getfield 16, 3) := by decide +kernel
theorem dX8_readsItem_27 : decode cX8_readsItem 27 = .ok (.iconst 0, 1) := by decide +kernel
theorem dX8_readsItem_28 : decode cX8_readsItem 28 = .ok (.iaload, 1) := by decide +kernel
theorem dX8_readsItem_29 : decode cX8_readsItem 29 = .ok (.istore_n 2, 1) := by decide +kernel
theorem dX8_readsItem_30 : decode cX8_readsItem 30 = .ok (.iload_n 2, 1) := by decide +kernel
theorem dX8_readsItem_31 : decode cX8_readsItem 31 = .ok (.bipush 7, 2) := by decide +kernel
theorem dX8_readsItem_33 : decode cX8_readsItem 33 = .ok (.if_icmp .eq 57, 3) := by decide +kernel
theorem dX8_readsItem_36 : decode cX8_readsItem 36 = .ok (.aload_n 0, 1) := by decide +kernel
theorem dX8_readsItem_37 : decode cX8_readsItem 37 = .ok (.iconst 5, 1) := by decide +kernel
theorem dX8_readsItem_38 : decode cX8_readsItem 38 = .ok (.iload_n 2, 1) := by decide +kernel
theorem dX8_readsItem_39 : decode cX8_readsItem 39 = .ok (.iadd, 1) := by decide +kernel
theorem dX8_readsItem_40 : decode cX8_readsItem 40 = .ok (.iconst 0, 1) := by decide +kernel
theorem dX8_readsItem_41 : decode cX8_readsItem 41 = .ok (.bipush 99, 2) := by decide +kernel
theorem dX8_readsItem_43 : decode cX8_readsItem 43 = .ok (.invokevirtual 82, 3) := by decide +kernel
theorem dX8_readsItem_46 : decode cX8_readsItem 46 = .ok (.ifCond .eq 44, 3) := by decide +kernel
theorem dX8_readsItem_49 : decode cX8_readsItem 49 = .ok (.aload_n 0, 1) := by decide +kernel
theorem dX8_readsItem_50 : decode cX8_readsItem 50 = .ok (.bipush 12, 2) := by decide +kernel
theorem dX8_readsItem_52 : decode cX8_readsItem 52 = .ok (.iload_n 2, 1) := by decide +kernel
theorem dX8_readsItem_53 : decode cX8_readsItem 53 = .ok (.iadd, 1) := by decide +kernel
theorem dX8_readsItem_54 : decode cX8_readsItem 54 = .ok (.iconst 0, 1) := by decide +kernel
theorem dX8_readsItem_55 : decode cX8_readsItem 55 = .ok (.bipush 60, 2) := by decide +kernel
theorem dX8_readsItem_57 : decode cX8_readsItem 57 = .ok (.invokevirtual 82, 3) := by decide +kernel
theorem dX8_readsItem_60 : decode cX8_readsItem 60 = .ok (.ifCond .eq 30, 3) := by decide +kernel
theorem dX8_readsItem_63 : decode cX8_readsItem 63 = .ok (.aload_n 0, 1) := by decide +kernel
theorem dX8_readsItem_64 : decode cX8_readsItem 64 = .ok (.bipush 19, 2) := by decide +kernel
theorem dX8_readsItem_66 : decode cX8_readsItem 66 = .ok (.iload_n 2, 1) := by decide +kernel
theorem dX8_readsItem_67 : decode cX8_readsItem 67 = .ok (.iadd, 1) := by decide +kernel
theorem dX8_readsItem_68 : decode cX8_readsItem 68 = .ok (.iconst 0, 1) := by decide +kernel
theorem dX8_readsItem_69 : decode cX8_readsItem 69 = .ok (.bipush 9, 2) := by decide +kernel
theorem dX8_readsItem_71 : decode cX8_readsItem 71 = .ok (.invokevirtual 82, 3) := by decide +kernel
theorem dX8_readsItem_74 : decode cX8_readsItem 74 = .ok (.ifCond .eq 16, 3) := by decide +kernel
theorem dX8_readsItem_77 : decode cX8_readsItem 77 = .ok (.aload_n 0, 1) := by decide +kernel
theorem dX8_readsItem_78 : decode cX8_readsItem 78 = .ok (.bipush 26, 2) := by decide +kernel
theorem dX8_readsItem_80 : decode cX8_readsItem 80 = .ok (.iload_n 2, 1) := by decide +kernel
theorem dX8_readsItem_81 : decode cX8_readsItem 81 = .ok (.iadd, 1) := by decide +kernel
theorem dX8_readsItem_82 : decode cX8_readsItem 82 = .ok (.iconst 0, 1) := by decide +kernel
theorem dX8_readsItem_83 : decode cX8_readsItem 83 = .ok (.iconst 2, 1) := by decide +kernel
theorem dX8_readsItem_84 : decode cX8_readsItem 84 = .ok (.invokevirtual 82, 3) := by decide +kernel
theorem dX8_readsItem_87 : decode cX8_readsItem 87 = .ok (.ifCond .ne 5, 3) := by decide +kernel
theorem dX8_readsItem_90 : decode cX8_readsItem 90 = .ok (.iconst 0, 1) := by decide +kernel
theorem dX8_readsItem_91 : decode cX8_readsItem 91 = .ok (.ireturn, 1) := by decide +kernel
theorem dX8_readsItem_92 : decode cX8_readsItem 92 = .ok (.aload_n 0, 1) := by decide +kernel
theorem dX8_readsItem_93 : decode cX8_readsItem 93 = .ok (.getfield 16, 3) := by decide +kernel
theorem dX8_readsItem_96 : decode cX8_readsItem 96 = .ok (.iconst 0, 1) := by decide +kernel
theorem dX8_readsItem_97 : decode cX8_readsItem 97 = .ok (.dup2, 1) := by decide +kernel
theorem dX8_readsItem_98 : decode cX8_readsItem 98 = .ok (.iaload, 1) := by decide +kernel
theorem dX8_readsItem_99 : decode cX8_readsItem 99 = .ok (.iconst 1, 1) := by decide +kernel
theorem dX8_readsItem_100 : decode cX8_readsItem 100 = .ok (.iadd, 1) := by decide +kernel
theorem dX8_readsItem_101 : decode cX8_readsItem 101 = .ok (.iastore, 1) := by decide +kernel
theorem dX8_readsItem_102 : decode cX8_readsItem 102 = .ok (.iconst 1, 1) := by decide +kernel
theorem dX8_readsItem_103 : decode cX8_readsItem 103 = .ok (.ireturn, 1) := by decide +kernel
theorem dX8_readsItem_104 : decode cX8_readsItem 104 = .ok (.iload_n 1, 1) := by decide +kernel
theorem dX8_readsItem_105 : decode cX8_readsItem 105 = .ok (.bipush 108, 2) := by decide +kernel
theorem dX8_readsItem_107 : decode cX8_readsItem 107 = .ok (.if_icmp .ne 15, 3) := by decide +kernel
theorem dX8_readsItem_110 : decode cX8_readsItem 110 = .ok (.aload_n 0, 1) := by decide +kernel
theorem dX8_readsItem_111 : decode cX8_readsItem 111 = .ok (.iconst 1, 1) := by decide +kernel
theorem dX8_readsItem_112 : decode cX8_readsItem 112 = .ok (.iconst 1, 1) := by decide +kernel
theorem dX8_readsItem_113 : decode cX8_readsItem 113 = .ok (.iconst 1, 1) := by decide +kernel
theorem dX8_readsItem_114 : decode cX8_readsItem 114 = .ok (.bipush 60, 2) := by decide +kernel
theorem dX8_readsItem_116 : decode cX8_readsItem 116 = .ok (.invokevirtual 85, 3) := by decide +kernel
theorem dX8_readsItem_119 : decode cX8_readsItem 119 = .ok (.goto 27, 3) := by decide +kernel
theorem dX8_readsItem_122 : decode cX8_readsItem 122 = .ok (.iload_n 1, 1) := by decide +kernel
theorem dX8_readsItem_123 : decode cX8_readsItem 123 = .ok (.bipush 115, 2) := by decide +kernel
theorem dX8_readsItem_125 : decode cX8_readsItem 125 = .ok (.if_icmp .ne 20, 3) := by decide +kernel
theorem dX8_readsItem_128 : decode cX8_readsItem 128 = .ok (.aload_n 0, 1) := by decide +kernel
theorem dX8_readsItem_129 : decode cX8_readsItem 129 = .ok (.iconst 2, 1) := by decide +kernel
theorem dX8_readsItem_130 : decode cX8_readsItem 130 = .ok (.iconst 2, 1) := by decide +kernel
theorem dX8_readsItem_131 : decode cX8_readsItem 131 = .ok (.bipush 10, 2) := by decide +kernel
theorem dX8_readsItem_133 : decode cX8_readsItem 133 = .ok (.bipush 99, 2) := by decide +kernel
theorem dX8_readsItem_135 : decode cX8_readsItem 135 = .ok (.invokevirtual 85, 3) := by decide +kernel
theorem dX8_readsItem_138 : decode cX8_readsItem 138 = .ok (.ifCond .eq 7, 3) := by decide +kernel
theorem dX8_readsItem_141 : decode cX8_readsItem 141 = .ok (.iconst 1, 1) := by decide +kernel
theorem dX8_readsItem_142 : decode cX8_readsItem 142 = .ok (.goto 4, 3) := by decide +kernel
theorem dX8_readsItem_145 : decode cX8_readsItem 145 = .ok (.iconst 0, 1) := by decide +kernel
theorem dX8_readsItem_146 : decode cX8_readsItem 146 = .ok (.ireturn, 1) := by decide +kernel
theorem dX8_reads_0 : decode cX8_reads 0 = .ok (.iconst 0, 1) := by decide +kernel
theorem dX8_reads_1 : decode cX8_reads 1 = .ok (.istore_n 1, 1) := by decide +kernel
theorem dX8_reads_2 : decode cX8_reads 2 = .ok (.iload_n 1, 1) := by decide +kernel
theorem dX8_reads_3 : decode cX8_reads 3 = .ok (.bipush 33, 2) := by decide +kernel
theorem dX8_reads_5 : decode cX8_reads 5 = .ok (.if_icmp .ge 16, 3) := by decide +kernel
theorem dX8_reads_8 : decode cX8_reads 8 = .ok (.aload_n 0, 1) := by decide +kernel
theorem dX8_reads_9 : decode cX8_reads 9 = .ok (.getfield 16, 3) := by decide +kernel
theorem dX8_reads_12 : decode cX8_reads 12 = .ok (.iload_n 1, 1) := by decide +kernel
theorem dX8_reads_13 : decode cX8_reads 13 = .ok (.iconst 0, 1) := by decide +kernel
theorem dX8_reads_14 : decode cX8_reads 14 = .ok (.iastore, 1) := by decide +kernel
theorem dX8_reads_15 : decode cX8_reads 15 = .ok (.iinc 1 1, 3) := by decide +kernel
theorem dX8_reads_18 : decode cX8_reads 18 = .ok (.goto (-16), 3) := by decide +kernel
theorem dX8_reads_21 : decode cX8_reads 21 = .ok (.aload_n 0, 1) := by decide +kernel
theorem dX8_reads_22 : decode cX8_reads 22 = .ok (.getfield 16, 3) := by decide +kernel
theorem dX8_reads_25 : decode cX8_reads 25 = .ok (.iconst 1, 1) := by decide +kernel
theorem dX8_reads_26 : decode cX8_reads 26 = .ok (.iconst 5, 1) := by decide +kernel
theorem dX8_reads_27 : decode cX8_reads 27 = .ok (.iastore, 1) := by decide +kernel
theorem dX8_reads_28 : decode cX8_reads 28 = .ok (.aload_n 0, 1) := by decide +kernel
theorem dX8_reads_29 : decode cX8_reads 29 = .ok (.getfield 16, 3) := by decide +kernel
theorem dX8_reads_32 : decode cX8_reads 32 = .ok (.iconst 2, 1) := by decide +kernel
theorem dX8_reads_33 : decode cX8_reads 33 = .ok (.bipush 60, 2) := by decide +kernel
theorem dX8_reads_35 : decode cX8_reads 35 = .ok (.iastore, 1) := by decide +kernel
theorem dX8_reads_36 : decode cX8_reads 36 = .ok (.aload_n 0, 1) := by decide +kernel
theorem dX8_reads_37 : decode cX8_reads 37 = .ok (.iconst 0, 1) := by decide +kernel
theorem dX8_reads_38 : decode cX8_reads 38 = .ok (.putfield 59, 3) := by decide +kernel
theorem dX8_reads_41 : decode cX8_reads 41 = .ok (.aload_n 0, 1) := by decide +kernel
theorem dX8_reads_42 : decode cX8_reads 42 = .ok (.invokevirtual 79, 3) := by decide +kernel
theorem dX8_reads_45 : decode cX8_reads 45 = .ok (.aload_n 0, 1) := by decide +kernel
theorem dX8_reads_46 : decode cX8_reads 46 = .ok (.getfield 73, 3) := by decide +kernel
theorem dX8_reads_49 : decode cX8_reads 49 = .ok (.ifCond .eq 43, 3) := by decide +kernel
theorem dX8_reads_52 : decode cX8_reads 52 = .ok (.aload_n 0, 1) := by decide +kernel
theorem dX8_reads_53 : decode cX8_reads 53 = .ok (.invokevirtual 89, 3) := by decide +kernel
theorem dX8_reads_56 : decode cX8_reads 56 = .ok (.ifCond .ne 5, 3) := by decide +kernel
theorem dX8_reads_59 : decode cX8_reads 59 = .ok (.iconst 0, 1) := by decide +kernel
theorem dX8_reads_60 : decode cX8_reads 60 = .ok (.ireturn, 1) := by decide +kernel
theorem dX8_reads_61 : decode cX8_reads 61 = .ok (.aload_n 0, 1) := by decide +kernel
theorem dX8_reads_62 : decode cX8_reads 62 = .ok (.invokevirtual 79, 3) := by decide +kernel
theorem dX8_reads_65 : decode cX8_reads 65 = .ok (.aload_n 0, 1) := by decide +kernel
theorem dX8_reads_66 : decode cX8_reads 66 = .ok (.getfield 73, 3) := by decide +kernel
theorem dX8_reads_69 : decode cX8_reads 69 = .ok (.iconst 3, 1) := by decide +kernel
theorem dX8_reads_70 : decode cX8_reads 70 = .ok (.if_icmp .eq 5, 3) := by decide +kernel
theorem dX8_reads_73 : decode cX8_reads 73 = .ok (.iconst 0, 1) := by decide +kernel
theorem dX8_reads_74 : decode cX8_reads 74 = .ok (.ireturn, 1) := by decide +kernel
theorem dX8_reads_75 : decode cX8_reads 75 = .ok (.aload_n 0, 1) := by decide +kernel
theorem dX8_reads_76 : decode cX8_reads 76 = .ok (.getfield 16, 3) := by decide +kernel
theorem dX8_reads_79 : decode cX8_reads 79 = .ok (.iconst 3, 1) := by decide +kernel
theorem dX8_reads_80 : decode cX8_reads 80 = .ok (.dup2, 1) := by decide +kernel
theorem dX8_reads_81 : decode cX8_reads 81 = .ok (.iaload, 1) := by decide +kernel
theorem dX8_reads_82 : decode cX8_reads 82 = .ok (.iconst 1, 1) := by decide +kernel
theorem dX8_reads_83 : decode cX8_reads 83 = .ok (.iadd, 1) := by decide +kernel
theorem dX8_reads_84 : decode cX8_reads 84 = .ok (.iastore, 1) := by decide +kernel
theorem dX8_reads_85 : decode cX8_reads 85 = .ok (.aload_n 0, 1) := by decide +kernel
theorem dX8_reads_86 : decode cX8_reads 86 = .ok (.invokevirtual 79, 3) := by decide +kernel
theorem dX8_reads_89 : decode cX8_reads 89 = .ok (.goto (-44), 3) := by decide +kernel
theorem dX8_reads_92 : decode cX8_reads 92 = .ok (.iconst 1, 1) := by decide +kernel
theorem dX8_reads_93 : decode cX8_reads 93 = .ok (.ireturn, 1) := by decide +kernel
theorem dX8_tells_0 : decode cX8_tells 0 = .ok (.iconst 0, 1) := by decide +kernel
theorem dX8_tells_1 : decode cX8_tells 1 = .ok (.istore_n 1, 1) := by decide +kernel
theorem dX8_tells_2 : decode cX8_tells 2 = .ok (.iload_n 1, 1) := by decide +kernel
theorem dX8_tells_3 : decode cX8_tells 3 = .ok (.bipush 33, 2) := by decide +kernel
theorem dX8_tells_5 : decode cX8_tells 5 = .ok (.if_icmp .ge 21, 3) := by decide +kernel
theorem dX8_tells_8 : decode cX8_tells 8 = .ok (.aload_n 0, 1) := by decide +kernel
theorem dX8_tells_9 : decode cX8_tells 9 = .ok (.getfield 13, 3) := by decide +kernel
theorem dX8_tells_12 : decode cX8_tells 12 = .ok (.iload_n 1, 1) := by decide +kernel
theorem dX8_tells_13 : decode cX8_tells 13 = .ok (.aload_n 0, 1) := by decide +kernel
theorem dX8_tells_14 : decode cX8_tells 14 = .ok (.getfield 16, 3) := by decide +kernel
theorem dX8_tells_17 : decode cX8_tells 17 = .ok (.iload_n 1, 1) := by decide +kernel
theorem dX8_tells_18 : decode cX8_tells 18 = .ok (.iaload, 1) := by decide +kernel
theorem dX8_tells_19 : decode cX8_tells 19 = .ok (.iastore, 1) := by decide +kernel
theorem dX8_tells_20 : decode cX8_tells 20 = .ok (.iinc 1 1, 3) := by decide +kernel
theorem dX8_tells_23 : decode cX8_tells 23 = .ok (.goto (-21), 3) := by decide +kernel
theorem dX8_tells_26 : decode cX8_tells 26 = .ok (.iconst 0, 1) := by decide +kernel
theorem dX8_tells_27 : decode cX8_tells 27 = .ok (.istore_n 1, 1) := by decide +kernel
theorem dX8_tells_28 : decode cX8_tells 28 = .ok (.iload_n 1, 1) := by decide +kernel
theorem dX8_tells_29 : decode cX8_tells 29 = .ok (.bipush 51, 2) := by decide +kernel
theorem dX8_tells_31 : decode cX8_tells 31 = .ok (.if_icmp .ge 16, 3) := by decide +kernel
theorem dX8_tells_34 : decode cX8_tells 34 = .ok (.aload_n 0, 1) := by decide +kernel
theorem dX8_tells_35 : decode cX8_tells 35 = .ok (.getfield 19, 3) := by decide +kernel
theorem dX8_tells_38 : decode cX8_tells 38 = .ok (.iload_n 1, 1) := by decide +kernel
theorem dX8_tells_39 : decode cX8_tells 39 = .ok (.iconst 0, 1) := by decide +kernel
theorem dX8_tells_40 : decode cX8_tells 40 = .ok (.iastore, 1) := by decide +kernel
theorem dX8_tells_41 : decode cX8_tells 41 = .ok (.iinc 1 1, 3) := by decide +kernel
theorem dX8_tells_44 : decode cX8_tells 44 = .ok (.goto (-16), 3) := by decide +kernel
theorem dX8_tells_47 : decode cX8_tells 47 = .ok (.iconst 0, 1) := by decide +kernel
theorem dX8_tells_48 : decode cX8_tells 48 = .ok (.istore_n 1, 1) := by decide +kernel
theorem dX8_tells_49 : decode cX8_tells 49 = .ok (.iload_n 1, 1) := by decide +kernel
theorem dX8_tells_50 : decode cX8_tells 50 = .ok (.aload_n 0, 1) := by decide +kernel
theorem dX8_tells_51 : decode cX8_tells 51 = .ok (.getfield 13, 3) := by decide +kernel
theorem dX8_tells_54 : decode cX8_tells 54 = .ok (.iconst 0, 1) := by decide +kernel
theorem dX8_tells_55 : decode cX8_tells 55 = .ok (.iaload, 1) := by decide +kernel
theorem dX8_tells_56 : decode cX8_tells 56 = .ok (.if_icmp .ge 27, 3) := by decide +kernel
theorem dX8_tells_59 : decode cX8_tells 59 = .ok (.aload_n 0, 1) := by decide +kernel
theorem dX8_tells_60 : decode cX8_tells 60 = .ok (.getfield 19, 3) := by decide +kernel
theorem dX8_tells_63 : decode cX8_tells 63 = .ok (.bipush 8, 2) := by decide +kernel
theorem dX8_tells_65 : decode cX8_tells 65 = .ok (.iload_n 1, 1) := by decide +kernel
theorem dX8_tells_66 : decode cX8_tells 66 = .ok (.imul, 1) := by decide +kernel
theorem dX8_tells_67 : decode cX8_tells 67 = .ok (.aload_n 0, 1) := by decide +kernel
theorem dX8_tells_68 : decode cX8_tells 68 = .ok (.getfield 13, 3) := by decide +kernel
theorem dX8_tells_71 : decode cX8_tells 71 = .ok (.bipush 12, 2) := by decide +kernel
theorem dX8_tells_73 : decode cX8_tells 73 = .ok (.iload_n 1, 1) := by decide +kernel
theorem dX8_tells_74 : decode cX8_tells 74 = .ok (.iadd, 1) := by decide +kernel
theorem dX8_tells_75 : decode cX8_tells 75 = .ok (.iaload, 1) := by decide +kernel
theorem dX8_tells_76 : decode cX8_tells 76 = .ok (.iastore, 1) := by decide +kernel
theorem dX8_tells_77 : decode cX8_tells 77 = .ok (.iinc 1 1, 3) := by decide +kernel
theorem dX8_tells_80 : decode cX8_tells 80 = .ok (.goto (-31), 3) := by decide +kernel
theorem dX8_tells_83 : decode cX8_tells 83 = .ok (.aload_n 0, 1) := by decide +kernel
theorem dX8_tells_84 : decode cX8_tells 84 = .ok (.iconst 0, 1) := by decide +kernel
theorem dX8_tells_85 : decode cX8_tells 85 = .ok (.putfield 92, 3) := by decide +kernel
theorem dX8_tells_88 : decode cX8_tells 88 = .ok (.aload_n 0, 1) := by decide +kernel
theorem dX8_tells_89 : decode cX8_tells 89 = .ok (.iconst 0, 1) := by decide +kernel
theorem dX8_tells_90 : decode cX8_tells 90 = .ok (.putfield 95, 3) := by decide +kernel
theorem dX8_tells_93 : decode cX8_tells 93 = .ok (.aload_n 0, 1) := by decide +kernel
theorem dX8_tells_94 : decode cX8_tells 94 = .ok (.getfield 28, 3) := by decide +kernel
theorem dX8_tells_97 : decode cX8_tells 97 = .ok (.iconst 0, 1) := by decide +kernel
theorem dX8_tells_98 : decode cX8_tells 98 = .ok (.iconst 0, 1) := by decide +kernel
theorem dX8_tells_99 : decode cX8_tells 99 = .ok (.bastore, 1) := by decide +kernel
theorem dX8_tells_100 : decode cX8_tells 100 = .ok (.aload_n 0, 1) := by decide +kernel
theorem dX8_tells_101 : decode cX8_tells 101 = .ok (.getfield 28, 3) := by decide +kernel
theorem dX8_tells_104 : decode cX8_tells 104 = .ok (.iconst 1, 1) := by decide +kernel
theorem dX8_tells_105 : decode cX8_tells 105 = .ok (.iconst 0, 1) := by decide +kernel
theorem dX8_tells_106 : decode cX8_tells 106 = .ok (.bastore, 1) := by decide +kernel
theorem dX8_tells_107 : decode cX8_tells 107 = .ok (.return_, 1) := by decide +kernel
theorem dX8_house_0 : decode cX8_house 0 = .ok (.aload_n 0, 1) := by decide +kernel
theorem dX8_house_1 : decode cX8_house 1 = .ok (.invokevirtual 44, 3) := by decide +kernel
theorem dX8_house_4 : decode cX8_house 4 = .ok (.ifCond .ne 11, 3) := by decide +kernel
theorem dX8_house_7 : decode cX8_house 7 = .ok (.bipush (-10), 2) := by decide +kernel
theorem dX8_house_9 : decode cX8_house 9 = .ok (.aload_n 0, 1) := by decide +kernel
theorem dX8_house_10 : decode cX8_house 10 = .ok (.getfield 66, 3) := by decide +kernel
theorem dX8_house_13 : decode cX8_house 13 = .ok (.isub, 1) := by decide +kernel
theorem dX8_house_14 : decode cX8_house 14 = .ok (.ireturn, 1) := by decide +kernel
theorem dX8_house_15 : decode cX8_house 15 = .ok (.aload_n 0, 1) := by decide +kernel
theorem dX8_house_16 : decode cX8_house 16 = .ok (.invokevirtual 48, 3) := by decide +kernel
theorem dX8_house_19 : decode cX8_house 19 = .ok (.aload_n 0, 1) := by decide +kernel
theorem dX8_house_20 : decode cX8_house 20 = .ok (.iconst 0, 1) := by decide +kernel
theorem dX8_house_21 : decode cX8_house 21 = .ok (.putfield 55, 3) := by decide +kernel
theorem dX8_house_24 : decode cX8_house 24 = .ok (.aload_n 0, 1) := by decide +kernel
theorem dX8_house_25 : decode cX8_house 25 = .ok (.getfield 13, 3) := by decide +kernel
theorem dX8_house_28 : decode cX8_house 28 = .ok (.iconst 3, 1) := by decide +kernel
theorem dX8_house_29 : decode cX8_house 29 = .ok (.iaload, 1) := by decide +kernel
theorem dX8_house_30 : decode cX8_house 30 = .ok (.ireturn, 1) := by decide +kernel
theorem dX8_full_0 : decode cX8_full 0 = .ok (.iconst 0, 1) := by decide +kernel
theorem dX8_full_1 : decode cX8_full 1 = .ok (.istore_n 2, 1) := by decide +kernel
theorem dX8_full_2 : decode cX8_full 2 = .ok (.iconst 0, 1) := by decide +kernel
theorem dX8_full_3 : decode cX8_full 3 = .ok (.istore_n 3, 1) := by decide +kernel
theorem dX8_full_4 : decode cX8_full 4 = .ok (.iload_n 3, 1) := by decide +kernel
theorem dX8_full_5 : decode cX8_full 5 = .ok (.bipush 7, 2) := by decide +kernel
theorem dX8_full_7 : decode cX8_full 7 = .ok (.if_icmp .ge 23, 3) := by decide +kernel
theorem dX8_full_10 : decode cX8_full 10 = .ok (.iload_n 2, 1) := by decide +kernel
theorem dX8_full_11 : decode cX8_full 11 = .ok (.aload_n 0, 1) := by decide +kernel
theorem dX8_full_12 : decode cX8_full 12 = .ok (.getfield 19, 3) := by decide +kernel
theorem dX8_full_15 : decode cX8_full 15 = .ok (.bipush 7, 2) := by decide +kernel
theorem dX8_full_17 : decode cX8_full 17 = .ok (.iload_n 1, 1) := by decide +kernel
theorem dX8_full_18 : decode cX8_full 18 = .ok (.imul, 1) := by decide +kernel
theorem dX8_full_19 : decode cX8_full 19 = .ok (.iload_n 3, 1) := by decide +kernel
theorem dX8_full_20 : decode cX8_full 20 = .ok (.iadd, 1) := by decide +kernel
theorem dX8_full_21 : decode cX8_full 21 = .ok (.iaload, 1) := by decide +kernel
theorem dX8_full_22 : decode cX8_full 22 = .ok (.iadd, 1) := by decide +kernel
theorem dX8_full_23 : decode cX8_full 23 = .ok (.istore_n 2, 1) := by decide +kernel
theorem dX8_full_24 : decode cX8_full 24 = .ok (.iinc 3 1, 3) := by decide +kernel
theorem dX8_full_27 : decode cX8_full 27 = .ok (.goto (-23), 3) := by decide +kernel
theorem dX8_full_30 : decode cX8_full 30 = .ok (.iload_n 2, 1) := by decide +kernel
theorem dX8_full_31 : decode cX8_full 31 = .ok (.ireturn, 1) := by decide +kernel
theorem dX8_isRead_0 : decode cX8_isRead 0 = .ok (.aload_n 0, 1) := by decide +kernel
theorem dX8_isRead_1 : decode cX8_isRead 1 = .ok (.getfield 19, 3) := by decide +kernel
theorem dX8_isRead_4 : decode cX8_isRead 4 = .ok (.bipush 8, 2) := by decide +kernel
theorem dX8_isRead_6 : decode cX8_isRead 6 = .ok (.iload_n 1, 1) := by decide +kernel
theorem dX8_isRead_7 : decode cX8_isRead 7 = .ok (.imul, 1) := by decide +kernel
theorem dX8_isRead_8 : decode cX8_isRead 8 = .ok (.iaload, 1) := by decide +kernel
theorem dX8_isRead_9 : decode cX8_isRead 9 = .ok (.aload_n 0, 1) := by decide +kernel
theorem dX8_isRead_10 : decode cX8_isRead 10 = .ok (.getfield 13, 3) := by decide +kernel
theorem dX8_isRead_13 : decode cX8_isRead 13 = .ok (.iconst 1, 1) := by decide +kernel
theorem dX8_isRead_14 : decode cX8_isRead 14 = .ok (.iaload, 1) := by decide +kernel
theorem dX8_isRead_15 : decode cX8_isRead 15 = .ok (.if_icmp .lt 24, 3) := by decide +kernel
theorem dX8_isRead_18 : decode cX8_isRead 18 = .ok (.aload_n 0, 1) := by decide +kernel
theorem dX8_isRead_19 : decode cX8_isRead 19 = .ok (.iload_n 1, 1) := by decide +kernel
theorem dX8_isRead_20 : decode cX8_isRead 20 = .ok (.invokevirtual 98, 3) := by decide +kernel
theorem dX8_isRead_23 : decode cX8_isRead 23 = .ok (.aload_n 0, 1) := by decide +kernel
theorem dX8_isRead_24 : decode cX8_isRead 24 = .ok (.getfield 19, 3) := by decide +kernel
theorem dX8_isRead_27 : decode cX8_isRead 27 = .ok (.bipush 8, 2) := by decide +kernel
theorem dX8_isRead_29 : decode cX8_isRead 29 = .ok (.iload_n 1, 1) := by decide +kernel
theorem dX8_isRead_30 : decode cX8_isRead 30 = .ok (.imul, 1) := by decide +kernel
theorem dX8_isRead_31 : decode cX8_isRead 31 = .ok (.iaload, 1) := by decide +kernel
theorem dX8_isRead_32 : decode cX8_isRead 32 = .ok (.if_icmp .ne 7, 3) := by decide +kernel
theorem dX8_isRead_35 : decode cX8_isRead 35 = .ok (.iconst 1, 1) := by decide +kernel
theorem dX8_isRead_36 : decode cX8_isRead 36 = .ok (.goto 4, 3) := by decide +kernel
theorem dX8_isRead_39 : decode cX8_isRead 39 = .ok (.iconst 0, 1) := by decide +kernel
theorem dX8_isRead_40 : decode cX8_isRead 40 = .ok (.ireturn, 1) := by decide +kernel
theorem dX8_allRead_0 : decode cX8_allRead 0 = .ok (.iconst 0, 1) := by decide +kernel
theorem dX8_allRead_1 : decode cX8_allRead 1 = .ok (.istore_n 1, 1) := by decide +kernel
theorem dX8_allRead_2 : decode cX8_allRead 2 = .ok (.iconst 0, 1) := by decide +kernel
theorem dX8_allRead_3 : decode cX8_allRead 3 = .ok (.istore_n 2, 1) := by decide +kernel
theorem dX8_allRead_4 : decode cX8_allRead 4 = .ok (.iload_n 2, 1) := by decide +kernel
theorem dX8_allRead_5 : decode cX8_allRead 5 = .ok (.aload_n 0, 1) := by decide +kernel
theorem dX8_allRead_6 : decode cX8_allRead 6 = .ok (.getfield 13, 3) := by decide +kernel
theorem dX8_allRead_9 : decode cX8_allRead 9 = .ok (.iconst 0, 1) := by decide +kernel
theorem dX8_allRead_10 : decode cX8_allRead 10 = .ok (.iaload, 1) := by decide +kernel
theorem dX8_allRead_11 : decode cX8_allRead 11 = .ok (.if_icmp .ge 27, 3) := by decide +kernel
theorem dX8_allRead_14 : decode cX8_allRead 14 = .ok (.iload_n 1, 1) := by decide +kernel
theorem dX8_allRead_15 : decode cX8_allRead 15 = .ok (.aload_n 0, 1) := by decide +kernel
theorem dX8_allRead_16 : decode cX8_allRead 16 = .ok (.iload_n 2, 1) := by decide +kernel
theorem dX8_allRead_17 : decode cX8_allRead 17 = .ok (.invokevirtual 101, 3) := by decide +kernel
theorem dX8_allRead_20 : decode cX8_allRead 20 = .ok (.ifCond .eq 9, 3) := by decide +kernel
theorem dX8_allRead_23 : decode cX8_allRead 23 = .ok (.iconst 1, 1) := by decide +kernel
theorem dX8_allRead_24 : decode cX8_allRead 24 = .ok (.iload_n 2, 1) := by decide +kernel
theorem dX8_allRead_25 : decode cX8_allRead 25 = .ok (.ishl, 1) := by decide +kernel
theorem dX8_allRead_26 : decode cX8_allRead 26 = .ok (.goto 4, 3) := by decide +kernel
theorem dX8_allRead_29 : decode cX8_allRead 29 = .ok (.iconst 0, 1) := by decide +kernel
theorem dX8_allRead_30 : decode cX8_allRead 30 = .ok (.ior, 1) := by decide +kernel
theorem dX8_allRead_31 : decode cX8_allRead 31 = .ok (.istore_n 1, 1) := by decide +kernel
theorem dX8_allRead_32 : decode cX8_allRead 32 = .ok (.iinc 2 1, 3) := by decide +kernel
theorem dX8_allRead_35 : decode cX8_allRead 35 = .ok (.goto (-31), 3) := by decide +kernel
theorem dX8_allRead_38 : decode cX8_allRead 38 = .ok (.iload_n 1, 1) := by decide +kernel
theorem dX8_allRead_39 : decode cX8_allRead 39 = .ok (.ireturn, 1) := by decide +kernel
theorem dX8_pan_0 : decode cX8_pan 0 = .ok (.aload_n 0, 1) := by decide +kernel
theorem dX8_pan_1 : decode cX8_pan 1 = .ok (.iload_n 1, 1) := by decide +kernel
theorem dX8_pan_2 : decode cX8_pan 2 = .ok (.invokevirtual 104, 3) := by decide +kernel
theorem dX8_pan_5 : decode cX8_pan 5 = .ok (.ifCond .eq 13, 3) := by decide +kernel
theorem dX8_pan_8 : decode cX8_pan 8 = .ok (.iload_n 2, 1) := by decide +kernel
theorem dX8_pan_9 : decode cX8_pan 9 = .ok (.iconst 0, 1) := by decide +kernel
theorem dX8_pan_10 : decode cX8_pan 10 = .ok (.bipush 6, 2) := by decide +kernel
theorem dX8_pan_12 : decode cX8_pan 12 = .ok (.invokestatic 51, 3) := by decide +kernel
theorem dX8_pan_15 : decode cX8_pan 15 = .ok (.ifCond .ne 5, 3) := by decide +kernel
theorem dX8_pan_18 : decode cX8_pan 18 = .ok (.iconst (-1), 1) := by decide +kernel
theorem dX8_pan_19 : decode cX8_pan 19 = .ok (.ireturn, 1) := by decide +kernel
theorem dX8_pan_20 : decode cX8_pan 20 = .ok (.iconst 0, 1) := by decide +kernel
theorem dX8_pan_21 : decode cX8_pan 21 = .ok (.istore_n 3, 1) := by decide +kernel
theorem dX8_pan_22 : decode cX8_pan 22 = .ok (.iconst 0, 1) := by decide +kernel
theorem dX8_pan_23 : decode cX8_pan 23 = .ok (.istore 4, 2) := by decide +kernel
theorem dX8_pan_25 : decode cX8_pan 25 = .ok (.iconst 0, 1) := by decide +kernel
theorem dX8_pan_26 : decode cX8_pan 26 = .ok (.istore 5, 2) := by decide +kernel
theorem dX8_pan_28 : decode cX8_pan 28 = .ok (.iload 5, 2) := by decide +kernel
theorem dX8_pan_30 : decode cX8_pan 30 = .ok (.aload_n 0, 1) := by decide +kernel
theorem dX8_pan_31 : decode cX8_pan 31 = .ok (.getfield 13, 3) := by decide +kernel
theorem dX8_pan_34 : decode cX8_pan 34 = .ok (.iconst 0, 1) := by decide +kernel
theorem dX8_pan_35 : decode cX8_pan 35 = .ok (.iaload, 1) := by decide +kernel
theorem dX8_pan_36 : decode cX8_pan 36 = .ok (.if_icmp .ge 62, 3) := by decide +kernel
theorem dX8_pan_39 : decode cX8_pan 39 = .ok (.iload_n 3, 1) := by decide +kernel
theorem dX8_pan_40 : decode cX8_pan 40 = .ok (.aload_n 0, 1) := by decide +kernel
theorem dX8_pan_41 : decode cX8_pan 41 = .ok (.getfield 19, 3) := by decide +kernel
theorem dX8_pan_44 : decode cX8_pan 44 = .ok (.bipush 7, 2) := by decide +kernel
theorem dX8_pan_46 : decode cX8_pan 46 = .ok (.iload_n 1, 1) := by decide +kernel
theorem dX8_pan_47 : decode cX8_pan 47 = .ok (.imul, 1) := by decide +kernel
theorem dX8_pan_48 : decode cX8_pan 48 = .ok (.iload 5, 2) := by decide +kernel
theorem dX8_pan_50 : decode cX8_pan 50 = .ok (.iadd, 1) := by decide +kernel
theorem dX8_pan_51 : decode cX8_pan 51 = .ok (.iaload, 1) := by decide +kernel
theorem dX8_pan_52 : decode cX8_pan 52 = .ok (.aload_n 0, 1) := by decide +kernel
theorem dX8_pan_53 : decode cX8_pan 53 = .ok (.getfield 13, 3) := by decide +kernel
theorem dX8_pan_56 : decode cX8_pan 56 = .ok (.iconst 5, 1) := by decide +kernel
theorem dX8_pan_57 : decode cX8_pan 57 = .ok (.iload 5, 2) := by decide +kernel
theorem dX8_pan_59 : decode cX8_pan 59 = .ok (.iadd, 1) := by decide +kernel
theorem dX8_pan_60 : decode cX8_pan 60 = .ok (.iaload, 1) := by decide +kernel
theorem dX8_pan_61 : decode cX8_pan 61 = .ok (.imul, 1) := by decide +kernel
theorem dX8_pan_62 : decode cX8_pan 62 = .ok (.iadd, 1) := by decide +kernel
theorem dX8_pan_63 : decode cX8_pan 63 = .ok (.istore_n 3, 1) := by decide +kernel
theorem dX8_pan_64 : decode cX8_pan 64 = .ok (.iload 4, 2) := by decide +kernel
theorem dX8_pan_66 : decode cX8_pan 66 = .ok (.aload_n 0, 1) := by decide +kernel
theorem dX8_pan_67 : decode cX8_pan 67 = .ok (.getfield 19, 3) := by decide +kernel
theorem dX8_pan_70 : decode cX8_pan 70 = .ok (.bipush 7, 2) := by decide +kernel
theorem dX8_pan_72 : decode cX8_pan 72 = .ok (.iload 5, 2) := by decide +kernel
theorem dX8_pan_74 : decode cX8_pan 74 = .ok (.imul, 1) := by decide +kernel
theorem dX8_pan_75 : decode cX8_pan 75 = .ok (.iload_n 1, 1) := by decide +kernel
theorem dX8_pan_76 : decode cX8_pan 76 = .ok (.iadd, 1) := by decide +kernel
theorem dX8_pan_77 : decode cX8_pan 77 = .ok (.iaload, 1) := by decide +kernel
theorem dX8_pan_78 : decode cX8_pan 78 = .ok (.ifCond .le 10, 3) := by decide +kernel
theorem dX8_pan_81 : decode cX8_pan 81 = .ok (.iconst 1, 1) := by decide +kernel
theorem dX8_pan_82 : decode cX8_pan 82 = .ok (.iload 5, 2) := by decide +kernel
theorem dX8_pan_84 : decode cX8_pan 84 = .ok (.ishl, 1) := by decide +kernel
theorem dX8_pan_85 : decode cX8_pan 85 = .ok (.goto 4, 3) := by decide +kernel
theorem dX8_pan_88 : decode cX8_pan 88 = .ok (.iconst 0, 1) := by decide +kernel
theorem dX8_pan_89 : decode cX8_pan 89 = .ok (.ior, 1) := by decide +kernel
theorem dX8_pan_90 : decode cX8_pan 90 = .ok (.istore 4, 2) := by decide +kernel
theorem dX8_pan_92 : decode cX8_pan 92 = .ok (.iinc 5 1, 3) := by decide +kernel
theorem dX8_pan_95 : decode cX8_pan 95 = .ok (.goto (-67), 3) := by decide +kernel
theorem dX8_pan_98 : decode cX8_pan 98 = .ok (.iload_n 2, 1) := by decide +kernel
theorem dX8_pan_99 : decode cX8_pan 99 = .ok (.tableswitch 88 0 5 #[37, 46, 56, 66, 72, 86], 37) := by decide +kernel
theorem dX8_pan_136 : decode cX8_pan 136 = .ok (.aload_n 0, 1) := by decide +kernel
theorem dX8_pan_137 : decode cX8_pan 137 = .ok (.getfield 13, 3) := by decide +kernel
theorem dX8_pan_140 : decode cX8_pan 140 = .ok (.iconst 5, 1) := by decide +kernel
theorem dX8_pan_141 : decode cX8_pan 141 = .ok (.iload_n 1, 1) := by decide +kernel
theorem dX8_pan_142 : decode cX8_pan 142 = .ok (.iadd, 1) := by decide +kernel
theorem dX8_pan_143 : decode cX8_pan 143 = .ok (.iaload, 1) := by decide +kernel
theorem dX8_pan_144 : decode cX8_pan 144 = .ok (.ireturn, 1) := by decide +kernel
theorem dX8_pan_145 : decode cX8_pan 145 = .ok (.aload_n 0, 1) := by decide +kernel
theorem dX8_pan_146 : decode cX8_pan 146 = .ok (.getfield 13, 3) := by decide +kernel
theorem dX8_pan_149 : decode cX8_pan 149 = .ok (.bipush 19, 2) := by decide +kernel
theorem dX8_pan_151 : decode cX8_pan 151 = .ok (.iload_n 1, 1) := by decide +kernel
theorem dX8_pan_152 : decode cX8_pan 152 = .ok (.iadd, 1) := by decide +kernel
theorem dX8_pan_153 : decode cX8_pan 153 = .ok (.iaload, 1) := by decide +kernel
theorem dX8_pan_154 : decode cX8_pan 154 = .ok (.ireturn, 1) := by decide +kernel
theorem dX8_pan_155 : decode cX8_pan 155 = .ok (.aload_n 0, 1) := by decide +kernel
theorem dX8_pan_156 : decode cX8_pan 156 = .ok (.getfield 13, 3) := by decide +kernel
theorem dX8_pan_159 : decode cX8_pan 159 = .ok (.bipush 26, 2) := by decide +kernel
theorem dX8_pan_161 : decode cX8_pan 161 = .ok (.iload_n 1, 1) := by decide +kernel
theorem dX8_pan_162 : decode cX8_pan 162 = .ok (.iadd, 1) := by decide +kernel
theorem dX8_pan_163 : decode cX8_pan 163 = .ok (.iaload, 1) := by decide +kernel
theorem dX8_pan_164 : decode cX8_pan 164 = .ok (.ireturn, 1) := by decide +kernel
theorem dX8_pan_165 : decode cX8_pan 165 = .ok (.aload_n 0, 1) := by decide +kernel
theorem dX8_pan_166 : decode cX8_pan 166 = .ok (.iload_n 1, 1) := by decide +kernel
theorem dX8_pan_167 : decode cX8_pan 167 = .ok (.invokevirtual 98, 3) := by decide +kernel
theorem dX8_pan_170 : decode cX8_pan 170 = .ok (.ireturn, 1) := by decide +kernel
theorem dX8_pan_171 : decode cX8_pan 171 = .ok (.aload_n 0, 1) := by decide +kernel
theorem dX8_pan_172 : decode cX8_pan 172 = .ok (.iload_n 1, 1) := by decide +kernel
theorem dX8_pan_173 : decode cX8_pan 173 = .ok (.invokevirtual 101, 3) := by decide +kernel
theorem dX8_pan_176 : decode cX8_pan 176 = .ok (.ifCond .eq 7, 3) := by decide +kernel
theorem dX8_pan_179 : decode cX8_pan 179 = .ok (.iconst 1, 1) := by decide +kernel
theorem dX8_pan_180 : decode cX8_pan 180 = .ok (.goto 4, 3) := by decide +kernel
theorem dX8_pan_183 : decode cX8_pan 183 = .ok (.iconst 0, 1) := by decide +kernel
theorem dX8_pan_184 : decode cX8_pan 184 = .ok (.ireturn, 1) := by decide +kernel
theorem dX8_pan_185 : decode cX8_pan 185 = .ok (.iload_n 3, 1) := by decide +kernel
theorem dX8_pan_186 : decode cX8_pan 186 = .ok (.ireturn, 1) := by decide +kernel
theorem dX8_pan_187 : decode cX8_pan 187 = .ok (.iload 4, 2) := by decide +kernel
theorem dX8_pan_189 : decode cX8_pan 189 = .ok (.ireturn, 1) := by decide +kernel
theorem dX8_holds_0 : decode cX8_holds 0 = .ok (.aload_n 0, 1) := by decide +kernel
theorem dX8_holds_1 : decode cX8_holds 1 = .ok (.iload_n 1, 1) := by decide +kernel
theorem dX8_holds_2 : decode cX8_holds 2 = .ok (.invokevirtual 104, 3) := by decide +kernel
theorem dX8_holds_5 : decode cX8_holds 5 = .ok (.ifCond .eq 25, 3) := by decide +kernel
theorem dX8_holds_8 : decode cX8_holds 8 = .ok (.aload_n 0, 1) := by decide +kernel
theorem dX8_holds_9 : decode cX8_holds 9 = .ok (.iload_n 2, 1) := by decide +kernel
theorem dX8_holds_10 : decode cX8_holds 10 = .ok (.invokevirtual 104, 3) := by decide +kernel
theorem dX8_holds_13 : decode cX8_holds 13 = .ok (.ifCond .eq 17, 3) := by decide +kernel
theorem dX8_holds_16 : decode cX8_holds 16 = .ok (.aload_n 0, 1) := by decide +kernel
theorem dX8_holds_17 : decode cX8_holds 17 = .ok (.getfield 19, 3) := by decide +kernel
theorem dX8_holds_20 : decode cX8_holds 20 = .ok (.bipush 7, 2) := by decide +kernel
theorem dX8_holds_22 : decode cX8_holds 22 = .ok (.iload_n 1, 1) := by decide +kernel
theorem dX8_holds_23 : decode cX8_holds 23 = .ok (.imul, 1) := by decide +kernel
theorem dX8_holds_24 : decode cX8_holds 24 = .ok (.iload_n 2, 1) := by decide +kernel
theorem dX8_holds_25 : decode cX8_holds 25 = .ok (.iadd, 1) := by decide +kernel
theorem dX8_holds_26 : decode cX8_holds 26 = .ok (.iaload, 1) := by decide +kernel
theorem dX8_holds_27 : decode cX8_holds 27 = .ok (.goto 4, 3) := by decide +kernel
theorem dX8_holds_30 : decode cX8_holds 30 = .ok (.iconst (-1), 1) := by decide +kernel
theorem dX8_holds_31 : decode cX8_holds 31 = .ok (.ireturn, 1) := by decide +kernel
theorem dX8_all_0 : decode cX8_all 0 = .ok (.iconst 0, 1) := by decide +kernel
theorem dX8_all_1 : decode cX8_all 1 = .ok (.istore_n 1, 1) := by decide +kernel
theorem dX8_all_2 : decode cX8_all 2 = .ok (.iconst 0, 1) := by decide +kernel
theorem dX8_all_3 : decode cX8_all 3 = .ok (.istore_n 2, 1) := by decide +kernel
theorem dX8_all_4 : decode cX8_all 4 = .ok (.iload_n 2, 1) := by decide +kernel
theorem dX8_all_5 : decode cX8_all 5 = .ok (.aload_n 0, 1) := by decide +kernel
theorem dX8_all_6 : decode cX8_all 6 = .ok (.getfield 13, 3) := by decide +kernel
theorem dX8_all_9 : decode cX8_all 9 = .ok (.iconst 0, 1) := by decide +kernel
theorem dX8_all_10 : decode cX8_all 10 = .ok (.iaload, 1) := by decide +kernel
theorem dX8_all_11 : decode cX8_all 11 = .ok (.if_icmp .ge 17, 3) := by decide +kernel
theorem dX8_all_14 : decode cX8_all 14 = .ok (.iload_n 1, 1) := by decide +kernel
theorem dX8_all_15 : decode cX8_all 15 = .ok (.aload_n 0, 1) := by decide +kernel
theorem dX8_all_16 : decode cX8_all 16 = .ok (.iload_n 2, 1) := by decide +kernel
theorem dX8_all_17 : decode cX8_all 17 = .ok (.invokevirtual 98, 3) := by decide +kernel
theorem dX8_all_20 : decode cX8_all 20 = .ok (.iadd, 1) := by decide +kernel
theorem dX8_all_21 : decode cX8_all 21 = .ok (.istore_n 1, 1) := by decide +kernel
theorem dX8_all_22 : decode cX8_all 22 = .ok (.iinc 2 1, 3) := by decide +kernel
theorem dX8_all_25 : decode cX8_all 25 = .ok (.goto (-21), 3) := by decide +kernel
theorem dX8_all_28 : decode cX8_all 28 = .ok (.iload_n 1, 1) := by decide +kernel
theorem dX8_all_29 : decode cX8_all 29 = .ok (.ireturn, 1) := by decide +kernel
theorem dX8_wettest_0 : decode cX8_wettest 0 = .ok (.bipush (-9), 2) := by decide +kernel
theorem dX8_wettest_2 : decode cX8_wettest 2 = .ok (.istore_n 1, 1) := by decide +kernel
theorem dX8_wettest_3 : decode cX8_wettest 3 = .ok (.iconst 0, 1) := by decide +kernel
theorem dX8_wettest_4 : decode cX8_wettest 4 = .ok (.istore_n 2, 1) := by decide +kernel
theorem dX8_wettest_5 : decode cX8_wettest 5 = .ok (.iconst 0, 1) := by decide +kernel
theorem dX8_wettest_6 : decode cX8_wettest 6 = .ok (.istore_n 3, 1) := by decide +kernel
theorem dX8_wettest_7 : decode cX8_wettest 7 = .ok (.iload_n 3, 1) := by decide +kernel
theorem dX8_wettest_8 : decode cX8_wettest 8 = .ok (.aload_n 0, 1) := by decide +kernel
theorem dX8_wettest_9 : decode cX8_wettest 9 = .ok (.getfield 13, 3) := by decide +kernel
theorem dX8_wettest_12 : decode cX8_wettest 12 = .ok (.iconst 0, 1) := by decide +kernel
theorem dX8_wettest_13 : decode cX8_wettest 13 = .ok (.iaload, 1) := by decide +kernel
theorem dX8_wettest_14 : decode cX8_wettest 14 = .ok (.if_icmp .ge 160, 3) := by decide +kernel
theorem dX8_wettest_17 : decode cX8_wettest 17 = .ok (.iconst 0, 1) := by decide +kernel
theorem dX8_wettest_18 : decode cX8_wettest 18 = .ok (.istore 4, 2) := by decide +kernel
theorem dX8_wettest_20 : decode cX8_wettest 20 = .ok (.iconst 0, 1) := by decide +kernel
theorem dX8_wettest_21 : decode cX8_wettest 21 = .ok (.istore 5, 2) := by decide +kernel
theorem dX8_wettest_23 : decode cX8_wettest 23 = .ok (.iload 5, 2) := by decide +kernel
theorem dX8_wettest_25 : decode cX8_wettest 25 = .ok (.aload_n 0, 1) := by decide +kernel
theorem dX8_wettest_26 : decode cX8_wettest 26 = .ok (.getfield 13, 3) := by decide +kernel
theorem dX8_wettest_29 : decode cX8_wettest 29 = .ok (.iconst 0, 1) := by decide +kernel
theorem dX8_wettest_30 : decode cX8_wettest 30 = .ok (.iaload, 1) := by decide +kernel
theorem dX8_wettest_31 : decode cX8_wettest 31 = .ok (.if_icmp .ge 71, 3) := by decide +kernel
theorem dX8_wettest_34 : decode cX8_wettest 34 = .ok (.iconst 0, 1) := by decide +kernel
theorem dX8_wettest_35 : decode cX8_wettest 35 = .ok (.istore 6, 2) := by decide +kernel
theorem dX8_wettest_37 : decode cX8_wettest 37 = .ok (.iload 6, 2) := by decide +kernel
theorem dX8_wettest_39 : decode cX8_wettest 39 = .ok (.aload_n 0, 1) := by decide +kernel
theorem dX8_wettest_40 : decode cX8_wettest 40 = .ok (.getfield 13, 3) := by decide +kernel
theorem dX8_wettest_43 : decode cX8_wettest 43 = .ok (.iconst 0, 1) := by decide +kernel
theorem dX8_wettest_44 : decode cX8_wettest 44 = .ok (.iaload, 1) := by decide +kernel
theorem dX8_wettest_45 : decode cX8_wettest 45 = .ok (.if_icmp .ge 51, 3) := by decide +kernel
theorem dX8_wettest_48 : decode cX8_wettest 48 = .ok (.iload 4, 2) := by decide +kernel
theorem dX8_wettest_50 : decode cX8_wettest 50 = .ok (.aload_n 0, 1) := by decide +kernel
theorem dX8_wettest_51 : decode cX8_wettest 51 = .ok (.getfield 13, 3) := by decide +kernel
theorem dX8_wettest_54 : decode cX8_wettest 54 = .ok (.iconst 5, 1) := by decide +kernel
theorem dX8_wettest_55 : decode cX8_wettest 55 = .ok (.iload 5, 2) := by decide +kernel
theorem dX8_wettest_57 : decode cX8_wettest 57 = .ok (.iadd, 1) := by decide +kernel
theorem dX8_wettest_58 : decode cX8_wettest 58 = .ok (.iaload, 1) := by decide +kernel
theorem dX8_wettest_59 : decode cX8_wettest 59 = .ok (.aload_n 0, 1) := by decide +kernel
theorem dX8_wettest_60 : decode cX8_wettest 60 = .ok (.getfield 13, 3) := by decide +kernel
theorem dX8_wettest_63 : decode cX8_wettest 63 = .ok (.iconst 5, 1) := by decide +kernel
theorem dX8_wettest_64 : decode cX8_wettest 64 = .ok (.iload_n 3, 1) := by decide +kernel
theorem dX8_wettest_65 : decode cX8_wettest 65 = .ok (.iadd, 1) := by decide +kernel
theorem dX8_wettest_66 : decode cX8_wettest 66 = .ok (.iaload, 1) := by decide +kernel
theorem dX8_wettest_67 : decode cX8_wettest 67 = .ok (.if_icmp .ne 19, 3) := by decide +kernel
theorem dX8_wettest_70 : decode cX8_wettest 70 = .ok (.aload_n 0, 1) := by decide +kernel
theorem dX8_wettest_71 : decode cX8_wettest 71 = .ok (.getfield 19, 3) := by decide +kernel
theorem dX8_wettest_74 : decode cX8_wettest 74 = .ok (.bipush 7, 2) := by decide +kernel
theorem dX8_wettest_76 : decode cX8_wettest 76 = .ok (.iload 6, 2) := by decide +kernel
theorem dX8_wettest_78 : decode cX8_wettest 78 = .ok (.imul, 1) := by decide +kernel
theorem dX8_wettest_79 : decode cX8_wettest 79 = .ok (.iload 5, 2) := by decide +kernel
theorem dX8_wettest_81 : decode cX8_wettest 81 = .ok (.iadd, 1) := by decide +kernel
theorem dX8_wettest_82 : decode cX8_wettest 82 = .ok (.iaload, 1) := by decide +kernel
theorem dX8_wettest_83 : decode cX8_wettest 83 = .ok (.goto 4, 3) := by decide +kernel
theorem dX8_wettest_86 : decode cX8_wettest 86 = .ok (.iconst 0, 1) := by decide +kernel
theorem dX8_wettest_87 : decode cX8_wettest 87 = .ok (.iadd, 1) := by decide +kernel
theorem dX8_wettest_88 : decode cX8_wettest 88 = .ok (.istore 4, 2) := by decide +kernel
theorem dX8_wettest_90 : decode cX8_wettest 90 = .ok (.iinc 6 1, 3) := by decide +kernel
theorem dX8_wettest_93 : decode cX8_wettest 93 = .ok (.goto (-56), 3) := by decide +kernel
theorem dX8_wettest_96 : decode cX8_wettest 96 = .ok (.iinc 5 1, 3) := by decide +kernel
theorem dX8_wettest_99 : decode cX8_wettest 99 = .ok (.goto (-76), 3) := by decide +kernel
theorem dX8_wettest_102 : decode cX8_wettest 102 = .ok (.iload 4, 2) := by decide +kernel
theorem dX8_wettest_104 : decode cX8_wettest 104 = .ok (.iload_n 2, 1) := by decide +kernel
theorem dX8_wettest_105 : decode cX8_wettest 105 = .ok (.if_icmp .gt 26, 3) := by decide +kernel
theorem dX8_wettest_108 : decode cX8_wettest 108 = .ok (.iload 4, 2) := by decide +kernel
theorem dX8_wettest_110 : decode cX8_wettest 110 = .ok (.iload_n 2, 1) := by decide +kernel
theorem dX8_wettest_111 : decode cX8_wettest 111 = .ok (.if_icmp .ne 24, 3) := by decide +kernel
theorem dX8_wettest_114 : decode cX8_wettest 114 = .ok (.iload 4, 2) := by decide +kernel
theorem dX8_wettest_116 : decode cX8_wettest 116 = .ok (.ifCond .le 19, 3) := by decide +kernel
theorem dX8_wettest_119 : decode cX8_wettest 119 = .ok (.aload_n 0, 1) := by decide +kernel
theorem dX8_wettest_120 : decode cX8_wettest 120 = .ok (.getfield 13, 3) := by decide +kernel
theorem dX8_wettest_123 : decode cX8_wettest 123 = .ok (.iconst 5, 1) := by decide +kernel
theorem dX8_wettest_124 : decode cX8_wettest 124 = .ok (.iload_n 3, 1) := by decide +kernel
theorem dX8_wettest_125 : decode cX8_wettest 125 = .ok (.iadd, 1) := by decide +kernel
theorem dX8_wettest_126 : decode cX8_wettest 126 = .ok (.iaload, 1) := by decide +kernel
theorem dX8_wettest_127 : decode cX8_wettest 127 = .ok (.iload_n 1, 1) := by decide +kernel
theorem dX8_wettest_128 : decode cX8_wettest 128 = .ok (.if_icmp .ge 7, 3) := by decide +kernel
theorem dX8_wettest_131 : decode cX8_wettest 131 = .ok (.iconst 1, 1) := by decide +kernel
theorem dX8_wettest_132 : decode cX8_wettest 132 = .ok (.goto 4, 3) := by decide +kernel
theorem dX8_wettest_135 : decode cX8_wettest 135 = .ok (.iconst 0, 1) := by decide +kernel
theorem dX8_wettest_136 : decode cX8_wettest 136 = .ok (.istore 5, 2) := by decide +kernel
theorem dX8_wettest_138 : decode cX8_wettest 138 = .ok (.iload 5, 2) := by decide +kernel
theorem dX8_wettest_140 : decode cX8_wettest 140 = .ok (.ifCond .eq 14, 3) := by decide +kernel
theorem dX8_wettest_143 : decode cX8_wettest 143 = .ok (.aload_n 0, 1) := by decide +kernel
theorem dX8_wettest_144 : decode cX8_wettest 144 = .ok (.getfield 13, 3) := by decide +kernel
theorem dX8_wettest_147 : decode cX8_wettest 147 = .ok (.iconst 5, 1) := by decide +kernel
theorem dX8_wettest_148 : decode cX8_wettest 148 = .ok (.iload_n 3, 1) := by decide +kernel
theorem dX8_wettest_149 : decode cX8_wettest 149 = .ok (.iadd, 1) := by decide +kernel
theorem dX8_wettest_150 : decode cX8_wettest 150 = .ok (.iaload, 1) := by decide +kernel
theorem dX8_wettest_151 : decode cX8_wettest 151 = .ok (.goto 4, 3) := by decide +kernel
theorem dX8_wettest_154 : decode cX8_wettest 154 = .ok (.iload_n 1, 1) := by decide +kernel
theorem dX8_wettest_155 : decode cX8_wettest 155 = .ok (.istore_n 1, 1) := by decide +kernel
theorem dX8_wettest_156 : decode cX8_wettest 156 = .ok (.iload 5, 2) := by decide +kernel
theorem dX8_wettest_158 : decode cX8_wettest 158 = .ok (.ifCond .eq 8, 3) := by decide +kernel
theorem dX8_wettest_161 : decode cX8_wettest 161 = .ok (.iload 4, 2) := by decide +kernel
theorem dX8_wettest_163 : decode cX8_wettest 163 = .ok (.goto 4, 3) := by decide +kernel
theorem dX8_wettest_166 : decode cX8_wettest 166 = .ok (.iload_n 2, 1) := by decide +kernel
theorem dX8_wettest_167 : decode cX8_wettest 167 = .ok (.istore_n 2, 1) := by decide +kernel
theorem dX8_wettest_168 : decode cX8_wettest 168 = .ok (.iinc 3 1, 3) := by decide +kernel
theorem dX8_wettest_171 : decode cX8_wettest 171 = .ok (.goto (-164), 3) := by decide +kernel
theorem dX8_wettest_174 : decode cX8_wettest 174 = .ok (.iload_n 1, 1) := by decide +kernel
theorem dX8_wettest_175 : decode cX8_wettest 175 = .ok (.ireturn, 1) := by decide +kernel
theorem dX8_now_0 : decode cX8_now 0 = .ok (.iload_n 1, 1) := by decide +kernel
theorem dX8_now_1 : decode cX8_now 1 = .ok (.tableswitch 75 0 5 #[39, 47, 55, 60, 65, 70], 39) := by decide +kernel
theorem dX8_now_40 : decode cX8_now 40 = .ok (.aload_n 0, 1) := by decide +kernel
theorem dX8_now_41 : decode cX8_now 41 = .ok (.getfield 19, 3) := by decide +kernel
theorem dX8_now_44 : decode cX8_now 44 = .ok (.bipush 49, 2) := by decide +kernel
theorem dX8_now_46 : decode cX8_now 46 = .ok (.iaload, 1) := by decide +kernel
theorem dX8_now_47 : decode cX8_now 47 = .ok (.ireturn, 1) := by decide +kernel
theorem dX8_now_48 : decode cX8_now 48 = .ok (.aload_n 0, 1) := by decide +kernel
theorem dX8_now_49 : decode cX8_now 49 = .ok (.getfield 19, 3) := by decide +kernel
theorem dX8_now_52 : decode cX8_now 52 = .ok (.bipush 50, 2) := by decide +kernel
theorem dX8_now_54 : decode cX8_now 54 = .ok (.iaload, 1) := by decide +kernel
theorem dX8_now_55 : decode cX8_now 55 = .ok (.ireturn, 1) := by decide +kernel
theorem dX8_now_56 : decode cX8_now 56 = .ok (.aload_n 0, 1) := by decide +kernel
theorem dX8_now_57 : decode cX8_now 57 = .ok (.invokevirtual 107, 3) := by decide +kernel
theorem dX8_now_60 : decode cX8_now 60 = .ok (.ireturn, 1) := by decide +kernel
theorem dX8_now_61 : decode cX8_now 61 = .ok (.aload_n 0, 1) := by decide +kernel
theorem dX8_now_62 : decode cX8_now 62 = .ok (.invokevirtual 111, 3) := by decide +kernel
theorem dX8_now_65 : decode cX8_now 65 = .ok (.ireturn, 1) := by decide +kernel
theorem dX8_now_66 : decode cX8_now 66 = .ok (.aload_n 0, 1) := by decide +kernel
theorem dX8_now_67 : decode cX8_now 67 = .ok (.invokevirtual 114, 3) := by decide +kernel
theorem dX8_now_70 : decode cX8_now 70 = .ok (.ireturn, 1) := by decide +kernel
theorem dX8_now_71 : decode cX8_now 71 = .ok (.aload_n 0, 1) := by decide +kernel
theorem dX8_now_72 : decode cX8_now 72 = .ok (.getfield 92, 3) := by decide +kernel
theorem dX8_now_75 : decode cX8_now 75 = .ok (.ireturn, 1) := by decide +kernel
theorem dX8_now_76 : decode cX8_now 76 = .ok (.iconst (-1), 1) := by decide +kernel
theorem dX8_now_77 : decode cX8_now 77 = .ok (.ireturn, 1) := by decide +kernel
theorem dX8_keeps_0 : decode cX8_keeps 0 = .ok (.aload_n 0, 1) := by decide +kernel
theorem dX8_keeps_1 : decode cX8_keeps 1 = .ok (.getfield 92, 3) := by decide +kernel
theorem dX8_keeps_4 : decode cX8_keeps 4 = .ok (.bipush 10, 2) := by decide +kernel
theorem dX8_keeps_6 : decode cX8_keeps 6 = .ok (.if_icmp .ne 43, 3) := by decide +kernel
theorem dX8_keeps_9 : decode cX8_keeps 9 = .ok (.iconst 0, 1) := by decide +kernel
theorem dX8_keeps_10 : decode cX8_keeps 10 = .ok (.istore_n 1, 1) := by decide +kernel
theorem dX8_keeps_11 : decode cX8_keeps 11 = .ok (.iload_n 1, 1) := by decide +kernel
theorem dX8_keeps_12 : decode cX8_keeps 12 = .ok (.sipush 459, 3) := by decide +kernel
theorem dX8_keeps_15 : decode cX8_keeps 15 = .ok (.if_icmp .ge 24, 3) := by decide +kernel
theorem dX8_keeps_18 : decode cX8_keeps 18 = .ok (.aload_n 0, 1) := by decide +kernel
theorem dX8_keeps_19 : decode cX8_keeps 19 = .ok (.getfield 22, 3) := by decide +kernel
theorem dX8_keeps_22 : decode cX8_keeps 22 = .ok (.iload_n 1, 1) := by decide +kernel
theorem dX8_keeps_23 : decode cX8_keeps 23 = .ok (.aload_n 0, 1) := by decide +kernel
theorem dX8_keeps_24 : decode cX8_keeps 24 = .ok (.getfield 22, 3) := by decide +kernel
theorem dX8_keeps_27 : decode cX8_keeps 27 = .ok (.iload_n 1, 1) := by decide +kernel
theorem dX8_keeps_28 : decode cX8_keeps 28 = .ok (.bipush 51, 2) := by decide +kernel
theorem dX8_keeps_30 : decode cX8_keeps 30 = .ok (.iadd, 1) := by decide +kernel
theorem dX8_keeps_31 : decode cX8_keeps 31 = .ok (.iaload, 1) := by decide +kernel
theorem dX8_keeps_32 : decode cX8_keeps 32 = .ok (.iastore, 1) := by decide +kernel
theorem dX8_keeps_33 : decode cX8_keeps 33 = .ok (.iinc 1 1, 3) := by decide +kernel
theorem dX8_keeps_36 : decode cX8_keeps 36 = .ok (.goto (-25), 3) := by decide +kernel
theorem dX8_keeps_39 : decode cX8_keeps 39 = .ok (.aload_n 0, 1) := by decide +kernel
theorem dX8_keeps_40 : decode cX8_keeps 40 = .ok (.dup, 1) := by decide +kernel
theorem dX8_keeps_41 : decode cX8_keeps 41 = .ok (.getfield 92, 3) := by decide +kernel
theorem dX8_keeps_44 : decode cX8_keeps 44 = .ok (.iconst 1, 1) := by decide +kernel
theorem dX8_keeps_45 : decode cX8_keeps 45 = .ok (.isub, 1) := by decide +kernel
theorem dX8_keeps_46 : decode cX8_keeps 46 = .ok (.putfield 92, 3) := by decide +kernel
theorem dX8_keeps_49 : decode cX8_keeps 49 = .ok (.iconst 0, 1) := by decide +kernel
theorem dX8_keeps_50 : decode cX8_keeps 50 = .ok (.istore_n 1, 1) := by decide +kernel
theorem dX8_keeps_51 : decode cX8_keeps 51 = .ok (.iload_n 1, 1) := by decide +kernel
theorem dX8_keeps_52 : decode cX8_keeps 52 = .ok (.bipush 51, 2) := by decide +kernel
theorem dX8_keeps_54 : decode cX8_keeps 54 = .ok (.if_icmp .ge 29, 3) := by decide +kernel
theorem dX8_keeps_57 : decode cX8_keeps 57 = .ok (.aload_n 0, 1) := by decide +kernel
theorem dX8_keeps_58 : decode cX8_keeps 58 = .ok (.getfield 22, 3) := by decide +kernel
theorem dX8_keeps_61 : decode cX8_keeps 61 = .ok (.bipush 51, 2) := by decide +kernel
theorem dX8_keeps_63 : decode cX8_keeps 63 = .ok (.aload_n 0, 1) := by decide +kernel
theorem dX8_keeps_64 : decode cX8_keeps 64 = .ok (.getfield 92, 3) := by decide +kernel
theorem dX8_keeps_67 : decode cX8_keeps 67 = .ok (.imul, 1) := by decide +kernel
theorem dX8_keeps_68 : decode cX8_keeps 68 = .ok (.iload_n 1, 1) := by decide +kernel
theorem dX8_keeps_69 : decode cX8_keeps 69 = .ok (.iadd, 1) := by decide +kernel
theorem dX8_keeps_70 : decode cX8_keeps 70 = .ok (.aload_n 0, 1) := by decide +kernel
theorem dX8_keeps_71 : decode cX8_keeps 71 = .ok (.getfield 19, 3) := by decide +kernel
theorem dX8_keeps_74 : decode cX8_keeps 74 = .ok (.iload_n 1, 1) := by decide +kernel
theorem dX8_keeps_75 : decode cX8_keeps 75 = .ok (.iaload, 1) := by decide +kernel
theorem dX8_keeps_76 : decode cX8_keeps 76 = .ok (.iastore, 1) := by decide +kernel
theorem dX8_keeps_77 : decode cX8_keeps 77 = .ok (.iinc 1 1, 3) := by decide +kernel
theorem dX8_keeps_80 : decode cX8_keeps 80 = .ok (.goto (-29), 3) := by decide +kernel
theorem dX8_keeps_83 : decode cX8_keeps 83 = .ok (.aload_n 0, 1) := by decide +kernel
theorem dX8_keeps_84 : decode cX8_keeps 84 = .ok (.dup, 1) := by decide +kernel
theorem dX8_keeps_85 : decode cX8_keeps 85 = .ok (.getfield 92, 3) := by decide +kernel
theorem dX8_keeps_88 : decode cX8_keeps 88 = .ok (.iconst 1, 1) := by decide +kernel
theorem dX8_keeps_89 : decode cX8_keeps 89 = .ok (.iadd, 1) := by decide +kernel
theorem dX8_keeps_90 : decode cX8_keeps 90 = .ok (.putfield 92, 3) := by decide +kernel
theorem dX8_keeps_93 : decode cX8_keeps 93 = .ok (.return_, 1) := by decide +kernel
theorem dX8_takes_0 : decode cX8_takes 0 = .ok (.iconst (-1), 1) := by decide +kernel
theorem dX8_takes_1 : decode cX8_takes 1 = .ok (.istore_n 2, 1) := by decide +kernel
theorem dX8_takes_2 : decode cX8_takes 2 = .ok (.bipush 6, 2) := by decide +kernel
theorem dX8_takes_4 : decode cX8_takes 4 = .ok (.istore_n 3, 1) := by decide +kernel
theorem dX8_takes_5 : decode cX8_takes 5 = .ok (.iload_n 3, 1) := by decide +kernel
theorem dX8_takes_6 : decode cX8_takes 6 = .ok (.ifCond .lt 52, 3) := by decide +kernel
theorem dX8_takes_9 : decode cX8_takes 9 = .ok (.aload_n 0, 1) := by decide +kernel
theorem dX8_takes_10 : decode cX8_takes 10 = .ok (.getfield 19, 3) := by decide +kernel
theorem dX8_takes_13 : decode cX8_takes 13 = .ok (.bipush 7, 2) := by decide +kernel
theorem dX8_takes_15 : decode cX8_takes 15 = .ok (.iload_n 1, 1) := by decide +kernel
theorem dX8_takes_16 : decode cX8_takes 16 = .ok (.imul, 1) := by decide +kernel
theorem dX8_takes_17 : decode cX8_takes 17 = .ok (.iload_n 3, 1) := by decide +kernel
theorem dX8_takes_18 : decode cX8_takes 18 = .ok (.iadd, 1) := by decide +kernel
theorem dX8_takes_19 : decode cX8_takes 19 = .ok (.iaload, 1) := by decide +kernel
theorem dX8_takes_20 : decode cX8_takes 20 = .ok (.ifCond .le 30, 3) := by decide +kernel
theorem dX8_takes_23 : decode cX8_takes 23 = .ok (.iload_n 2, 1) := by decide +kernel
theorem dX8_takes_24 : decode cX8_takes 24 = .ok (.ifCond .lt 22, 3) := by decide +kernel
theorem dX8_takes_27 : decode cX8_takes 27 = .ok (.aload_n 0, 1) := by decide +kernel
theorem dX8_takes_28 : decode cX8_takes 28 = .ok (.getfield 13, 3) := by decide +kernel
theorem dX8_takes_31 : decode cX8_takes 31 = .ok (.iconst 5, 1) := by decide +kernel
theorem dX8_takes_32 : decode cX8_takes 32 = .ok (.iload_n 3, 1) := by decide +kernel
theorem dX8_takes_33 : decode cX8_takes 33 = .ok (.iadd, 1) := by decide +kernel
theorem dX8_takes_34 : decode cX8_takes 34 = .ok (.iaload, 1) := by decide +kernel
theorem dX8_takes_35 : decode cX8_takes 35 = .ok (.aload_n 0, 1) := by decide +kernel
theorem dX8_takes_36 : decode cX8_takes 36 = .ok (.getfield 13, 3) := by decide +kernel
theorem dX8_takes_39 : decode cX8_takes 39 = .ok (.iconst 5, 1) := by decide +kernel
theorem dX8_takes_40 : decode cX8_takes 40 = .ok (.iload_n 2, 1) := by decide +kernel
theorem dX8_takes_41 : decode cX8_takes 41 = .ok (.iadd, 1) := by decide +kernel
theorem dX8_takes_42 : decode cX8_takes 42 = .ok (.iaload, 1) := by decide +kernel
theorem dX8_takes_43 : decode cX8_takes 43 = .ok (.if_icmp .gt 7, 3) := by decide +kernel
theorem dX8_takes_46 : decode cX8_takes 46 = .ok (.iload_n 3, 1) := by decide +kernel
theorem dX8_takes_47 : decode cX8_takes 47 = .ok (.goto 4, 3) := by decide +kernel
theorem dX8_takes_50 : decode cX8_takes 50 = .ok (.iload_n 2, 1) := by decide +kernel
theorem dX8_takes_51 : decode cX8_takes 51 = .ok (.istore_n 2, 1) := by decide +kernel
theorem dX8_takes_52 : decode cX8_takes 52 = .ok (.iinc 3 (-1), 3) := by decide +kernel
theorem dX8_takes_55 : decode cX8_takes 55 = .ok (.goto (-50), 3) := by decide +kernel
theorem dX8_takes_58 : decode cX8_takes 58 = .ok (.iload_n 2, 1) := by decide +kernel
theorem dX8_takes_59 : decode cX8_takes 59 = .ok (.ifCond .lt 18, 3) := by decide +kernel
theorem dX8_takes_62 : decode cX8_takes 62 = .ok (.aload_n 0, 1) := by decide +kernel
theorem dX8_takes_63 : decode cX8_takes 63 = .ok (.getfield 19, 3) := by decide +kernel
theorem dX8_takes_66 : decode cX8_takes 66 = .ok (.bipush 7, 2) := by decide +kernel
theorem dX8_takes_68 : decode cX8_takes 68 = .ok (.iload_n 1, 1) := by decide +kernel
theorem dX8_takes_69 : decode cX8_takes 69 = .ok (.imul, 1) := by decide +kernel
theorem dX8_takes_70 : decode cX8_takes 70 = .ok (.iload_n 2, 1) := by decide +kernel
theorem dX8_takes_71 : decode cX8_takes 71 = .ok (.iadd, 1) := by decide +kernel
theorem dX8_takes_72 : decode cX8_takes 72 = .ok (.dup2, 1) := by decide +kernel
theorem dX8_takes_73 : decode cX8_takes 73 = .ok (.iaload, 1) := by decide +kernel
theorem dX8_takes_74 : decode cX8_takes 74 = .ok (.iconst 1, 1) := by decide +kernel
theorem dX8_takes_75 : decode cX8_takes 75 = .ok (.isub, 1) := by decide +kernel
theorem dX8_takes_76 : decode cX8_takes 76 = .ok (.iastore, 1) := by decide +kernel
theorem dX8_takes_77 : decode cX8_takes 77 = .ok (.iload_n 2, 1) := by decide +kernel
theorem dX8_takes_78 : decode cX8_takes 78 = .ok (.ireturn, 1) := by decide +kernel
theorem dX8_goes_0 : decode cX8_goes 0 = .ok (.iconst 0, 1) := by decide +kernel
theorem dX8_goes_1 : decode cX8_goes 1 = .ok (.istore 4, 2) := by decide +kernel
theorem dX8_goes_3 : decode cX8_goes 3 = .ok (.iload_n 2, 1) := by decide +kernel
theorem dX8_goes_4 : decode cX8_goes 4 = .ok (.ifCond .le 11, 3) := by decide +kernel
theorem dX8_goes_7 : decode cX8_goes 7 = .ok (.aload_n 0, 1) := by decide +kernel
theorem dX8_goes_8 : decode cX8_goes 8 = .ok (.iload_n 1, 1) := by decide +kernel
theorem dX8_goes_9 : decode cX8_goes 9 = .ok (.invokevirtual 117, 3) := by decide +kernel
theorem dX8_goes_12 : decode cX8_goes 12 = .ok (.goto 4, 3) := by decide +kernel
theorem dX8_goes_15 : decode cX8_goes 15 = .ok (.iconst (-1), 1) := by decide +kernel
theorem dX8_goes_16 : decode cX8_goes 16 = .ok (.istore 5, 2) := by decide +kernel
theorem dX8_goes_18 : decode cX8_goes 18 = .ok (.iload 5, 2) := by decide +kernel
theorem dX8_goes_20 : decode cX8_goes 20 = .ok (.ifCond .lt 60, 3) := by decide +kernel
theorem dX8_goes_23 : decode cX8_goes 23 = .ok (.iload_n 3, 1) := by decide +kernel
theorem dX8_goes_24 : decode cX8_goes 24 = .ok (.ifCond .lt 22, 3) := by decide +kernel
theorem dX8_goes_27 : decode cX8_goes 27 = .ok (.aload_n 0, 1) := by decide +kernel
theorem dX8_goes_28 : decode cX8_goes 28 = .ok (.getfield 19, 3) := by decide +kernel
theorem dX8_goes_31 : decode cX8_goes 31 = .ok (.bipush 7, 2) := by decide +kernel
theorem dX8_goes_33 : decode cX8_goes 33 = .ok (.iload_n 3, 1) := by decide +kernel
theorem dX8_goes_34 : decode cX8_goes 34 = .ok (.imul, 1) := by decide +kernel
theorem dX8_goes_35 : decode cX8_goes 35 = .ok (.iload 5, 2) := by decide +kernel
theorem dX8_goes_37 : decode cX8_goes 37 = .ok (.iadd, 1) := by decide +kernel
theorem dX8_goes_38 : decode cX8_goes 38 = .ok (.dup2, 1) := by decide +kernel
theorem dX8_goes_39 : decode cX8_goes 39 = .ok (.iaload, 1) := by decide +kernel
theorem dX8_goes_40 : decode cX8_goes 40 = .ok (.iconst 1, 1) := by decide +kernel
theorem dX8_goes_41 : decode cX8_goes 41 = .ok (.iadd, 1) := by decide +kernel
theorem dX8_goes_42 : decode cX8_goes 42 = .ok (.iastore, 1) := by decide +kernel
theorem dX8_goes_43 : decode cX8_goes 43 = .ok (.goto 14, 3) := by decide +kernel
theorem dX8_goes_46 : decode cX8_goes 46 = .ok (.aload_n 0, 1) := by decide +kernel
theorem dX8_goes_47 : decode cX8_goes 47 = .ok (.getfield 19, 3) := by decide +kernel
theorem dX8_goes_50 : decode cX8_goes 50 = .ok (.bipush 50, 2) := by decide +kernel
theorem dX8_goes_52 : decode cX8_goes 52 = .ok (.dup2, 1) := by decide +kernel
theorem dX8_goes_53 : decode cX8_goes 53 = .ok (.iaload, 1) := by decide +kernel
theorem dX8_goes_54 : decode cX8_goes 54 = .ok (.iconst 1, 1) := by decide +kernel
theorem dX8_goes_55 : decode cX8_goes 55 = .ok (.iadd, 1) := by decide +kernel
theorem dX8_goes_56 : decode cX8_goes 56 = .ok (.iastore, 1) := by decide +kernel
theorem dX8_goes_57 : decode cX8_goes 57 = .ok (.iinc 4 1, 3) := by decide +kernel
theorem dX8_goes_60 : decode cX8_goes 60 = .ok (.iload 4, 2) := by decide +kernel
theorem dX8_goes_62 : decode cX8_goes 62 = .ok (.iload_n 2, 1) := by decide +kernel
theorem dX8_goes_63 : decode cX8_goes 63 = .ok (.if_icmp .ge 11, 3) := by decide +kernel
theorem dX8_goes_66 : decode cX8_goes 66 = .ok (.aload_n 0, 1) := by decide +kernel
theorem dX8_goes_67 : decode cX8_goes 67 = .ok (.iload_n 1, 1) := by decide +kernel
theorem dX8_goes_68 : decode cX8_goes 68 = .ok (.invokevirtual 117, 3) := by decide +kernel
theorem dX8_goes_71 : decode cX8_goes 71 = .ok (.goto 4, 3) := by decide +kernel
theorem dX8_goes_74 : decode cX8_goes 74 = .ok (.iconst (-1), 1) := by decide +kernel
theorem dX8_goes_75 : decode cX8_goes 75 = .ok (.istore 5, 2) := by decide +kernel
theorem dX8_goes_77 : decode cX8_goes 77 = .ok (.goto (-59), 3) := by decide +kernel
theorem dX8_goes_80 : decode cX8_goes 80 = .ok (.iload 4, 2) := by decide +kernel
theorem dX8_goes_82 : decode cX8_goes 82 = .ok (.ireturn, 1) := by decide +kernel
theorem dX8_uses_0 : decode cX8_uses 0 = .ok (.aload_n 0, 1) := by decide +kernel
theorem dX8_uses_1 : decode cX8_uses 1 = .ok (.iload_n 1, 1) := by decide +kernel
theorem dX8_uses_2 : decode cX8_uses 2 = .ok (.invokevirtual 104, 3) := by decide +kernel
theorem dX8_uses_5 : decode cX8_uses 5 = .ok (.ifCond .eq 13, 3) := by decide +kernel
theorem dX8_uses_8 : decode cX8_uses 8 = .ok (.iload_n 2, 1) := by decide +kernel
theorem dX8_uses_9 : decode cX8_uses 9 = .ok (.iconst 1, 1) := by decide +kernel
theorem dX8_uses_10 : decode cX8_uses 10 = .ok (.bipush 99, 2) := by decide +kernel
theorem dX8_uses_12 : decode cX8_uses 12 = .ok (.invokestatic 51, 3) := by decide +kernel
theorem dX8_uses_15 : decode cX8_uses 15 = .ok (.ifCond .ne 5, 3) := by decide +kernel
theorem dX8_uses_18 : decode cX8_uses 18 = .ok (.iconst (-1), 1) := by decide +kernel
theorem dX8_uses_19 : decode cX8_uses 19 = .ok (.ireturn, 1) := by decide +kernel
theorem dX8_uses_20 : decode cX8_uses 20 = .ok (.aload_n 0, 1) := by decide +kernel
theorem dX8_uses_21 : decode cX8_uses 21 = .ok (.iload_n 1, 1) := by decide +kernel
theorem dX8_uses_22 : decode cX8_uses 22 = .ok (.invokevirtual 98, 3) := by decide +kernel
theorem dX8_uses_25 : decode cX8_uses 25 = .ok (.ifCond .ne 6, 3) := by decide +kernel
theorem dX8_uses_28 : decode cX8_uses 28 = .ok (.bipush (-2), 2) := by decide +kernel
theorem dX8_uses_30 : decode cX8_uses 30 = .ok (.ireturn, 1) := by decide +kernel
theorem dX8_uses_31 : decode cX8_uses 31 = .ok (.aload_n 0, 1) := by decide +kernel
theorem dX8_uses_32 : decode cX8_uses 32 = .ok (.invokevirtual 120, 3) := by decide +kernel
theorem dX8_uses_35 : decode cX8_uses 35 = .ok (.aload_n 0, 1) := by decide +kernel
theorem dX8_uses_36 : decode cX8_uses 36 = .ok (.iload_n 1, 1) := by decide +kernel
theorem dX8_uses_37 : decode cX8_uses 37 = .ok (.iload_n 2, 1) := by decide +kernel
theorem dX8_uses_38 : decode cX8_uses 38 = .ok (.iconst (-1), 1) := by decide +kernel
theorem dX8_uses_39 : decode cX8_uses 39 = .ok (.invokevirtual 123, 3) := by decide +kernel
theorem dX8_uses_42 : decode cX8_uses 42 = .ok (.ireturn, 1) := by decide +kernel
theorem dX8_pours_0 : decode cX8_pours 0 = .ok (.aload_n 0, 1) := by decide +kernel
theorem dX8_pours_1 : decode cX8_pours 1 = .ok (.iload_n 1, 1) := by decide +kernel
theorem dX8_pours_2 : decode cX8_pours 2 = .ok (.invokevirtual 104, 3) := by decide +kernel
theorem dX8_pours_5 : decode cX8_pours 5 = .ok (.ifCond .eq 26, 3) := by decide +kernel
theorem dX8_pours_8 : decode cX8_pours 8 = .ok (.aload_n 0, 1) := by decide +kernel
theorem dX8_pours_9 : decode cX8_pours 9 = .ok (.iload_n 2, 1) := by decide +kernel
theorem dX8_pours_10 : decode cX8_pours 10 = .ok (.invokevirtual 104, 3) := by decide +kernel
theorem dX8_pours_13 : decode cX8_pours 13 = .ok (.ifCond .eq 18, 3) := by decide +kernel
theorem dX8_pours_16 : decode cX8_pours 16 = .ok (.iload_n 1, 1) := by decide +kernel
theorem dX8_pours_17 : decode cX8_pours 17 = .ok (.iload_n 2, 1) := by decide +kernel
theorem dX8_pours_18 : decode cX8_pours 18 = .ok (.if_icmp .eq 13, 3) := by decide +kernel
theorem dX8_pours_21 : decode cX8_pours 21 = .ok (.iload_n 3, 1) := by decide +kernel
theorem dX8_pours_22 : decode cX8_pours 22 = .ok (.iconst 1, 1) := by decide +kernel
theorem dX8_pours_23 : decode cX8_pours 23 = .ok (.bipush 99, 2) := by decide +kernel
theorem dX8_pours_25 : decode cX8_pours 25 = .ok (.invokestatic 51, 3) := by decide +kernel
theorem dX8_pours_28 : decode cX8_pours 28 = .ok (.ifCond .ne 5, 3) := by decide +kernel
theorem dX8_pours_31 : decode cX8_pours 31 = .ok (.iconst (-1), 1) := by decide +kernel
theorem dX8_pours_32 : decode cX8_pours 32 = .ok (.ireturn, 1) := by decide +kernel
theorem dX8_pours_33 : decode cX8_pours 33 = .ok (.aload_n 0, 1) := by decide +kernel
theorem dX8_pours_34 : decode cX8_pours 34 = .ok (.iload_n 1, 1) := by decide +kernel
theorem dX8_pours_35 : decode cX8_pours 35 = .ok (.invokevirtual 98, 3) := by decide +kernel
theorem dX8_pours_38 : decode cX8_pours 38 = .ok (.ifCond .ne 6, 3) := by decide +kernel
theorem dX8_pours_41 : decode cX8_pours 41 = .ok (.bipush (-2), 2) := by decide +kernel
theorem dX8_pours_43 : decode cX8_pours 43 = .ok (.ireturn, 1) := by decide +kernel
theorem dX8_pours_44 : decode cX8_pours 44 = .ok (.aload_n 0, 1) := by decide +kernel
theorem dX8_pours_45 : decode cX8_pours 45 = .ok (.invokevirtual 120, 3) := by decide +kernel
theorem dX8_pours_48 : decode cX8_pours 48 = .ok (.aload_n 0, 1) := by decide +kernel
theorem dX8_pours_49 : decode cX8_pours 49 = .ok (.iload_n 1, 1) := by decide +kernel
theorem dX8_pours_50 : decode cX8_pours 50 = .ok (.iload_n 3, 1) := by decide +kernel
theorem dX8_pours_51 : decode cX8_pours 51 = .ok (.iload_n 2, 1) := by decide +kernel
theorem dX8_pours_52 : decode cX8_pours 52 = .ok (.invokevirtual 123, 3) := by decide +kernel
theorem dX8_pours_55 : decode cX8_pours 55 = .ok (.ireturn, 1) := by decide +kernel
theorem dX8_springs_0 : decode cX8_springs 0 = .ok (.iconst 0, 1) := by decide +kernel
theorem dX8_springs_1 : decode cX8_springs 1 = .ok (.istore_n 1, 1) := by decide +kernel
theorem dX8_springs_2 : decode cX8_springs 2 = .ok (.iconst 0, 1) := by decide +kernel
theorem dX8_springs_3 : decode cX8_springs 3 = .ok (.istore_n 2, 1) := by decide +kernel
theorem dX8_springs_4 : decode cX8_springs 4 = .ok (.iload_n 2, 1) := by decide +kernel
theorem dX8_springs_5 : decode cX8_springs 5 = .ok (.aload_n 0, 1) := by decide +kernel
theorem dX8_springs_6 : decode cX8_springs 6 = .ok (.getfield 13, 3) := by decide +kernel
theorem dX8_springs_9 : decode cX8_springs 9 = .ok (.iconst 0, 1) := by decide +kernel
theorem dX8_springs_10 : decode cX8_springs 10 = .ok (.iaload, 1) := by decide +kernel
theorem dX8_springs_11 : decode cX8_springs 11 = .ok (.if_icmp .ge 27, 3) := by decide +kernel
theorem dX8_springs_14 : decode cX8_springs 14 = .ok (.iload_n 1, 1) := by decide +kernel
theorem dX8_springs_15 : decode cX8_springs 15 = .ok (.aload_n 0, 1) := by decide +kernel
theorem dX8_springs_16 : decode cX8_springs 16 = .ok (.iload_n 2, 1) := by decide +kernel
theorem dX8_springs_17 : decode cX8_springs 17 = .ok (.aload_n 0, 1) := by decide +kernel
theorem dX8_springs_18 : decode cX8_springs 18 = .ok (.getfield 13, 3) := by decide +kernel
theorem dX8_springs_21 : decode cX8_springs 21 = .ok (.bipush 19, 2) := by decide +kernel
theorem dX8_springs_23 : decode cX8_springs 23 = .ok (.iload_n 2, 1) := by decide +kernel
theorem dX8_springs_24 : decode cX8_springs 24 = .ok (.iadd, 1) := by decide +kernel
theorem dX8_springs_25 : decode cX8_springs 25 = .ok (.iaload, 1) := by decide +kernel
theorem dX8_springs_26 : decode cX8_springs 26 = .ok (.iconst (-1), 1) := by decide +kernel
theorem dX8_springs_27 : decode cX8_springs 27 = .ok (.invokevirtual 123, 3) := by decide +kernel
theorem dX8_springs_30 : decode cX8_springs 30 = .ok (.iadd, 1) := by decide +kernel
theorem dX8_springs_31 : decode cX8_springs 31 = .ok (.istore_n 1, 1) := by decide +kernel
theorem dX8_springs_32 : decode cX8_springs 32 = .ok (.iinc 2 1, 3) := by decide +kernel
theorem dX8_springs_35 : decode cX8_springs 35 = .ok (.goto (-31), 3) := by decide +kernel
theorem dX8_springs_38 : decode cX8_springs 38 = .ok (.aload_n 0, 1) := by decide +kernel
theorem dX8_springs_39 : decode cX8_springs 39 = .ok (.getfield 19, 3) := by decide +kernel
theorem dX8_springs_42 : decode cX8_springs 42 = .ok (.bipush 49, 2) := by decide +kernel
theorem dX8_springs_44 : decode cX8_springs 44 = .ok (.dup2, 1) := by decide +kernel
theorem dX8_springs_45 : decode cX8_springs 45 = .ok (.iaload, 1) := by decide +kernel
theorem dX8_springs_46 : decode cX8_springs 46 = .ok (.iconst 1, 1) := by decide +kernel
theorem dX8_springs_47 : decode cX8_springs 47 = .ok (.iadd, 1) := by decide +kernel
theorem dX8_springs_48 : decode cX8_springs 48 = .ok (.iastore, 1) := by decide +kernel
theorem dX8_springs_49 : decode cX8_springs 49 = .ok (.iload_n 1, 1) := by decide +kernel
theorem dX8_springs_50 : decode cX8_springs 50 = .ok (.ireturn, 1) := by decide +kernel
theorem dX8_spring_0 : decode cX8_spring 0 = .ok (.aload_n 0, 1) := by decide +kernel
theorem dX8_spring_1 : decode cX8_spring 1 = .ok (.getfield 19, 3) := by decide +kernel
theorem dX8_spring_4 : decode cX8_spring 4 = .ok (.bipush 49, 2) := by decide +kernel
theorem dX8_spring_6 : decode cX8_spring 6 = .ok (.iaload, 1) := by decide +kernel
theorem dX8_spring_7 : decode cX8_spring 7 = .ok (.sipush 999, 3) := by decide +kernel
theorem dX8_spring_10 : decode cX8_spring 10 = .ok (.if_icmp .ne 6, 3) := by decide +kernel
theorem dX8_spring_13 : decode cX8_spring 13 = .ok (.bipush (-2), 2) := by decide +kernel
theorem dX8_spring_15 : decode cX8_spring 15 = .ok (.ireturn, 1) := by decide +kernel
theorem dX8_spring_16 : decode cX8_spring 16 = .ok (.aload_n 0, 1) := by decide +kernel
theorem dX8_spring_17 : decode cX8_spring 17 = .ok (.invokevirtual 120, 3) := by decide +kernel
theorem dX8_spring_20 : decode cX8_spring 20 = .ok (.aload_n 0, 1) := by decide +kernel
theorem dX8_spring_21 : decode cX8_spring 21 = .ok (.invokevirtual 127, 3) := by decide +kernel
theorem dX8_spring_24 : decode cX8_spring 24 = .ok (.ireturn, 1) := by decide +kernel
theorem dX8_splits_0 : decode cX8_splits 0 = .ok (.aload_n 0, 1) := by decide +kernel
theorem dX8_splits_1 : decode cX8_splits 1 = .ok (.iload_n 1, 1) := by decide +kernel
theorem dX8_splits_2 : decode cX8_splits 2 = .ok (.invokevirtual 104, 3) := by decide +kernel
theorem dX8_splits_5 : decode cX8_splits 5 = .ok (.ifCond .ne 5, 3) := by decide +kernel
theorem dX8_splits_8 : decode cX8_splits 8 = .ok (.iconst (-1), 1) := by decide +kernel
theorem dX8_splits_9 : decode cX8_splits 9 = .ok (.ireturn, 1) := by decide +kernel
theorem dX8_splits_10 : decode cX8_splits 10 = .ok (.aload_n 0, 1) := by decide +kernel
theorem dX8_splits_11 : decode cX8_splits 11 = .ok (.iload_n 1, 1) := by decide +kernel
theorem dX8_splits_12 : decode cX8_splits 12 = .ok (.invokevirtual 98, 3) := by decide +kernel
theorem dX8_splits_15 : decode cX8_splits 15 = .ok (.istore_n 2, 1) := by decide +kernel
theorem dX8_splits_16 : decode cX8_splits 16 = .ok (.iload_n 2, 1) := by decide +kernel
theorem dX8_splits_17 : decode cX8_splits 17 = .ok (.ifCond .ne 6, 3) := by decide +kernel
theorem dX8_splits_20 : decode cX8_splits 20 = .ok (.bipush (-2), 2) := by decide +kernel
theorem dX8_splits_22 : decode cX8_splits 22 = .ok (.ireturn, 1) := by decide +kernel
theorem dX8_splits_23 : decode cX8_splits 23 = .ok (.aload_n 0, 1) := by decide +kernel
theorem dX8_splits_24 : decode cX8_splits 24 = .ok (.invokevirtual 120, 3) := by decide +kernel
theorem dX8_splits_27 : decode cX8_splits 27 = .ok (.aload_n 0, 1) := by decide +kernel
theorem dX8_splits_28 : decode cX8_splits 28 = .ok (.iload_n 1, 1) := by decide +kernel
theorem dX8_splits_29 : decode cX8_splits 29 = .ok (.iload_n 2, 1) := by decide +kernel
theorem dX8_splits_30 : decode cX8_splits 30 = .ok (.iconst (-1), 1) := by decide +kernel
theorem dX8_splits_31 : decode cX8_splits 31 = .ok (.invokevirtual 123, 3) := by decide +kernel
theorem dX8_splits_34 : decode cX8_splits 34 = .ok (.ireturn, 1) := by decide +kernel
theorem dX8_undo_0 : decode cX8_undo 0 = .ok (.aload_n 0, 1) := by decide +kernel
theorem dX8_undo_1 : decode cX8_undo 1 = .ok (.getfield 92, 3) := by decide +kernel
theorem dX8_undo_4 : decode cX8_undo 4 = .ok (.ifCond .ne 6, 3) := by decide +kernel
theorem dX8_undo_7 : decode cX8_undo 7 = .ok (.bipush (-2), 2) := by decide +kernel
theorem dX8_undo_9 : decode cX8_undo 9 = .ok (.ireturn, 1) := by decide +kernel
