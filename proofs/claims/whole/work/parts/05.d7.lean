theorem dX7_init_0 : decode cX7_init 0 = .ok (.aload_n 0, 1) := by decide +kernel
theorem dX7_init_1 : decode cX7_init 1 = .ok (.invokespecial 1, 3) := by decide +kernel
theorem dX7_init_4 : decode cX7_init 4 = .ok (.aload_n 0, 1) := by decide +kernel
theorem dX7_init_5 : decode cX7_init 5 = .ok (.new 7, 3) := by decide +kernel
theorem dX7_init_8 : decode cX7_init 8 = .ok (.dup, 1) := by decide +kernel
theorem dX7_init_9 : decode cX7_init 9 = .ok (.invokespecial 9, 3) := by decide +kernel
theorem dX7_init_12 : decode cX7_init 12 = .ok (.putfield 10, 3) := by decide +kernel
theorem dX7_init_15 : decode cX7_init 15 = .ok (.aload_n 0, 1) := by decide +kernel
theorem dX7_init_16 : decode cX7_init 16 = .ok (.new 16, 3) := by decide +kernel
theorem dX7_init_19 : decode cX7_init 19 = .ok (.dup, 1) := by decide +kernel
theorem dX7_init_20 : decode cX7_init 20 = .ok (.invokespecial 18, 3) := by decide +kernel
theorem dX7_init_23 : decode cX7_init 23 = .ok (.putfield 19, 3) := by decide +kernel
theorem dX7_init_26 : decode cX7_init 26 = .ok (.aload_n 0, 1) := by decide +kernel
theorem dX7_init_27 : decode cX7_init 27 = .ok (.new 23, 3) := by decide +kernel
theorem dX7_init_30 : decode cX7_init 30 = .ok (.dup, 1) := by decide +kernel
theorem dX7_init_31 : decode cX7_init 31 = .ok (.aload_n 0, 1) := by decide +kernel
theorem dX7_init_32 : decode cX7_init 32 = .ok (.getfield 10, 3) := by decide +kernel
theorem dX7_init_35 : decode cX7_init 35 = .ok (.invokespecial 25, 3) := by decide +kernel
theorem dX7_init_38 : decode cX7_init 38 = .ok (.putfield 28, 3) := by decide +kernel
theorem dX7_init_41 : decode cX7_init 41 = .ok (.aload_n 0, 1) := by decide +kernel
theorem dX7_init_42 : decode cX7_init 42 = .ok (.new 32, 3) := by decide +kernel
theorem dX7_init_45 : decode cX7_init 45 = .ok (.dup, 1) := by decide +kernel
theorem dX7_init_46 : decode cX7_init 46 = .ok (.aload_n 0, 1) := by decide +kernel
theorem dX7_init_47 : decode cX7_init 47 = .ok (.getfield 10, 3) := by decide +kernel
theorem dX7_init_50 : decode cX7_init 50 = .ok (.invokespecial 34, 3) := by decide +kernel
theorem dX7_init_53 : decode cX7_init 53 = .ok (.putfield 35, 3) := by decide +kernel
theorem dX7_init_56 : decode cX7_init 56 = .ok (.aload_n 0, 1) := by decide +kernel
theorem dX7_init_57 : decode cX7_init 57 = .ok (.iconst 2, 1) := by decide +kernel
theorem dX7_init_58 : decode cX7_init 58 = .ok (.anewarray 23, 3) := by decide +kernel
theorem dX7_init_61 : decode cX7_init 61 = .ok (.putfield 39, 3) := by decide +kernel
theorem dX7_init_64 : decode cX7_init 64 = .ok (.iconst 0, 1) := by decide +kernel
theorem dX7_init_65 : decode cX7_init 65 = .ok (.istore_n 1, 1) := by decide +kernel
theorem dX7_init_66 : decode cX7_init 66 = .ok (.iload_n 1, 1) := by decide +kernel
theorem dX7_init_67 : decode cX7_init 67 = .ok (.iconst 2, 1) := by decide +kernel
theorem dX7_init_68 : decode cX7_init 68 = .ok (.if_icmp .ge 26, 3) := by decide +kernel
theorem dX7_init_71 : decode cX7_init 71 = .ok (.aload_n 0, 1) := by decide +kernel
theorem dX7_init_72 : decode cX7_init 72 = .ok (.getfield 39, 3) := by decide +kernel
theorem dX7_init_75 : decode cX7_init 75 = .ok (.iload_n 1, 1) := by decide +kernel
theorem dX7_init_76 : decode cX7_init 76 = .ok (.new 23, 3) := by decide +kernel
theorem dX7_init_79 : decode cX7_init 79 = .ok (.dup, 1) := by decide +kernel
theorem dX7_init_80 : decode cX7_init 80 = .ok (.aload_n 0, 1) := by decide +kernel
theorem dX7_init_81 : decode cX7_init 81 = .ok (.getfield 10, 3) := by decide +kernel
theorem dX7_init_84 : decode cX7_init 84 = .ok (.invokespecial 25, 3) := by decide +kernel
theorem dX7_init_87 : decode cX7_init 87 = .ok (.aastore, 1) := by decide +kernel
theorem dX7_init_88 : decode cX7_init 88 = .ok (.iinc 1 1, 3) := by decide +kernel
theorem dX7_init_91 : decode cX7_init 91 = .ok (.goto (-25), 3) := by decide +kernel
theorem dX7_init_94 : decode cX7_init 94 = .ok (.aload_n 0, 1) := by decide +kernel
theorem dX7_init_95 : decode cX7_init 95 = .ok (.iconst 2, 1) := by decide +kernel
theorem dX7_init_96 : decode cX7_init 96 = .ok (.newarray .boolean, 2) := by decide +kernel
theorem dX7_init_98 : decode cX7_init 98 = .ok (.putfield 43, 3) := by decide +kernel
theorem dX7_init_101 : decode cX7_init 101 = .ok (.aload_n 0, 1) := by decide +kernel
theorem dX7_init_102 : decode cX7_init 102 = .ok (.new 47, 3) := by decide +kernel
theorem dX7_init_105 : decode cX7_init 105 = .ok (.dup, 1) := by decide +kernel
theorem dX7_init_106 : decode cX7_init 106 = .ok (.invokespecial 49, 3) := by decide +kernel
theorem dX7_init_109 : decode cX7_init 109 = .ok (.putfield 50, 3) := by decide +kernel
theorem dX7_init_112 : decode cX7_init 112 = .ok (.aload_n 0, 1) := by decide +kernel
theorem dX7_init_113 : decode cX7_init 113 = .ok (.new 54, 3) := by decide +kernel
theorem dX7_init_116 : decode cX7_init 116 = .ok (.dup, 1) := by decide +kernel
theorem dX7_init_117 : decode cX7_init 117 = .ok (.invokespecial 56, 3) := by decide +kernel
theorem dX7_init_120 : decode cX7_init 120 = .ok (.putfield 57, 3) := by decide +kernel
theorem dX7_init_123 : decode cX7_init 123 = .ok (.aload_n 0, 1) := by decide +kernel
theorem dX7_init_124 : decode cX7_init 124 = .ok (.new 61, 3) := by decide +kernel
theorem dX7_init_127 : decode cX7_init 127 = .ok (.dup, 1) := by decide +kernel
theorem dX7_init_128 : decode cX7_init 128 = .ok (.invokespecial 63, 3) := by decide +kernel
theorem dX7_init_131 : decode cX7_init 131 = .ok (.putfield 64, 3) := by decide +kernel
theorem dX7_init_134 : decode cX7_init 134 = .ok (.aload_n 0, 1) := by decide +kernel
theorem dX7_init_135 : decode cX7_init 135 = .ok (.lconst 0, 1) := by decide +kernel
theorem dX7_init_136 : decode cX7_init 136 = .ok (.putfield 68, 3) := by decide +kernel
theorem dX7_init_139 : decode cX7_init 139 = .ok (.return_, 1) := by decide +kernel
theorem dX7_type_0 : decode cX7_type 0 = .ok (.iload_n 1, 1) := by decide +kernel
theorem dX7_type_1 : decode cX7_type 1 = .ok (.iconst 0, 1) := by decide +kernel
theorem dX7_type_2 : decode cX7_type 2 = .ok (.sipush 255, 3) := by decide +kernel
theorem dX7_type_5 : decode cX7_type 5 = .ok (.invokestatic 72, 3) := by decide +kernel
theorem dX7_type_8 : decode cX7_type 8 = .ok (.ifCond .ne 5, 3) := by decide +kernel
theorem dX7_type_11 : decode cX7_type 11 = .ok (.iconst (-1), 1) := by decide +kernel
theorem dX7_type_12 : decode cX7_type 12 = .ok (.ireturn, 1) := by decide +kernel
theorem dX7_type_13 : decode cX7_type 13 = .ok (.aload_n 0, 1) := by decide +kernel
theorem dX7_type_14 : decode cX7_type 14 = .ok (.getfield 19, 3) := by decide +kernel
theorem dX7_type_17 : decode cX7_type 17 = .ok (.iload_n 1, 1) := by decide +kernel
theorem dX7_type_18 : decode cX7_type 18 = .ok (.invokevirtual 76, 3) := by decide +kernel
theorem dX7_type_21 : decode cX7_type 21 = .ok (.ifCond .eq 13, 3) := by decide +kernel
theorem dX7_type_24 : decode cX7_type 24 = .ok (.aload_n 0, 1) := by decide +kernel
theorem dX7_type_25 : decode cX7_type 25 = .ok (.getfield 19, 3) := by decide +kernel
theorem dX7_type_28 : decode cX7_type 28 = .ok (.getfield 80, 3) := by decide +kernel
theorem dX7_type_31 : decode cX7_type 31 = .ok (.goto 5, 3) := by decide +kernel
theorem dX7_type_34 : decode cX7_type 34 = .ok (.bipush (-3), 2) := by decide +kernel
theorem dX7_type_36 : decode cX7_type 36 = .ok (.ireturn, 1) := by decide +kernel
theorem dX7_clear_0 : decode cX7_clear 0 = .ok (.aload_n 0, 1) := by decide +kernel
theorem dX7_clear_1 : decode cX7_clear 1 = .ok (.getfield 19, 3) := by decide +kernel
theorem dX7_clear_4 : decode cX7_clear 4 = .ok (.getfield 80, 3) := by decide +kernel
theorem dX7_clear_7 : decode cX7_clear 7 = .ok (.istore_n 1, 1) := by decide +kernel
theorem dX7_clear_8 : decode cX7_clear 8 = .ok (.aload_n 0, 1) := by decide +kernel
theorem dX7_clear_9 : decode cX7_clear 9 = .ok (.getfield 19, 3) := by decide +kernel
theorem dX7_clear_12 : decode cX7_clear 12 = .ok (.iconst 0, 1) := by decide +kernel
theorem dX7_clear_13 : decode cX7_clear 13 = .ok (.putfield 80, 3) := by decide +kernel
theorem dX7_clear_16 : decode cX7_clear 16 = .ok (.iload_n 1, 1) := by decide +kernel
theorem dX7_clear_17 : decode cX7_clear 17 = .ok (.ireturn, 1) := by decide +kernel
theorem dX7_house_0 : decode cX7_house 0 = .ok (.aload_n 0, 1) := by decide +kernel
theorem dX7_house_1 : decode cX7_house 1 = .ok (.getfield 19, 3) := by decide +kernel
theorem dX7_house_4 : decode cX7_house 4 = .ok (.invokevirtual 84, 3) := by decide +kernel
theorem dX7_house_7 : decode cX7_house 7 = .ok (.istore_n 1, 1) := by decide +kernel
theorem dX7_house_8 : decode cX7_house 8 = .ok (.iload_n 1, 1) := by decide +kernel
theorem dX7_house_9 : decode cX7_house 9 = .ok (.ifCond .ge 5, 3) := by decide +kernel
theorem dX7_house_12 : decode cX7_house 12 = .ok (.iload_n 1, 1) := by decide +kernel
theorem dX7_house_13 : decode cX7_house 13 = .ok (.ireturn, 1) := by decide +kernel
theorem dX7_house_14 : decode cX7_house 14 = .ok (.aload_n 0, 1) := by decide +kernel
theorem dX7_house_15 : decode cX7_house 15 = .ok (.getfield 10, 3) := by decide +kernel
theorem dX7_house_18 : decode cX7_house 18 = .ok (.aload_n 0, 1) := by decide +kernel
theorem dX7_house_19 : decode cX7_house 19 = .ok (.getfield 19, 3) := by decide +kernel
theorem dX7_house_22 : decode cX7_house 22 = .ok (.getfield 88, 3) := by decide +kernel
theorem dX7_house_25 : decode cX7_house 25 = .ok (.invokevirtual 91, 3) := by decide +kernel
theorem dX7_house_28 : decode cX7_house 28 = .ok (.aload_n 0, 1) := by decide +kernel
theorem dX7_house_29 : decode cX7_house 29 = .ok (.getfield 19, 3) := by decide +kernel
theorem dX7_house_32 : decode cX7_house 32 = .ok (.iconst 0, 1) := by decide +kernel
theorem dX7_house_33 : decode cX7_house 33 = .ok (.putfield 80, 3) := by decide +kernel
theorem dX7_house_36 : decode cX7_house 36 = .ok (.aload_n 0, 1) := by decide +kernel
theorem dX7_house_37 : decode cX7_house 37 = .ok (.getfield 28, 3) := by decide +kernel
theorem dX7_house_40 : decode cX7_house 40 = .ok (.invokevirtual 94, 3) := by decide +kernel
theorem dX7_house_43 : decode cX7_house 43 = .ok (.aload_n 0, 1) := by decide +kernel
theorem dX7_house_44 : decode cX7_house 44 = .ok (.getfield 35, 3) := by decide +kernel
theorem dX7_house_47 : decode cX7_house 47 = .ok (.iconst 0, 1) := by decide +kernel
theorem dX7_house_48 : decode cX7_house 48 = .ok (.putfield 97, 3) := by decide +kernel
theorem dX7_house_51 : decode cX7_house 51 = .ok (.aload_n 0, 1) := by decide +kernel
theorem dX7_house_52 : decode cX7_house 52 = .ok (.getfield 50, 3) := by decide +kernel
theorem dX7_house_55 : decode cX7_house 55 = .ok (.iconst 0, 1) := by decide +kernel
theorem dX7_house_56 : decode cX7_house 56 = .ok (.putfield 100, 3) := by decide +kernel
theorem dX7_house_59 : decode cX7_house 59 = .ok (.iconst 0, 1) := by decide +kernel
theorem dX7_house_60 : decode cX7_house 60 = .ok (.istore_n 2, 1) := by decide +kernel
theorem dX7_house_61 : decode cX7_house 61 = .ok (.iload_n 2, 1) := by decide +kernel
theorem dX7_house_62 : decode cX7_house 62 = .ok (.iconst 2, 1) := by decide +kernel
theorem dX7_house_63 : decode cX7_house 63 = .ok (.if_icmp .ge 16, 3) := by decide +kernel
theorem dX7_house_66 : decode cX7_house 66 = .ok (.aload_n 0, 1) := by decide +kernel
theorem dX7_house_67 : decode cX7_house 67 = .ok (.getfield 43, 3) := by decide +kernel
theorem dX7_house_70 : decode cX7_house 70 = .ok (.iload_n 2, 1) := by decide +kernel
theorem dX7_house_71 : decode cX7_house 71 = .ok (.iconst 0, 1) := by decide +kernel
theorem dX7_house_72 : decode cX7_house 72 = .ok (.bastore, 1) := by decide +kernel
theorem dX7_house_73 : decode cX7_house 73 = .ok (.iinc 2 1, 3) := by decide +kernel
theorem dX7_house_76 : decode cX7_house 76 = .ok (.goto (-15), 3) := by decide +kernel
theorem dX7_house_79 : decode cX7_house 79 = .ok (.iload_n 1, 1) := by decide +kernel
theorem dX7_house_80 : decode cX7_house 80 = .ok (.ireturn, 1) := by decide +kernel
theorem dX7_pan_0 : decode cX7_pan 0 = .ok (.aload_n 0, 1) := by decide +kernel
theorem dX7_pan_1 : decode cX7_pan 1 = .ok (.getfield 10, 3) := by decide +kernel
theorem dX7_pan_4 : decode cX7_pan 4 = .ok (.iload_n 1, 1) := by decide +kernel
theorem dX7_pan_5 : decode cX7_pan 5 = .ok (.invokevirtual 103, 3) := by decide +kernel
theorem dX7_pan_8 : decode cX7_pan 8 = .ok (.ifCond .ne 5, 3) := by decide +kernel
theorem dX7_pan_11 : decode cX7_pan 11 = .ok (.iconst (-1), 1) := by decide +kernel
theorem dX7_pan_12 : decode cX7_pan 12 = .ok (.ireturn, 1) := by decide +kernel
theorem dX7_pan_13 : decode cX7_pan 13 = .ok (.iload_n 2, 1) := by decide +kernel
theorem dX7_pan_14 : decode cX7_pan 14 = .ok (.tableswitch 116 0 6 #[42, 52, 62, 72, 81, 98, 107], 42) := by decide +kernel
theorem dX7_pan_56 : decode cX7_pan 56 = .ok (.aload_n 0, 1) := by decide +kernel
theorem dX7_pan_57 : decode cX7_pan 57 = .ok (.getfield 10, 3) := by decide +kernel
theorem dX7_pan_60 : decode cX7_pan 60 = .ok (.getfield 106, 3) := by decide +kernel
theorem dX7_pan_63 : decode cX7_pan 63 = .ok (.iload_n 1, 1) := by decide +kernel
theorem dX7_pan_64 : decode cX7_pan 64 = .ok (.iaload, 1) := by decide +kernel
theorem dX7_pan_65 : decode cX7_pan 65 = .ok (.ireturn, 1) := by decide +kernel
theorem dX7_pan_66 : decode cX7_pan 66 = .ok (.aload_n 0, 1) := by decide +kernel
theorem dX7_pan_67 : decode cX7_pan 67 = .ok (.getfield 10, 3) := by decide +kernel
theorem dX7_pan_70 : decode cX7_pan 70 = .ok (.getfield 110, 3) := by decide +kernel
theorem dX7_pan_73 : decode cX7_pan 73 = .ok (.iload_n 1, 1) := by decide +kernel
theorem dX7_pan_74 : decode cX7_pan 74 = .ok (.iaload, 1) := by decide +kernel
theorem dX7_pan_75 : decode cX7_pan 75 = .ok (.ireturn, 1) := by decide +kernel
theorem dX7_pan_76 : decode cX7_pan 76 = .ok (.aload_n 0, 1) := by decide +kernel
theorem dX7_pan_77 : decode cX7_pan 77 = .ok (.getfield 10, 3) := by decide +kernel
theorem dX7_pan_80 : decode cX7_pan 80 = .ok (.getfield 113, 3) := by decide +kernel
theorem dX7_pan_83 : decode cX7_pan 83 = .ok (.iload_n 1, 1) := by decide +kernel
theorem dX7_pan_84 : decode cX7_pan 84 = .ok (.iaload, 1) := by decide +kernel
theorem dX7_pan_85 : decode cX7_pan 85 = .ok (.ireturn, 1) := by decide +kernel
theorem dX7_pan_86 : decode cX7_pan 86 = .ok (.aload_n 0, 1) := by decide +kernel
theorem dX7_pan_87 : decode cX7_pan 87 = .ok (.getfield 28, 3) := by decide +kernel
theorem dX7_pan_90 : decode cX7_pan 90 = .ok (.iload_n 1, 1) := by decide +kernel
theorem dX7_pan_91 : decode cX7_pan 91 = .ok (.invokevirtual 116, 3) := by decide +kernel
theorem dX7_pan_94 : decode cX7_pan 94 = .ok (.ireturn, 1) := by decide +kernel
theorem dX7_pan_95 : decode cX7_pan 95 = .ok (.aload_n 0, 1) := by decide +kernel
theorem dX7_pan_96 : decode cX7_pan 96 = .ok (.getfield 28, 3) := by decide +kernel
theorem dX7_pan_99 : decode cX7_pan 99 = .ok (.iload_n 1, 1) := by decide +kernel
theorem dX7_pan_100 : decode cX7_pan 100 = .ok (.invokevirtual 120, 3) := by decide +kernel
theorem dX7_pan_103 : decode cX7_pan 103 = .ok (.ifCond .eq 7, 3) := by decide +kernel
theorem dX7_pan_106 : decode cX7_pan 106 = .ok (.iconst 1, 1) := by decide +kernel
theorem dX7_pan_107 : decode cX7_pan 107 = .ok (.goto 4, 3) := by decide +kernel
theorem dX7_pan_110 : decode cX7_pan 110 = .ok (.iconst 0, 1) := by decide +kernel
theorem dX7_pan_111 : decode cX7_pan 111 = .ok (.ireturn, 1) := by decide +kernel
theorem dX7_pan_112 : decode cX7_pan 112 = .ok (.aload_n 0, 1) := by decide +kernel
theorem dX7_pan_113 : decode cX7_pan 113 = .ok (.getfield 28, 3) := by decide +kernel
theorem dX7_pan_116 : decode cX7_pan 116 = .ok (.iload_n 1, 1) := by decide +kernel
theorem dX7_pan_117 : decode cX7_pan 117 = .ok (.invokevirtual 123, 3) := by decide +kernel
theorem dX7_pan_120 : decode cX7_pan 120 = .ok (.ireturn, 1) := by decide +kernel
theorem dX7_pan_121 : decode cX7_pan 121 = .ok (.aload_n 0, 1) := by decide +kernel
theorem dX7_pan_122 : decode cX7_pan 122 = .ok (.getfield 28, 3) := by decide +kernel
theorem dX7_pan_125 : decode cX7_pan 125 = .ok (.iload_n 1, 1) := by decide +kernel
theorem dX7_pan_126 : decode cX7_pan 126 = .ok (.invokevirtual 126, 3) := by decide +kernel
theorem dX7_pan_129 : decode cX7_pan 129 = .ok (.ireturn, 1) := by decide +kernel
theorem dX7_pan_130 : decode cX7_pan 130 = .ok (.iconst (-1), 1) := by decide +kernel
theorem dX7_pan_131 : decode cX7_pan 131 = .ok (.ireturn, 1) := by decide +kernel
theorem dX7_holds_0 : decode cX7_holds 0 = .ok (.aload_n 0, 1) := by decide +kernel
theorem dX7_holds_1 : decode cX7_holds 1 = .ok (.getfield 10, 3) := by decide +kernel
theorem dX7_holds_4 : decode cX7_holds 4 = .ok (.iload_n 1, 1) := by decide +kernel
theorem dX7_holds_5 : decode cX7_holds 5 = .ok (.invokevirtual 103, 3) := by decide +kernel
theorem dX7_holds_8 : decode cX7_holds 8 = .ok (.ifCond .eq 14, 3) := by decide +kernel
theorem dX7_holds_11 : decode cX7_holds 11 = .ok (.aload_n 0, 1) := by decide +kernel
theorem dX7_holds_12 : decode cX7_holds 12 = .ok (.getfield 10, 3) := by decide +kernel
theorem dX7_holds_15 : decode cX7_holds 15 = .ok (.iload_n 2, 1) := by decide +kernel
theorem dX7_holds_16 : decode cX7_holds 16 = .ok (.invokevirtual 103, 3) := by decide +kernel
theorem dX7_holds_19 : decode cX7_holds 19 = .ok (.ifCond .ne 5, 3) := by decide +kernel
theorem dX7_holds_22 : decode cX7_holds 22 = .ok (.iconst (-1), 1) := by decide +kernel
theorem dX7_holds_23 : decode cX7_holds 23 = .ok (.ireturn, 1) := by decide +kernel
theorem dX7_holds_24 : decode cX7_holds 24 = .ok (.aload_n 0, 1) := by decide +kernel
theorem dX7_holds_25 : decode cX7_holds 25 = .ok (.getfield 28, 3) := by decide +kernel
theorem dX7_holds_28 : decode cX7_holds 28 = .ok (.iload_n 1, 1) := by decide +kernel
theorem dX7_holds_29 : decode cX7_holds 29 = .ok (.iload_n 2, 1) := by decide +kernel
theorem dX7_holds_30 : decode cX7_holds 30 = .ok (.invokevirtual 129, 3) := by decide +kernel
theorem dX7_holds_33 : decode cX7_holds 33 = .ok (.ireturn, 1) := by decide +kernel
theorem dX7_now_0 : decode cX7_now 0 = .ok (.iload_n 1, 1) := by decide +kernel
theorem dX7_now_1 : decode cX7_now 1 = .ok (.tableswitch 87 0 5 #[39, 47, 55, 63, 71, 79], 39) := by decide +kernel
theorem dX7_now_40 : decode cX7_now 40 = .ok (.aload_n 0, 1) := by decide +kernel
theorem dX7_now_41 : decode cX7_now 41 = .ok (.getfield 28, 3) := by decide +kernel
theorem dX7_now_44 : decode cX7_now 44 = .ok (.getfield 133, 3) := by decide +kernel
theorem dX7_now_47 : decode cX7_now 47 = .ok (.ireturn, 1) := by decide +kernel
theorem dX7_now_48 : decode cX7_now 48 = .ok (.aload_n 0, 1) := by decide +kernel
theorem dX7_now_49 : decode cX7_now 49 = .ok (.getfield 28, 3) := by decide +kernel
theorem dX7_now_52 : decode cX7_now 52 = .ok (.getfield 136, 3) := by decide +kernel
theorem dX7_now_55 : decode cX7_now 55 = .ok (.ireturn, 1) := by decide +kernel
theorem dX7_now_56 : decode cX7_now 56 = .ok (.aload_n 0, 1) := by decide +kernel
theorem dX7_now_57 : decode cX7_now 57 = .ok (.getfield 28, 3) := by decide +kernel
theorem dX7_now_60 : decode cX7_now 60 = .ok (.invokevirtual 139, 3) := by decide +kernel
theorem dX7_now_63 : decode cX7_now 63 = .ok (.ireturn, 1) := by decide +kernel
theorem dX7_now_64 : decode cX7_now 64 = .ok (.aload_n 0, 1) := by decide +kernel
theorem dX7_now_65 : decode cX7_now 65 = .ok (.getfield 28, 3) := by decide +kernel
theorem dX7_now_68 : decode cX7_now 68 = .ok (.invokevirtual 142, 3) := by decide +kernel
theorem dX7_now_71 : decode cX7_now 71 = .ok (.ireturn, 1) := by decide +kernel
theorem dX7_now_72 : decode cX7_now 72 = .ok (.aload_n 0, 1) := by decide +kernel
theorem dX7_now_73 : decode cX7_now 73 = .ok (.getfield 28, 3) := by decide +kernel
theorem dX7_now_76 : decode cX7_now 76 = .ok (.invokevirtual 145, 3) := by decide +kernel
theorem dX7_now_79 : decode cX7_now 79 = .ok (.ireturn, 1) := by decide +kernel
theorem dX7_now_80 : decode cX7_now 80 = .ok (.aload_n 0, 1) := by decide +kernel
theorem dX7_now_81 : decode cX7_now 81 = .ok (.getfield 35, 3) := by decide +kernel
theorem dX7_now_84 : decode cX7_now 84 = .ok (.getfield 97, 3) := by decide +kernel
theorem dX7_now_87 : decode cX7_now 87 = .ok (.ireturn, 1) := by decide +kernel
theorem dX7_now_88 : decode cX7_now 88 = .ok (.iconst (-1), 1) := by decide +kernel
theorem dX7_now_89 : decode cX7_now 89 = .ok (.ireturn, 1) := by decide +kernel
theorem dX7_uses_0 : decode cX7_uses 0 = .ok (.aload_n 0, 1) := by decide +kernel
theorem dX7_uses_1 : decode cX7_uses 1 = .ok (.getfield 10, 3) := by decide +kernel
theorem dX7_uses_4 : decode cX7_uses 4 = .ok (.iload_n 1, 1) := by decide +kernel
theorem dX7_uses_5 : decode cX7_uses 5 = .ok (.invokevirtual 103, 3) := by decide +kernel
theorem dX7_uses_8 : decode cX7_uses 8 = .ok (.ifCond .eq 13, 3) := by decide +kernel
theorem dX7_uses_11 : decode cX7_uses 11 = .ok (.iload_n 2, 1) := by decide +kernel
theorem dX7_uses_12 : decode cX7_uses 12 = .ok (.iconst 1, 1) := by decide +kernel
theorem dX7_uses_13 : decode cX7_uses 13 = .ok (.bipush 99, 2) := by decide +kernel
theorem dX7_uses_15 : decode cX7_uses 15 = .ok (.invokestatic 72, 3) := by decide +kernel
theorem dX7_uses_18 : decode cX7_uses 18 = .ok (.ifCond .ne 5, 3) := by decide +kernel
theorem dX7_uses_21 : decode cX7_uses 21 = .ok (.iconst (-1), 1) := by decide +kernel
theorem dX7_uses_22 : decode cX7_uses 22 = .ok (.ireturn, 1) := by decide +kernel
theorem dX7_uses_23 : decode cX7_uses 23 = .ok (.aload_n 0, 1) := by decide +kernel
theorem dX7_uses_24 : decode cX7_uses 24 = .ok (.getfield 28, 3) := by decide +kernel
theorem dX7_uses_27 : decode cX7_uses 27 = .ok (.iload_n 1, 1) := by decide +kernel
theorem dX7_uses_28 : decode cX7_uses 28 = .ok (.invokevirtual 116, 3) := by decide +kernel
theorem dX7_uses_31 : decode cX7_uses 31 = .ok (.ifCond .ne 6, 3) := by decide +kernel
theorem dX7_uses_34 : decode cX7_uses 34 = .ok (.bipush (-2), 2) := by decide +kernel
theorem dX7_uses_36 : decode cX7_uses 36 = .ok (.ireturn, 1) := by decide +kernel
theorem dX7_uses_37 : decode cX7_uses 37 = .ok (.aload_n 0, 1) := by decide +kernel
theorem dX7_uses_38 : decode cX7_uses 38 = .ok (.getfield 35, 3) := by decide +kernel
theorem dX7_uses_41 : decode cX7_uses 41 = .ok (.aload_n 0, 1) := by decide +kernel
theorem dX7_uses_42 : decode cX7_uses 42 = .ok (.getfield 28, 3) := by decide +kernel
theorem dX7_uses_45 : decode cX7_uses 45 = .ok (.invokevirtual 148, 3) := by decide +kernel
theorem dX7_uses_48 : decode cX7_uses 48 = .ok (.aload_n 0, 1) := by decide +kernel
theorem dX7_uses_49 : decode cX7_uses 49 = .ok (.getfield 28, 3) := by decide +kernel
theorem dX7_uses_52 : decode cX7_uses 52 = .ok (.iload_n 1, 1) := by decide +kernel
theorem dX7_uses_53 : decode cX7_uses 53 = .ok (.iload_n 2, 1) := by decide +kernel
theorem dX7_uses_54 : decode cX7_uses 54 = .ok (.iconst (-1), 1) := by decide +kernel
theorem dX7_uses_55 : decode cX7_uses 55 = .ok (.invokevirtual 152, 3) := by decide +kernel
theorem dX7_uses_58 : decode cX7_uses 58 = .ok (.ireturn, 1) := by decide +kernel
theorem dX7_pours_0 : decode cX7_pours 0 = .ok (.aload_n 0, 1) := by decide +kernel
theorem dX7_pours_1 : decode cX7_pours 1 = .ok (.getfield 10, 3) := by decide +kernel
theorem dX7_pours_4 : decode cX7_pours 4 = .ok (.iload_n 1, 1) := by decide +kernel
theorem dX7_pours_5 : decode cX7_pours 5 = .ok (.invokevirtual 103, 3) := by decide +kernel
theorem dX7_pours_8 : decode cX7_pours 8 = .ok (.ifCond .eq 29, 3) := by decide +kernel
theorem dX7_pours_11 : decode cX7_pours 11 = .ok (.aload_n 0, 1) := by decide +kernel
theorem dX7_pours_12 : decode cX7_pours 12 = .ok (.getfield 10, 3) := by decide +kernel
theorem dX7_pours_15 : decode cX7_pours 15 = .ok (.iload_n 2, 1) := by decide +kernel
theorem dX7_pours_16 : decode cX7_pours 16 = .ok (.invokevirtual 103, 3) := by decide +kernel
theorem dX7_pours_19 : decode cX7_pours 19 = .ok (.ifCond .eq 18, 3) := by decide +kernel
theorem dX7_pours_22 : decode cX7_pours 22 = .ok (.iload_n 1, 1) := by decide +kernel
theorem dX7_pours_23 : decode cX7_pours 23 = .ok (.iload_n 2, 1) := by decide +kernel
theorem dX7_pours_24 : decode cX7_pours 24 = .ok (.if_icmp .eq 13, 3) := by decide +kernel
theorem dX7_pours_27 : decode cX7_pours 27 = .ok (.iload_n 3, 1) := by decide +kernel
theorem dX7_pours_28 : decode cX7_pours 28 = .ok (.iconst 1, 1) := by decide +kernel
theorem dX7_pours_29 : decode cX7_pours 29 = .ok (.bipush 99, 2) := by decide +kernel
theorem dX7_pours_31 : decode cX7_pours 31 = .ok (.invokestatic 72, 3) := by decide +kernel
theorem dX7_pours_34 : decode cX7_pours 34 = .ok (.ifCond .ne 5, 3) := by decide +kernel
theorem dX7_pours_37 : decode cX7_pours 37 = .ok (.iconst (-1), 1) := by decide +kernel
theorem dX7_pours_38 : decode cX7_pours 38 = .ok (.ireturn, 1) := by decide +kernel
theorem dX7_pours_39 : decode cX7_pours 39 = .ok (.aload_n 0, 1) := by decide +kernel
theorem dX7_pours_40 : decode cX7_pours 40 = .ok (.getfield 28, 3) := by decide +kernel
theorem dX7_pours_43 : decode cX7_pours 43 = .ok (.iload_n 1, 1) := by decide +kernel
theorem dX7_pours_44 : decode cX7_pours 44 = .ok (.invokevirtual 116, 3) := by decide +kernel
theorem dX7_pours_47 : decode cX7_pours 47 = .ok (.ifCond .ne 6, 3) := by decide +kernel
theorem dX7_pours_50 : decode cX7_pours 50 = .ok (.bipush (-2), 2) := by decide +kernel
theorem dX7_pours_52 : decode cX7_pours 52 = .ok (.ireturn, 1) := by decide +kernel
theorem dX7_pours_53 : decode cX7_pours 53 = .ok (.aload_n 0, 1) := by decide +kernel
theorem dX7_pours_54 : decode cX7_pours 54 = .ok (.getfield 35, 3) := by decide +kernel
theorem dX7_pours_57 : decode cX7_pours 57 = .ok (.aload_n 0, 1) := by decide +kernel
theorem dX7_pours_58 : decode cX7_pours 58 = .ok (.getfield 28, 3) := by decide +kernel
theorem dX7_pours_61 : decode cX7_pours 61 = .ok (.invokevirtual 148, 3) := by decide +kernel
theorem dX7_pours_64 : decode cX7_pours 64 = .ok (.aload_n 0, 1) := by decide +kernel
theorem dX7_pours_65 : decode cX7_pours 65 = .ok (.getfield 28, 3) := by decide +kernel
theorem dX7_pours_68 : decode cX7_pours 68 = .ok (.iload_n 1, 1) := by decide +kernel
theorem dX7_pours_69 : decode cX7_pours 69 = .ok (.iload_n 3, 1) := by decide +kernel
theorem dX7_pours_70 : decode cX7_pours 70 = .ok (.iload_n 2, 1) := by decide +kernel
theorem dX7_pours_71 : decode cX7_pours 71 = .ok (.invokevirtual 152, 3) := by decide +kernel
theorem dX7_pours_74 : decode cX7_pours 74 = .ok (.ireturn, 1) := by decide +kernel
theorem dX7_spring_0 : decode cX7_spring 0 = .ok (.aload_n 0, 1) := by decide +kernel
theorem dX7_spring_1 : decode cX7_spring 1 = .ok (.getfield 28, 3) := by decide +kernel
theorem dX7_spring_4 : decode cX7_spring 4 = .ok (.getfield 133, 3) := by decide +kernel
theorem dX7_spring_7 : decode cX7_spring 7 = .ok (.sipush 999, 3) := by decide +kernel
theorem dX7_spring_10 : decode cX7_spring 10 = .ok (.if_icmp .lt 6, 3) := by decide +kernel
theorem dX7_spring_13 : decode cX7_spring 13 = .ok (.bipush (-2), 2) := by decide +kernel
theorem dX7_spring_15 : decode cX7_spring 15 = .ok (.ireturn, 1) := by decide +kernel
theorem dX7_spring_16 : decode cX7_spring 16 = .ok (.aload_n 0, 1) := by decide +kernel
theorem dX7_spring_17 : decode cX7_spring 17 = .ok (.getfield 35, 3) := by decide +kernel
theorem dX7_spring_20 : decode cX7_spring 20 = .ok (.aload_n 0, 1) := by decide +kernel
theorem dX7_spring_21 : decode cX7_spring 21 = .ok (.getfield 28, 3) := by decide +kernel
theorem dX7_spring_24 : decode cX7_spring 24 = .ok (.invokevirtual 148, 3) := by decide +kernel
theorem dX7_spring_27 : decode cX7_spring 27 = .ok (.aload_n 0, 1) := by decide +kernel
theorem dX7_spring_28 : decode cX7_spring 28 = .ok (.getfield 28, 3) := by decide +kernel
theorem dX7_spring_31 : decode cX7_spring 31 = .ok (.invokevirtual 156, 3) := by decide +kernel
theorem dX7_spring_34 : decode cX7_spring 34 = .ok (.ireturn, 1) := by decide +kernel
theorem dX7_splits_0 : decode cX7_splits 0 = .ok (.aload_n 0, 1) := by decide +kernel
theorem dX7_splits_1 : decode cX7_splits 1 = .ok (.getfield 10, 3) := by decide +kernel
theorem dX7_splits_4 : decode cX7_splits 4 = .ok (.iload_n 1, 1) := by decide +kernel
theorem dX7_splits_5 : decode cX7_splits 5 = .ok (.invokevirtual 103, 3) := by decide +kernel
theorem dX7_splits_8 : decode cX7_splits 8 = .ok (.ifCond .ne 5, 3) := by decide +kernel
theorem dX7_splits_11 : decode cX7_splits 11 = .ok (.iconst (-1), 1) := by decide +kernel
theorem dX7_splits_12 : decode cX7_splits 12 = .ok (.ireturn, 1) := by decide +kernel
theorem dX7_splits_13 : decode cX7_splits 13 = .ok (.aload_n 0, 1) := by decide +kernel
theorem dX7_splits_14 : decode cX7_splits 14 = .ok (.getfield 28, 3) := by decide +kernel
theorem dX7_splits_17 : decode cX7_splits 17 = .ok (.iload_n 1, 1) := by decide +kernel
theorem dX7_splits_18 : decode cX7_splits 18 = .ok (.invokevirtual 116, 3) := by decide +kernel
theorem dX7_splits_21 : decode cX7_splits 21 = .ok (.istore_n 2, 1) := by decide +kernel
theorem dX7_splits_22 : decode cX7_splits 22 = .ok (.iload_n 2, 1) := by decide +kernel
theorem dX7_splits_23 : decode cX7_splits 23 = .ok (.ifCond .ne 6, 3) := by decide +kernel
theorem dX7_splits_26 : decode cX7_splits 26 = .ok (.bipush (-2), 2) := by decide +kernel
theorem dX7_splits_28 : decode cX7_splits 28 = .ok (.ireturn, 1) := by decide +kernel
theorem dX7_splits_29 : decode cX7_splits 29 = .ok (.aload_n 0, 1) := by decide +kernel
theorem dX7_splits_30 : decode cX7_splits 30 = .ok (.getfield 35, 3) := by decide +kernel
theorem dX7_splits_33 : decode cX7_splits 33 = .ok (.aload_n 0, 1) := by decide +kernel
theorem dX7_splits_34 : decode cX7_splits 34 = .ok (.getfield 28, 3) := by decide +kernel
theorem dX7_splits_37 : decode cX7_splits 37 = .ok (.invokevirtual 148, 3) := by decide +kernel
theorem dX7_splits_40 : decode cX7_splits 40 = .ok (.aload_n 0, 1) := by decide +kernel
theorem dX7_splits_41 : decode cX7_splits 41 = .ok (.getfield 28, 3) := by decide +kernel
theorem dX7_splits_44 : decode cX7_splits 44 = .ok (.iload_n 1, 1) := by decide +kernel
theorem dX7_splits_45 : decode cX7_splits 45 = .ok (.iload_n 2, 1) := by decide +kernel
theorem dX7_splits_46 : decode cX7_splits 46 = .ok (.iconst (-1), 1) := by decide +kernel
theorem dX7_splits_47 : decode cX7_splits 47 = .ok (.invokevirtual 152, 3) := by decide +kernel
theorem dX7_splits_50 : decode cX7_splits 50 = .ok (.ireturn, 1) := by decide +kernel
theorem dX7_undo_0 : decode cX7_undo 0 = .ok (.aload_n 0, 1) := by decide +kernel
theorem dX7_undo_1 : decode cX7_undo 1 = .ok (.getfield 35, 3) := by decide +kernel
theorem dX7_undo_4 : decode cX7_undo 4 = .ok (.getfield 97, 3) := by decide +kernel
theorem dX7_undo_7 : decode cX7_undo 7 = .ok (.ifCond .ne 6, 3) := by decide +kernel
theorem dX7_undo_10 : decode cX7_undo 10 = .ok (.bipush (-2), 2) := by decide +kernel
theorem dX7_undo_12 : decode cX7_undo 12 = .ok (.ireturn, 1) := by decide +kernel
theorem dX7_undo_13 : decode cX7_undo 13 = .ok (.aload_n 0, 1) := by decide +kernel
theorem dX7_undo_14 : decode cX7_undo 14 = .ok (.getfield 35, 3) := by decide +kernel
theorem dX7_undo_17 : decode cX7_undo 17 = .ok (.aload_n 0, 1) := by decide +kernel
theorem dX7_undo_18 : decode cX7_undo 18 = .ok (.getfield 28, 3) := by decide +kernel
theorem dX7_undo_21 : decode cX7_undo 21 = .ok (.invokevirtual 159, 3) := by decide +kernel
theorem dX7_undo_24 : decode cX7_undo 24 = .ok (.aload_n 0, 1) := by decide +kernel
theorem dX7_undo_25 : decode cX7_undo 25 = .ok (.getfield 35, 3) := by decide +kernel
theorem dX7_undo_28 : decode cX7_undo 28 = .ok (.getfield 97, 3) := by decide +kernel
theorem dX7_undo_31 : decode cX7_undo 31 = .ok (.ireturn, 1) := by decide +kernel
theorem dX7_lasts_0 : decode cX7_lasts 0 = .ok (.aload_n 0, 1) := by decide +kernel
theorem dX7_lasts_1 : decode cX7_lasts 1 = .ok (.getfield 10, 3) := by decide +kernel
theorem dX7_lasts_4 : decode cX7_lasts 4 = .ok (.iload_n 1, 1) := by decide +kernel
theorem dX7_lasts_5 : decode cX7_lasts 5 = .ok (.invokevirtual 103, 3) := by decide +kernel
theorem dX7_lasts_8 : decode cX7_lasts 8 = .ok (.ifCond .ne 5, 3) := by decide +kernel
theorem dX7_lasts_11 : decode cX7_lasts 11 = .ok (.iconst (-1), 1) := by decide +kernel
theorem dX7_lasts_12 : decode cX7_lasts 12 = .ok (.ireturn, 1) := by decide +kernel
theorem dX7_lasts_13 : decode cX7_lasts 13 = .ok (.iconst 0, 1) := by decide +kernel
theorem dX7_lasts_14 : decode cX7_lasts 14 = .ok (.istore_n 2, 1) := by decide +kernel
theorem dX7_lasts_15 : decode cX7_lasts 15 = .ok (.iload_n 2, 1) := by decide +kernel
theorem dX7_lasts_16 : decode cX7_lasts 16 = .ok (.sipush 400, 3) := by decide +kernel
theorem dX7_lasts_19 : decode cX7_lasts 19 = .ok (.if_icmp .gt 23, 3) := by decide +kernel
theorem dX7_lasts_22 : decode cX7_lasts 22 = .ok (.aload_n 0, 1) := by decide +kernel
theorem dX7_lasts_23 : decode cX7_lasts 23 = .ok (.getfield 28, 3) := by decide +kernel
theorem dX7_lasts_26 : decode cX7_lasts 26 = .ok (.iload_n 2, 1) := by decide +kernel
theorem dX7_lasts_27 : decode cX7_lasts 27 = .ok (.iload_n 1, 1) := by decide +kernel
theorem dX7_lasts_28 : decode cX7_lasts 28 = .ok (.invokevirtual 162, 3) := by decide +kernel
theorem dX7_lasts_31 : decode cX7_lasts 31 = .ok (.ifCond .ne 5, 3) := by decide +kernel
theorem dX7_lasts_34 : decode cX7_lasts 34 = .ok (.iload_n 2, 1) := by decide +kernel
theorem dX7_lasts_35 : decode cX7_lasts 35 = .ok (.ireturn, 1) := by decide +kernel
theorem dX7_lasts_36 : decode cX7_lasts 36 = .ok (.iinc 2 1, 3) := by decide +kernel
theorem dX7_lasts_39 : decode cX7_lasts 39 = .ok (.goto (-24), 3) := by decide +kernel
theorem dX7_lasts_42 : decode cX7_lasts 42 = .ok (.bipush (-9), 2) := by decide +kernel
theorem dX7_lasts_44 : decode cX7_lasts 44 = .ok (.ireturn, 1) := by decide +kernel
theorem dX7_inSprings_0 : decode cX7_inSprings 0 = .ok (.iload_n 1, 1) := by decide +kernel
theorem dX7_inSprings_1 : decode cX7_inSprings 1 = .ok (.iconst 0, 1) := by decide +kernel
theorem dX7_inSprings_2 : decode cX7_inSprings 2 = .ok (.sipush 200, 3) := by decide +kernel
theorem dX7_inSprings_5 : decode cX7_inSprings 5 = .ok (.invokestatic 72, 3) := by decide +kernel
theorem dX7_inSprings_8 : decode cX7_inSprings 8 = .ok (.ifCond .ne 5, 3) := by decide +kernel
theorem dX7_inSprings_11 : decode cX7_inSprings 11 = .ok (.iconst (-1), 1) := by decide +kernel
theorem dX7_inSprings_12 : decode cX7_inSprings 12 = .ok (.ireturn, 1) := by decide +kernel
theorem dX7_inSprings_13 : decode cX7_inSprings 13 = .ok (.iload_n 2, 1) := by decide +kernel
theorem dX7_inSprings_14 : decode cX7_inSprings 14 = .ok (.iconst (-1), 1) := by decide +kernel
theorem dX7_inSprings_15 : decode cX7_inSprings 15 = .ok (.if_icmp .ne 9, 3) := by decide +kernel
theorem dX7_inSprings_18 : decode cX7_inSprings 18 = .ok (.aload_n 0, 1) := by decide +kernel
theorem dX7_inSprings_19 : decode cX7_inSprings 19 = .ok (.iload_n 1, 1) := by decide +kernel
theorem dX7_inSprings_20 : decode cX7_inSprings 20 = .ok (.invokevirtual 166, 3) := by decide +kernel
theorem dX7_inSprings_23 : decode cX7_inSprings 23 = .ok (.ireturn, 1) := by decide +kernel
theorem dX7_inSprings_24 : decode cX7_inSprings 24 = .ok (.aload_n 0, 1) := by decide +kernel
theorem dX7_inSprings_25 : decode cX7_inSprings 25 = .ok (.getfield 10, 3) := by decide +kernel
theorem dX7_inSprings_28 : decode cX7_inSprings 28 = .ok (.iload_n 2, 1) := by decide +kernel
theorem dX7_inSprings_29 : decode cX7_inSprings 29 = .ok (.invokevirtual 103, 3) := by decide +kernel
theorem dX7_inSprings_32 : decode cX7_inSprings 32 = .ok (.ifCond .eq 20, 3) := by decide +kernel
theorem dX7_inSprings_35 : decode cX7_inSprings 35 = .ok (.aload_n 0, 1) := by decide +kernel
theorem dX7_inSprings_36 : decode cX7_inSprings 36 = .ok (.aload_n 0, 1) := by decide +kernel
theorem dX7_inSprings_37 : decode cX7_inSprings 37 = .ok (.getfield 28, 3) := by decide +kernel
theorem dX7_inSprings_40 : decode cX7_inSprings 40 = .ok (.iload_n 2, 1) := by decide +kernel
theorem dX7_inSprings_41 : decode cX7_inSprings 41 = .ok (.invokevirtual 116, 3) := by decide +kernel
theorem dX7_inSprings_44 : decode cX7_inSprings 44 = .ok (.iload_n 1, 1) := by decide +kernel
theorem dX7_inSprings_45 : decode cX7_inSprings 45 = .ok (.iload_n 2, 1) := by decide +kernel
theorem dX7_inSprings_46 : decode cX7_inSprings 46 = .ok (.invokevirtual 169, 3) := by decide +kernel
theorem dX7_inSprings_49 : decode cX7_inSprings 49 = .ok (.goto 4, 3) := by decide +kernel
theorem dX7_inSprings_52 : decode cX7_inSprings 52 = .ok (.iconst (-1), 1) := by decide +kernel
theorem dX7_inSprings_53 : decode cX7_inSprings 53 = .ok (.ireturn, 1) := by decide +kernel
theorem dX7_countReadableIn_0 : decode cX7_countReadableIn 0 = .ok (.iconst 0, 1) := by decide +kernel
theorem dX7_countReadableIn_1 : decode cX7_countReadableIn 1 = .ok (.istore_n 2, 1) := by decide +kernel
theorem dX7_countReadableIn_2 : decode cX7_countReadableIn 2 = .ok (.iconst 0, 1) := by decide +kernel
theorem dX7_countReadableIn_3 : decode cX7_countReadableIn 3 = .ok (.istore_n 3, 1) := by decide +kernel
theorem dX7_countReadableIn_4 : decode cX7_countReadableIn 4 = .ok (.iload_n 3, 1) := by decide +kernel
theorem dX7_countReadableIn_5 : decode cX7_countReadableIn 5 = .ok (.aload_n 0, 1) := by decide +kernel
theorem dX7_countReadableIn_6 : decode cX7_countReadableIn 6 = .ok (.getfield 10, 3) := by decide +kernel
theorem dX7_countReadableIn_9 : decode cX7_countReadableIn 9 = .ok (.getfield 172, 3) := by decide +kernel
theorem dX7_countReadableIn_12 : decode cX7_countReadableIn 12 = .ok (.if_icmp .ge 24, 3) := by decide +kernel
theorem dX7_countReadableIn_15 : decode cX7_countReadableIn 15 = .ok (.aload_n 0, 1) := by decide +kernel
theorem dX7_countReadableIn_16 : decode cX7_countReadableIn 16 = .ok (.getfield 28, 3) := by decide +kernel
theorem dX7_countReadableIn_19 : decode cX7_countReadableIn 19 = .ok (.iload_n 1, 1) := by decide +kernel
theorem dX7_countReadableIn_20 : decode cX7_countReadableIn 20 = .ok (.iload_n 3, 1) := by decide +kernel
theorem dX7_countReadableIn_21 : decode cX7_countReadableIn 21 = .ok (.invokevirtual 162, 3) := by decide +kernel
theorem dX7_countReadableIn_24 : decode cX7_countReadableIn 24 = .ok (.ifCond .eq 6, 3) := by decide +kernel
theorem dX7_countReadableIn_27 : decode cX7_countReadableIn 27 = .ok (.iinc 2 1, 3) := by decide +kernel
theorem dX7_countReadableIn_30 : decode cX7_countReadableIn 30 = .ok (.iinc 3 1, 3) := by decide +kernel
theorem dX7_countReadableIn_33 : decode cX7_countReadableIn 33 = .ok (.goto (-29), 3) := by decide +kernel
theorem dX7_countReadableIn_36 : decode cX7_countReadableIn 36 = .ok (.iload_n 2, 1) := by decide +kernel
theorem dX7_countReadableIn_37 : decode cX7_countReadableIn 37 = .ok (.ireturn, 1) := by decide +kernel
theorem dX7_afterSprings_0 : decode cX7_afterSprings 0 = .ok (.iconst 0, 1) := by decide +kernel
theorem dX7_afterSprings_1 : decode cX7_afterSprings 1 = .ok (.iload_n 1, 1) := by decide +kernel
theorem dX7_afterSprings_2 : decode cX7_afterSprings 2 = .ok (.iload_n 2, 1) := by decide +kernel
theorem dX7_afterSprings_3 : decode cX7_afterSprings 3 = .ok (.aload_n 0, 1) := by decide +kernel
theorem dX7_afterSprings_4 : decode cX7_afterSprings 4 = .ok (.getfield 10, 3) := by decide +kernel
theorem dX7_afterSprings_7 : decode cX7_afterSprings 7 = .ok (.getfield 110, 3) := by decide +kernel
theorem dX7_afterSprings_10 : decode cX7_afterSprings 10 = .ok (.iload_n 3, 1) := by decide +kernel
theorem dX7_afterSprings_11 : decode cX7_afterSprings 11 = .ok (.iaload, 1) := by decide +kernel
theorem dX7_afterSprings_12 : decode cX7_afterSprings 12 = .ok (.imul, 1) := by decide +kernel
theorem dX7_afterSprings_13 : decode cX7_afterSprings 13 = .ok (.isub, 1) := by decide +kernel
theorem dX7_afterSprings_14 : decode cX7_afterSprings 14 = .ok (.invokestatic 175, 3) := by decide +kernel
theorem dX7_afterSprings_17 : decode cX7_afterSprings 17 = .ok (.ireturn, 1) := by decide +kernel
theorem dX7_fire_0 : decode cX7_fire 0 = .ok (.iload_n 1, 1) := by decide +kernel
theorem dX7_fire_1 : decode cX7_fire 1 = .ok (.iconst 1, 1) := by decide +kernel
theorem dX7_fire_2 : decode cX7_fire 2 = .ok (.sipush 400, 3) := by decide +kernel
theorem dX7_fire_5 : decode cX7_fire 5 = .ok (.invokestatic 72, 3) := by decide +kernel
theorem dX7_fire_8 : decode cX7_fire 8 = .ok (.ifCond .eq 12, 3) := by decide +kernel
theorem dX7_fire_11 : decode cX7_fire 11 = .ok (.iload_n 2, 1) := by decide +kernel
theorem dX7_fire_12 : decode cX7_fire 12 = .ok (.iconst 0, 1) := by decide +kernel
theorem dX7_fire_13 : decode cX7_fire 13 = .ok (.iconst 1, 1) := by decide +kernel
theorem dX7_fire_14 : decode cX7_fire 14 = .ok (.invokestatic 72, 3) := by decide +kernel
theorem dX7_fire_17 : decode cX7_fire 17 = .ok (.ifCond .ne 5, 3) := by decide +kernel
theorem dX7_fire_20 : decode cX7_fire 20 = .ok (.iconst (-1), 1) := by decide +kernel
theorem dX7_fire_21 : decode cX7_fire 21 = .ok (.ireturn, 1) := by decide +kernel
theorem dX7_fire_22 : decode cX7_fire 22 = .ok (.aload_n 0, 1) := by decide +kernel
theorem dX7_fire_23 : decode cX7_fire 23 = .ok (.getfield 57, 3) := by decide +kernel
theorem dX7_fire_26 : decode cX7_fire 26 = .ok (.aload_n 0, 1) := by decide +kernel
theorem dX7_fire_27 : decode cX7_fire 27 = .ok (.getfield 10, 3) := by decide +kernel
theorem dX7_fire_30 : decode cX7_fire 30 = .ok (.aload_n 0, 1) := by decide +kernel
theorem dX7_fire_31 : decode cX7_fire 31 = .ok (.getfield 28, 3) := by decide +kernel
theorem dX7_fire_34 : decode cX7_fire 34 = .ok (.invokevirtual 180, 3) := by decide +kernel
theorem dX7_fire_37 : decode cX7_fire 37 = .ok (.aload_n 0, 1) := by decide +kernel
theorem dX7_fire_38 : decode cX7_fire 38 = .ok (.getfield 28, 3) := by decide +kernel
theorem dX7_fire_41 : decode cX7_fire 41 = .ok (.invokevirtual 142, 3) := by decide +kernel
theorem dX7_fire_44 : decode cX7_fire 44 = .ok (.istore_n 3, 1) := by decide +kernel
theorem dX7_fire_45 : decode cX7_fire 45 = .ok (.aload_n 0, 1) := by decide +kernel
theorem dX7_fire_46 : decode cX7_fire 46 = .ok (.getfield 57, 3) := by decide +kernel
theorem dX7_fire_49 : decode cX7_fire 49 = .ok (.iload_n 1, 1) := by decide +kernel
theorem dX7_fire_50 : decode cX7_fire 50 = .ok (.iload_n 3, 1) := by decide +kernel
theorem dX7_fire_51 : decode cX7_fire 51 = .ok (.invokevirtual 184, 3) := by decide +kernel
theorem dX7_fire_54 : decode cX7_fire 54 = .ok (.istore 4, 2) := by decide +kernel
theorem dX7_fire_56 : decode cX7_fire 56 = .ok (.iload 4, 2) := by decide +kernel
theorem dX7_fire_58 : decode cX7_fire 58 = .ok (.bipush (-9), 2) := by decide +kernel
theorem dX7_fire_60 : decode cX7_fire 60 = .ok (.if_icmp .eq 7, 3) := by decide +kernel
theorem dX7_fire_63 : decode cX7_fire 63 = .ok (.iload_n 2, 1) := by decide +kernel
theorem dX7_fire_64 : decode cX7_fire 64 = .ok (.ifCond .ne 6, 3) := by decide +kernel
theorem dX7_fire_67 : decode cX7_fire 67 = .ok (.iload 4, 2) := by decide +kernel
theorem dX7_fire_69 : decode cX7_fire 69 = .ok (.ireturn, 1) := by decide +kernel
theorem dX7_fire_70 : decode cX7_fire 70 = .ok (.iload_n 3, 1) := by decide +kernel
theorem dX7_fire_71 : decode cX7_fire 71 = .ok (.iload 4, 2) := by decide +kernel
theorem dX7_fire_73 : decode cX7_fire 73 = .ok (.invokestatic 187, 3) := by decide +kernel
theorem dX7_fire_76 : decode cX7_fire 76 = .ok (.ireturn, 1) := by decide +kernel
theorem dX7_spoil_0 : decode cX7_spoil 0 = .ok (.aload_n 0, 1) := by decide +kernel
theorem dX7_spoil_1 : decode cX7_spoil 1 = .ok (.getfield 10, 3) := by decide +kernel
theorem dX7_spoil_4 : decode cX7_spoil 4 = .ok (.iload_n 1, 1) := by decide +kernel
theorem dX7_spoil_5 : decode cX7_spoil 5 = .ok (.invokevirtual 103, 3) := by decide +kernel
theorem dX7_spoil_8 : decode cX7_spoil 8 = .ok (.ifCond .ne 5, 3) := by decide +kernel
theorem dX7_spoil_11 : decode cX7_spoil 11 = .ok (.iconst (-1), 1) := by decide +kernel
theorem dX7_spoil_12 : decode cX7_spoil 12 = .ok (.ireturn, 1) := by decide +kernel
theorem dX7_spoil_13 : decode cX7_spoil 13 = .ok (.aload_n 0, 1) := by decide +kernel
theorem dX7_spoil_14 : decode cX7_spoil 14 = .ok (.getfield 28, 3) := by decide +kernel
theorem dX7_spoil_17 : decode cX7_spoil 17 = .ok (.iload_n 1, 1) := by decide +kernel
theorem dX7_spoil_18 : decode cX7_spoil 18 = .ok (.invokevirtual 120, 3) := by decide +kernel
theorem dX7_spoil_21 : decode cX7_spoil 21 = .ok (.ifCond .eq 24, 3) := by decide +kernel
theorem dX7_spoil_24 : decode cX7_spoil 24 = .ok (.aload_n 0, 1) := by decide +kernel
theorem dX7_spoil_25 : decode cX7_spoil 25 = .ok (.getfield 28, 3) := by decide +kernel
theorem dX7_spoil_28 : decode cX7_spoil 28 = .ok (.iload_n 1, 1) := by decide +kernel
theorem dX7_spoil_29 : decode cX7_spoil 29 = .ok (.invokevirtual 116, 3) := by decide +kernel
theorem dX7_spoil_32 : decode cX7_spoil 32 = .ok (.aload_n 0, 1) := by decide +kernel
theorem dX7_spoil_33 : decode cX7_spoil 33 = .ok (.getfield 10, 3) := by decide +kernel
theorem dX7_spoil_36 : decode cX7_spoil 36 = .ok (.getfield 190, 3) := by decide +kernel
theorem dX7_spoil_39 : decode cX7_spoil 39 = .ok (.isub, 1) := by decide +kernel
theorem dX7_spoil_40 : decode cX7_spoil 40 = .ok (.iconst 1, 1) := by decide +kernel
theorem dX7_spoil_41 : decode cX7_spoil 41 = .ok (.iadd, 1) := by decide +kernel
theorem dX7_spoil_42 : decode cX7_spoil 42 = .ok (.goto 4, 3) := by decide +kernel
theorem dX7_spoil_45 : decode cX7_spoil 45 = .ok (.iconst 0, 1) := by decide +kernel
theorem dX7_spoil_46 : decode cX7_spoil 46 = .ok (.ireturn, 1) := by decide +kernel
theorem dX7_mix_0 : decode cX7_mix 0 = .ok (.iload_n 1, 1) := by decide +kernel
theorem dX7_mix_1 : decode cX7_mix 1 = .ok (.iconst 1, 1) := by decide +kernel
theorem dX7_mix_2 : decode cX7_mix 2 = .ok (.bipush 60, 2) := by decide +kernel
theorem dX7_mix_4 : decode cX7_mix 4 = .ok (.invokestatic 72, 3) := by decide +kernel
theorem dX7_mix_7 : decode cX7_mix 7 = .ok (.ifCond .eq 23, 3) := by decide +kernel
theorem dX7_mix_10 : decode cX7_mix 10 = .ok (.iload_n 2, 1) := by decide +kernel
theorem dX7_mix_11 : decode cX7_mix 11 = .ok (.iconst 0, 1) := by decide +kernel
theorem dX7_mix_12 : decode cX7_mix 12 = .ok (.sipush 5940, 3) := by decide +kernel
theorem dX7_mix_15 : decode cX7_mix 15 = .ok (.invokestatic 72, 3) := by decide +kernel
theorem dX7_mix_18 : decode cX7_mix 18 = .ok (.ifCond .eq 12, 3) := by decide +kernel
theorem dX7_mix_21 : decode cX7_mix 21 = .ok (.iload_n 3, 1) := by decide +kernel
theorem dX7_mix_22 : decode cX7_mix 22 = .ok (.iconst 0, 1) := by decide +kernel
theorem dX7_mix_23 : decode cX7_mix 23 = .ok (.iconst 1, 1) := by decide +kernel
theorem dX7_mix_24 : decode cX7_mix 24 = .ok (.invokestatic 72, 3) := by decide +kernel
theorem dX7_mix_27 : decode cX7_mix 27 = .ok (.ifCond .ne 5, 3) := by decide +kernel
theorem dX7_mix_30 : decode cX7_mix 30 = .ok (.iconst (-1), 1) := by decide +kernel
theorem dX7_mix_31 : decode cX7_mix 31 = .ok (.ireturn, 1) := by decide +kernel
theorem dX7_mix_32 : decode cX7_mix 32 = .ok (.iconst 0, 1) := by decide +kernel
theorem dX7_mix_33 : decode cX7_mix 33 = .ok (.istore 4, 2) := by decide +kernel
theorem dX7_mix_35 : decode cX7_mix 35 = .ok (.bipush (-9), 2) := by decide +kernel
theorem dX7_mix_37 : decode cX7_mix 37 = .ok (.istore 5, 2) := by decide +kernel
theorem dX7_mix_39 : decode cX7_mix 39 = .ok (.iconst 0, 1) := by decide +kernel
theorem dX7_mix_40 : decode cX7_mix 40 = .ok (.istore 6, 2) := by decide +kernel
theorem dX7_mix_42 : decode cX7_mix 42 = .ok (.iload 6, 2) := by decide +kernel
theorem dX7_mix_44 : decode cX7_mix 44 = .ok (.aload_n 0, 1) := by decide +kernel
theorem dX7_mix_45 : decode cX7_mix 45 = .ok (.getfield 10, 3) := by decide +kernel
theorem dX7_mix_48 : decode cX7_mix 48 = .ok (.getfield 172, 3) := by decide +kernel
theorem dX7_mix_51 : decode cX7_mix 51 = .ok (.if_icmp .ge 85, 3) := by decide +kernel
theorem dX7_mix_54 : decode cX7_mix 54 = .ok (.iload 6, 2) := by decide +kernel
theorem dX7_mix_56 : decode cX7_mix 56 = .ok (.iconst 1, 1) := by decide +kernel
theorem dX7_mix_57 : decode cX7_mix 57 = .ok (.iadd, 1) := by decide +kernel
theorem dX7_mix_58 : decode cX7_mix 58 = .ok (.istore 7, 2) := by decide +kernel
theorem dX7_mix_60 : decode cX7_mix 60 = .ok (.iload 7, 2) := by decide +kernel
theorem dX7_mix_62 : decode cX7_mix 62 = .ok (.aload_n 0, 1) := by decide +kernel
theorem dX7_mix_63 : decode cX7_mix 63 = .ok (.getfield 10, 3) := by decide +kernel
theorem dX7_mix_66 : decode cX7_mix 66 = .ok (.getfield 172, 3) := by decide +kernel
theorem dX7_mix_69 : decode cX7_mix 69 = .ok (.if_icmp .ge 61, 3) := by decide +kernel
theorem dX7_mix_72 : decode cX7_mix 72 = .ok (.aload_n 0, 1) := by decide +kernel
theorem dX7_mix_73 : decode cX7_mix 73 = .ok (.getfield 10, 3) := by decide +kernel
theorem dX7_mix_76 : decode cX7_mix 76 = .ok (.iload 6, 2) := by decide +kernel
theorem dX7_mix_78 : decode cX7_mix 78 = .ok (.iload 7, 2) := by decide +kernel
theorem dX7_mix_80 : decode cX7_mix 80 = .ok (.iload_n 1, 1) := by decide +kernel
theorem dX7_mix_81 : decode cX7_mix 81 = .ok (.iload_n 2, 1) := by decide +kernel
theorem dX7_mix_82 : decode cX7_mix 82 = .ok (.invokevirtual 193, 3) := by decide +kernel
theorem dX7_mix_85 : decode cX7_mix 85 = .ok (.istore 8, 2) := by decide +kernel
theorem dX7_mix_87 : decode cX7_mix 87 = .ok (.iload 8, 2) := by decide +kernel
theorem dX7_mix_89 : decode cX7_mix 89 = .ok (.ifCond .le 35, 3) := by decide +kernel
theorem dX7_mix_92 : decode cX7_mix 92 = .ok (.iinc 4 1, 3) := by decide +kernel
theorem dX7_mix_95 : decode cX7_mix 95 = .ok (.iload 5, 2) := by decide +kernel
theorem dX7_mix_97 : decode cX7_mix 97 = .ok (.bipush (-9), 2) := by decide +kernel
theorem dX7_mix_99 : decode cX7_mix 99 = .ok (.if_icmp .ne 21, 3) := by decide +kernel
theorem dX7_mix_102 : decode cX7_mix 102 = .ok (.sipush 1000, 3) := by decide +kernel
theorem dX7_mix_105 : decode cX7_mix 105 = .ok (.iload 6, 2) := by decide +kernel
theorem dX7_mix_107 : decode cX7_mix 107 = .ok (.imul, 1) := by decide +kernel
theorem dX7_mix_108 : decode cX7_mix 108 = .ok (.bipush 100, 2) := by decide +kernel
theorem dX7_mix_110 : decode cX7_mix 110 = .ok (.iload 7, 2) := by decide +kernel
theorem dX7_mix_112 : decode cX7_mix 112 = .ok (.imul, 1) := by decide +kernel
theorem dX7_mix_113 : decode cX7_mix 113 = .ok (.iadd, 1) := by decide +kernel
theorem dX7_mix_114 : decode cX7_mix 114 = .ok (.iload 8, 2) := by decide +kernel
theorem dX7_mix_116 : decode cX7_mix 116 = .ok (.iadd, 1) := by decide +kernel
theorem dX7_mix_117 : decode cX7_mix 117 = .ok (.goto 5, 3) := by decide +kernel
theorem dX7_mix_120 : decode cX7_mix 120 = .ok (.iload 5, 2) := by decide +kernel
theorem dX7_mix_122 : decode cX7_mix 122 = .ok (.istore 5, 2) := by decide +kernel
theorem dX7_mix_124 : decode cX7_mix 124 = .ok (.iinc 7 1, 3) := by decide +kernel
theorem dX7_mix_127 : decode cX7_mix 127 = .ok (.goto (-67), 3) := by decide +kernel
theorem dX7_mix_130 : decode cX7_mix 130 = .ok (.iinc 6 1, 3) := by decide +kernel
theorem dX7_mix_133 : decode cX7_mix 133 = .ok (.goto (-91), 3) := by decide +kernel
theorem dX7_mix_136 : decode cX7_mix 136 = .ok (.iload_n 3, 1) := by decide +kernel
theorem dX7_mix_137 : decode cX7_mix 137 = .ok (.ifCond .ne 8, 3) := by decide +kernel
theorem dX7_mix_140 : decode cX7_mix 140 = .ok (.iload 4, 2) := by decide +kernel
theorem dX7_mix_142 : decode cX7_mix 142 = .ok (.goto 5, 3) := by decide +kernel
theorem dX7_mix_145 : decode cX7_mix 145 = .ok (.iload 5, 2) := by decide +kernel
theorem dX7_mix_147 : decode cX7_mix 147 = .ok (.ireturn, 1) := by decide +kernel
theorem dX7_levels_0 : decode cX7_levels 0 = .ok (.iload_n 1, 1) := by decide +kernel
theorem dX7_levels_1 : decode cX7_levels 1 = .ok (.iconst 0, 1) := by decide +kernel
theorem dX7_levels_2 : decode cX7_levels 2 = .ok (.bipush 60, 2) := by decide +kernel
theorem dX7_levels_4 : decode cX7_levels 4 = .ok (.invokestatic 72, 3) := by decide +kernel
theorem dX7_levels_7 : decode cX7_levels 7 = .ok (.ifCond .eq 25, 3) := by decide +kernel
theorem dX7_levels_10 : decode cX7_levels 10 = .ok (.aload_n 0, 1) := by decide +kernel
theorem dX7_levels_11 : decode cX7_levels 11 = .ok (.getfield 10, 3) := by decide +kernel
theorem dX7_levels_14 : decode cX7_levels 14 = .ok (.iload_n 2, 1) := by decide +kernel
theorem dX7_levels_15 : decode cX7_levels 15 = .ok (.invokevirtual 103, 3) := by decide +kernel
theorem dX7_levels_18 : decode cX7_levels 18 = .ok (.ifCond .eq 14, 3) := by decide +kernel
theorem dX7_levels_21 : decode cX7_levels 21 = .ok (.iload_n 3, 1) := by decide +kernel
theorem dX7_levels_22 : decode cX7_levels 22 = .ok (.iconst 0, 1) := by decide +kernel
theorem dX7_levels_23 : decode cX7_levels 23 = .ok (.sipush 420, 3) := by decide +kernel
theorem dX7_levels_26 : decode cX7_levels 26 = .ok (.invokestatic 72, 3) := by decide +kernel
theorem dX7_levels_29 : decode cX7_levels 29 = .ok (.ifCond .ne 5, 3) := by decide +kernel
theorem dX7_levels_32 : decode cX7_levels 32 = .ok (.iconst (-1), 1) := by decide +kernel
theorem dX7_levels_33 : decode cX7_levels 33 = .ok (.ireturn, 1) := by decide +kernel
theorem dX7_levels_34 : decode cX7_levels 34 = .ok (.aload_n 0, 1) := by decide +kernel
theorem dX7_levels_35 : decode cX7_levels 35 = .ok (.getfield 50, 3) := by decide +kernel
theorem dX7_levels_38 : decode cX7_levels 38 = .ok (.iload_n 1, 1) := by decide +kernel
theorem dX7_levels_39 : decode cX7_levels 39 = .ok (.iload_n 2, 1) := by decide +kernel
theorem dX7_levels_40 : decode cX7_levels 40 = .ok (.iload_n 3, 1) := by decide +kernel
theorem dX7_levels_41 : decode cX7_levels 41 = .ok (.invokevirtual 197, 3) := by decide +kernel
theorem dX7_levels_44 : decode cX7_levels 44 = .ok (.ifCond .eq 13, 3) := by decide +kernel
theorem dX7_levels_47 : decode cX7_levels 47 = .ok (.aload_n 0, 1) := by decide +kernel
theorem dX7_levels_48 : decode cX7_levels 48 = .ok (.getfield 50, 3) := by decide +kernel
theorem dX7_levels_51 : decode cX7_levels 51 = .ok (.getfield 100, 3) := by decide +kernel
theorem dX7_levels_54 : decode cX7_levels 54 = .ok (.goto 5, 3) := by decide +kernel
theorem dX7_levels_57 : decode cX7_levels 57 = .ok (.bipush (-3), 2) := by decide +kernel
theorem dX7_levels_59 : decode cX7_levels 59 = .ok (.ireturn, 1) := by decide +kernel
theorem dX7_forget_0 : decode cX7_forget 0 = .ok (.aload_n 0, 1) := by decide +kernel
theorem dX7_forget_1 : decode cX7_forget 1 = .ok (.getfield 50, 3) := by decide +kernel
theorem dX7_forget_4 : decode cX7_forget 4 = .ok (.getfield 100, 3) := by decide +kernel
theorem dX7_forget_7 : decode cX7_forget 7 = .ok (.istore_n 1, 1) := by decide +kernel
theorem dX7_forget_8 : decode cX7_forget 8 = .ok (.aload_n 0, 1) := by decide +kernel
theorem dX7_forget_9 : decode cX7_forget 9 = .ok (.getfield 50, 3) := by decide +kernel
theorem dX7_forget_12 : decode cX7_forget 12 = .ok (.iconst 0, 1) := by decide +kernel
theorem dX7_forget_13 : decode cX7_forget 13 = .ok (.putfield 100, 3) := by decide +kernel
theorem dX7_forget_16 : decode cX7_forget 16 = .ok (.iload_n 1, 1) := by decide +kernel
theorem dX7_forget_17 : decode cX7_forget 17 = .ok (.ireturn, 1) := by decide +kernel
theorem dX7_theft_0 : decode cX7_theft 0 = .ok (.iload_n 1, 1) := by decide +kernel
theorem dX7_theft_1 : decode cX7_theft 1 = .ok (.iconst 0, 1) := by decide +kernel
theorem dX7_theft_2 : decode cX7_theft 2 = .ok (.iconst 2, 1) := by decide +kernel
theorem dX7_theft_3 : decode cX7_theft 3 = .ok (.invokestatic 72, 3) := by decide +kernel
theorem dX7_theft_6 : decode cX7_theft 6 = .ok (.ifCond .ne 5, 3) := by decide +kernel
theorem dX7_theft_9 : decode cX7_theft 9 = .ok (.iconst (-1), 1) := by decide +kernel
theorem dX7_theft_10 : decode cX7_theft 10 = .ok (.ireturn, 1) := by decide +kernel
theorem dX7_theft_11 : decode cX7_theft 11 = .ok (.iconst 0, 1) := by decide +kernel
theorem dX7_theft_12 : decode cX7_theft 12 = .ok (.istore_n 2, 1) := by decide +kernel
theorem dX7_theft_13 : decode cX7_theft 13 = .ok (.bipush (-9), 2) := by decide +kernel
theorem dX7_theft_15 : decode cX7_theft 15 = .ok (.istore_n 3, 1) := by decide +kernel
theorem dX7_theft_16 : decode cX7_theft 16 = .ok (.iconst 0, 1) := by decide +kernel
theorem dX7_theft_17 : decode cX7_theft 17 = .ok (.istore 4, 2) := by decide +kernel
theorem dX7_theft_19 : decode cX7_theft 19 = .ok (.iconst 0, 1) := by decide +kernel
theorem dX7_theft_20 : decode cX7_theft 20 = .ok (.istore 5, 2) := by decide +kernel
theorem dX7_theft_22 : decode cX7_theft 22 = .ok (.iload 5, 2) := by decide +kernel
theorem dX7_theft_24 : decode cX7_theft 24 = .ok (.aload_n 0, 1) := by decide +kernel
theorem dX7_theft_25 : decode cX7_theft 25 = .ok (.getfield 10, 3) := by decide +kernel
theorem dX7_theft_28 : decode cX7_theft 28 = .ok (.getfield 172, 3) := by decide +kernel
theorem dX7_theft_31 : decode cX7_theft 31 = .ok (.if_icmp .ge 83, 3) := by decide +kernel
theorem dX7_theft_34 : decode cX7_theft 34 = .ok (.bipush 20, 2) := by decide +kernel
theorem dX7_theft_36 : decode cX7_theft 36 = .ok (.aload_n 0, 1) := by decide +kernel
theorem dX7_theft_37 : decode cX7_theft 37 = .ok (.getfield 28, 3) := by decide +kernel
theorem dX7_theft_40 : decode cX7_theft 40 = .ok (.iload 5, 2) := by decide +kernel
theorem dX7_theft_42 : decode cX7_theft 42 = .ok (.invokevirtual 116, 3) := by decide +kernel
theorem dX7_theft_45 : decode cX7_theft 45 = .ok (.invokestatic 199, 3) := by decide +kernel
theorem dX7_theft_48 : decode cX7_theft 48 = .ok (.istore 6, 2) := by decide +kernel
theorem dX7_theft_50 : decode cX7_theft 50 = .ok (.iconst 1, 1) := by decide +kernel
theorem dX7_theft_51 : decode cX7_theft 51 = .ok (.istore 7, 2) := by decide +kernel
theorem dX7_theft_53 : decode cX7_theft 53 = .ok (.iload 7, 2) := by decide +kernel
theorem dX7_theft_55 : decode cX7_theft 55 = .ok (.iload 6, 2) := by decide +kernel
theorem dX7_theft_57 : decode cX7_theft 57 = .ok (.if_icmp .gt 51, 3) := by decide +kernel
theorem dX7_theft_60 : decode cX7_theft 60 = .ok (.aload_n 0, 1) := by decide +kernel
theorem dX7_theft_61 : decode cX7_theft 61 = .ok (.iload 5, 2) := by decide +kernel
theorem dX7_theft_63 : decode cX7_theft 63 = .ok (.iload 7, 2) := by decide +kernel
theorem dX7_theft_65 : decode cX7_theft 65 = .ok (.invokevirtual 202, 3) := by decide +kernel
theorem dX7_theft_68 : decode cX7_theft 68 = .ok (.ifCond .eq 34, 3) := by decide +kernel
theorem dX7_theft_71 : decode cX7_theft 71 = .ok (.iinc 2 1, 3) := by decide +kernel
theorem dX7_theft_74 : decode cX7_theft 74 = .ok (.iload_n 3, 1) := by decide +kernel
theorem dX7_theft_75 : decode cX7_theft 75 = .ok (.bipush (-9), 2) := by decide +kernel
theorem dX7_theft_77 : decode cX7_theft 77 = .ok (.if_icmp .ne 14, 3) := by decide +kernel
theorem dX7_theft_80 : decode cX7_theft 80 = .ok (.bipush 100, 2) := by decide +kernel
theorem dX7_theft_82 : decode cX7_theft 82 = .ok (.iload 5, 2) := by decide +kernel
theorem dX7_theft_84 : decode cX7_theft 84 = .ok (.imul, 1) := by decide +kernel
theorem dX7_theft_85 : decode cX7_theft 85 = .ok (.iload 7, 2) := by decide +kernel
theorem dX7_theft_87 : decode cX7_theft 87 = .ok (.iadd, 1) := by decide +kernel
theorem dX7_theft_88 : decode cX7_theft 88 = .ok (.goto 4, 3) := by decide +kernel
theorem dX7_theft_91 : decode cX7_theft 91 = .ok (.iload_n 3, 1) := by decide +kernel
theorem dX7_theft_92 : decode cX7_theft 92 = .ok (.istore_n 3, 1) := by decide +kernel
theorem dX7_theft_93 : decode cX7_theft 93 = .ok (.iload 4, 2) := by decide +kernel
theorem dX7_theft_95 : decode cX7_theft 95 = .ok (.iconst 1, 1) := by decide +kernel
theorem dX7_theft_96 : decode cX7_theft 96 = .ok (.iload 5, 2) := by decide +kernel
theorem dX7_theft_98 : decode cX7_theft 98 = .ok (.ishl, 1) := by decide +kernel
theorem dX7_theft_99 : decode cX7_theft 99 = .ok (.ior, 1) := by decide +kernel
theorem dX7_theft_100 : decode cX7_theft 100 = .ok (.istore 4, 2) := by decide +kernel
theorem dX7_theft_102 : decode cX7_theft 102 = .ok (.iinc 7 1, 3) := by decide +kernel
theorem dX7_theft_105 : decode cX7_theft 105 = .ok (.goto (-52), 3) := by decide +kernel
theorem dX7_theft_108 : decode cX7_theft 108 = .ok (.iinc 5 1, 3) := by decide +kernel
theorem dX7_theft_111 : decode cX7_theft 111 = .ok (.goto (-89), 3) := by decide +kernel
theorem dX7_theft_114 : decode cX7_theft 114 = .ok (.iload_n 1, 1) := by decide +kernel
theorem dX7_theft_115 : decode cX7_theft 115 = .ok (.ifCond .ne 7, 3) := by decide +kernel
theorem dX7_theft_118 : decode cX7_theft 118 = .ok (.iload_n 2, 1) := by decide +kernel
theorem dX7_theft_119 : decode cX7_theft 119 = .ok (.goto 14, 3) := by decide +kernel
theorem dX7_theft_122 : decode cX7_theft 122 = .ok (.iload_n 1, 1) := by decide +kernel
theorem dX7_theft_123 : decode cX7_theft 123 = .ok (.iconst 1, 1) := by decide +kernel
theorem dX7_theft_124 : decode cX7_theft 124 = .ok (.if_icmp .ne 7, 3) := by decide +kernel
theorem dX7_theft_127 : decode cX7_theft 127 = .ok (.iload_n 3, 1) := by decide +kernel
theorem dX7_theft_128 : decode cX7_theft 128 = .ok (.goto 5, 3) := by decide +kernel
theorem dX7_theft_131 : decode cX7_theft 131 = .ok (.iload 4, 2) := by decide +kernel
theorem dX7_theft_133 : decode cX7_theft 133 = .ok (.ireturn, 1) := by decide +kernel
theorem dX7_areLevelsSo_0 : decode cX7_areLevelsSo 0 = .ok (.iconst 0, 1) := by decide +kernel
theorem dX7_areLevelsSo_1 : decode cX7_areLevelsSo 1 = .ok (.istore_n 3, 1) := by decide +kernel
theorem dX7_areLevelsSo_2 : decode cX7_areLevelsSo 2 = .ok (.iload_n 3, 1) := by decide +kernel
theorem dX7_areLevelsSo_3 : decode cX7_areLevelsSo 3 = .ok (.aload_n 0, 1) := by decide +kernel
theorem dX7_areLevelsSo_4 : decode cX7_areLevelsSo 4 = .ok (.getfield 50, 3) := by decide +kernel
theorem dX7_areLevelsSo_7 : decode cX7_areLevelsSo 7 = .ok (.getfield 100, 3) := by decide +kernel
theorem dX7_areLevelsSo_10 : decode cX7_areLevelsSo 10 = .ok (.if_icmp .ge 74, 3) := by decide +kernel
theorem dX7_areLevelsSo_13 : decode cX7_areLevelsSo 13 = .ok (.aload_n 0, 1) := by decide +kernel
theorem dX7_areLevelsSo_14 : decode cX7_areLevelsSo 14 = .ok (.getfield 50, 3) := by decide +kernel
theorem dX7_areLevelsSo_17 : decode cX7_areLevelsSo 17 = .ok (.getfield 205, 3) := by decide +kernel
theorem dX7_areLevelsSo_20 : decode cX7_areLevelsSo 20 = .ok (.iload_n 3, 1) := by decide +kernel
theorem dX7_areLevelsSo_21 : decode cX7_areLevelsSo 21 = .ok (.iaload, 1) := by decide +kernel
theorem dX7_areLevelsSo_22 : decode cX7_areLevelsSo 22 = .ok (.istore 4, 2) := by decide +kernel
theorem dX7_areLevelsSo_24 : decode cX7_areLevelsSo 24 = .ok (.aload_n 0, 1) := by decide +kernel
theorem dX7_areLevelsSo_25 : decode cX7_areLevelsSo 25 = .ok (.getfield 28, 3) := by decide +kernel
theorem dX7_areLevelsSo_28 : decode cX7_areLevelsSo 28 = .ok (.iload 4, 2) := by decide +kernel
theorem dX7_areLevelsSo_30 : decode cX7_areLevelsSo 30 = .ok (.invokevirtual 116, 3) := by decide +kernel
theorem dX7_areLevelsSo_33 : decode cX7_areLevelsSo 33 = .ok (.iload 4, 2) := by decide +kernel
theorem dX7_areLevelsSo_35 : decode cX7_areLevelsSo 35 = .ok (.iload_n 1, 1) := by decide +kernel
theorem dX7_areLevelsSo_36 : decode cX7_areLevelsSo 36 = .ok (.if_icmp .ne 7, 3) := by decide +kernel
theorem dX7_areLevelsSo_39 : decode cX7_areLevelsSo 39 = .ok (.iload_n 2, 1) := by decide +kernel
theorem dX7_areLevelsSo_40 : decode cX7_areLevelsSo 40 = .ok (.goto 4, 3) := by decide +kernel
theorem dX7_areLevelsSo_43 : decode cX7_areLevelsSo 43 = .ok (.iconst 0, 1) := by decide +kernel
theorem dX7_areLevelsSo_44 : decode cX7_areLevelsSo 44 = .ok (.isub, 1) := by decide +kernel
theorem dX7_areLevelsSo_45 : decode cX7_areLevelsSo 45 = .ok (.istore 5, 2) := by decide +kernel
theorem dX7_areLevelsSo_47 : decode cX7_areLevelsSo 47 = .ok (.aload_n 0, 1) := by decide +kernel
theorem dX7_areLevelsSo_48 : decode cX7_areLevelsSo 48 = .ok (.iload 5, 2) := by decide +kernel
theorem dX7_areLevelsSo_50 : decode cX7_areLevelsSo 50 = .ok (.aload_n 0, 1) := by decide +kernel
theorem dX7_areLevelsSo_51 : decode cX7_areLevelsSo 51 = .ok (.getfield 50, 3) := by decide +kernel
theorem dX7_areLevelsSo_54 : decode cX7_areLevelsSo 54 = .ok (.getfield 207, 3) := by decide +kernel
theorem dX7_areLevelsSo_57 : decode cX7_areLevelsSo 57 = .ok (.iload_n 3, 1) := by decide +kernel
theorem dX7_areLevelsSo_58 : decode cX7_areLevelsSo 58 = .ok (.iaload, 1) := by decide +kernel
theorem dX7_areLevelsSo_59 : decode cX7_areLevelsSo 59 = .ok (.iload 4, 2) := by decide +kernel
theorem dX7_areLevelsSo_61 : decode cX7_areLevelsSo 61 = .ok (.invokevirtual 169, 3) := by decide +kernel
theorem dX7_areLevelsSo_64 : decode cX7_areLevelsSo 64 = .ok (.aload_n 0, 1) := by decide +kernel
theorem dX7_areLevelsSo_65 : decode cX7_areLevelsSo 65 = .ok (.getfield 50, 3) := by decide +kernel
theorem dX7_areLevelsSo_68 : decode cX7_areLevelsSo 68 = .ok (.getfield 209, 3) := by decide +kernel
theorem dX7_areLevelsSo_71 : decode cX7_areLevelsSo 71 = .ok (.iload_n 3, 1) := by decide +kernel
theorem dX7_areLevelsSo_72 : decode cX7_areLevelsSo 72 = .ok (.iaload, 1) := by decide +kernel
theorem dX7_areLevelsSo_73 : decode cX7_areLevelsSo 73 = .ok (.if_icmp .eq 5, 3) := by decide +kernel
theorem dX7_areLevelsSo_76 : decode cX7_areLevelsSo 76 = .ok (.iconst 0, 1) := by decide +kernel
theorem dX7_areLevelsSo_77 : decode cX7_areLevelsSo 77 = .ok (.ireturn, 1) := by decide +kernel
theorem dX7_areLevelsSo_78 : decode cX7_areLevelsSo 78 = .ok (.iinc 3 1, 3) := by decide +kernel
theorem dX7_areLevelsSo_81 : decode cX7_areLevelsSo 81 = .ok (.goto (-79), 3) := by decide +kernel
theorem dX7_areLevelsSo_84 : decode cX7_areLevelsSo 84 = .ok (.iconst 1, 1) := by decide +kernel
theorem dX7_areLevelsSo_85 : decode cX7_areLevelsSo 85 = .ok (.ireturn, 1) := by decide +kernel
theorem dX7_shelves_0 : decode cX7_shelves 0 = .ok (.aload_n 0, 1) := by decide +kernel
theorem dX7_shelves_1 : decode cX7_shelves 1 = .ok (.getfield 57, 3) := by decide +kernel
theorem dX7_shelves_4 : decode cX7_shelves 4 = .ok (.aload_n 0, 1) := by decide +kernel
theorem dX7_shelves_5 : decode cX7_shelves 5 = .ok (.getfield 10, 3) := by decide +kernel
theorem dX7_shelves_8 : decode cX7_shelves 8 = .ok (.aload_n 0, 1) := by decide +kernel
theorem dX7_shelves_9 : decode cX7_shelves 9 = .ok (.getfield 28, 3) := by decide +kernel
theorem dX7_shelves_12 : decode cX7_shelves 12 = .ok (.invokevirtual 180, 3) := by decide +kernel
theorem dX7_shelves_15 : decode cX7_shelves 15 = .ok (.aload_n 0, 1) := by decide +kernel
theorem dX7_shelves_16 : decode cX7_shelves 16 = .ok (.getfield 57, 3) := by decide +kernel
theorem dX7_shelves_19 : decode cX7_shelves 19 = .ok (.invokevirtual 212, 3) := by decide +kernel
theorem dX7_shelves_22 : decode cX7_shelves 22 = .ok (.ireturn, 1) := by decide +kernel
theorem dX7_beside_0 : decode cX7_beside 0 = .ok (.aload_n 0, 1) := by decide +kernel
theorem dX7_beside_1 : decode cX7_beside 1 = .ok (.getfield 10, 3) := by decide +kernel
theorem dX7_beside_4 : decode cX7_beside 4 = .ok (.iload_n 1, 1) := by decide +kernel
theorem dX7_beside_5 : decode cX7_beside 5 = .ok (.invokevirtual 103, 3) := by decide +kernel
theorem dX7_beside_8 : decode cX7_beside 8 = .ok (.ifCond .ne 5, 3) := by decide +kernel
theorem dX7_beside_11 : decode cX7_beside 11 = .ok (.iconst (-1), 1) := by decide +kernel
theorem dX7_beside_12 : decode cX7_beside 12 = .ok (.ireturn, 1) := by decide +kernel
theorem dX7_beside_13 : decode cX7_beside 13 = .ok (.aload_n 0, 1) := by decide +kernel
theorem dX7_beside_14 : decode cX7_beside 14 = .ok (.getfield 57, 3) := by decide +kernel
theorem dX7_beside_17 : decode cX7_beside 17 = .ok (.aload_n 0, 1) := by decide +kernel
theorem dX7_beside_18 : decode cX7_beside 18 = .ok (.getfield 10, 3) := by decide +kernel
theorem dX7_beside_21 : decode cX7_beside 21 = .ok (.aload_n 0, 1) := by decide +kernel
theorem dX7_beside_22 : decode cX7_beside 22 = .ok (.getfield 28, 3) := by decide +kernel
theorem dX7_beside_25 : decode cX7_beside 25 = .ok (.invokevirtual 180, 3) := by decide +kernel
theorem dX7_beside_28 : decode cX7_beside 28 = .ok (.aload_n 0, 1) := by decide +kernel
theorem dX7_beside_29 : decode cX7_beside 29 = .ok (.getfield 57, 3) := by decide +kernel
theorem dX7_beside_32 : decode cX7_beside 32 = .ok (.iload_n 1, 1) := by decide +kernel
theorem dX7_beside_33 : decode cX7_beside 33 = .ok (.invokevirtual 215, 3) := by decide +kernel
theorem dX7_beside_36 : decode cX7_beside 36 = .ok (.ireturn, 1) := by decide +kernel
theorem dX7_odds_0 : decode cX7_odds 0 = .ok (.iload_n 1, 1) := by decide +kernel
theorem dX7_odds_1 : decode cX7_odds 1 = .ok (.iconst 0, 1) := by decide +kernel
theorem dX7_odds_2 : decode cX7_odds 2 = .ok (.bipush 10, 2) := by decide +kernel
theorem dX7_odds_4 : decode cX7_odds 4 = .ok (.invokestatic 72, 3) := by decide +kernel
theorem dX7_odds_7 : decode cX7_odds 7 = .ok (.ifCond .eq 22, 3) := by decide +kernel
theorem dX7_odds_10 : decode cX7_odds 10 = .ok (.iload_n 2, 1) := by decide +kernel
theorem dX7_odds_11 : decode cX7_odds 11 = .ok (.iconst 0, 1) := by decide +kernel
theorem dX7_odds_12 : decode cX7_odds 12 = .ok (.bipush 7, 2) := by decide +kernel
theorem dX7_odds_14 : decode cX7_odds 14 = .ok (.invokestatic 72, 3) := by decide +kernel
theorem dX7_odds_17 : decode cX7_odds 17 = .ok (.ifCond .eq 12, 3) := by decide +kernel
theorem dX7_odds_20 : decode cX7_odds 20 = .ok (.iload_n 3, 1) := by decide +kernel
theorem dX7_odds_21 : decode cX7_odds 21 = .ok (.iconst 0, 1) := by decide +kernel
theorem dX7_odds_22 : decode cX7_odds 22 = .ok (.iconst 1, 1) := by decide +kernel
theorem dX7_odds_23 : decode cX7_odds 23 = .ok (.invokestatic 72, 3) := by decide +kernel
theorem dX7_odds_26 : decode cX7_odds 26 = .ok (.ifCond .ne 5, 3) := by decide +kernel
theorem dX7_odds_29 : decode cX7_odds 29 = .ok (.iconst (-1), 1) := by decide +kernel
theorem dX7_odds_30 : decode cX7_odds 30 = .ok (.ireturn, 1) := by decide +kernel
theorem dX7_odds_31 : decode cX7_odds 31 = .ok (.aload_n 0, 1) := by decide +kernel
theorem dX7_odds_32 : decode cX7_odds 32 = .ok (.getfield 64, 3) := by decide +kernel
theorem dX7_odds_35 : decode cX7_odds 35 = .ok (.iload_n 1, 1) := by decide +kernel
theorem dX7_odds_36 : decode cX7_odds 36 = .ok (.iload_n 2, 1) := by decide +kernel
theorem dX7_odds_37 : decode cX7_odds 37 = .ok (.aload_n 0, 1) := by decide +kernel
theorem dX7_odds_38 : decode cX7_odds 38 = .ok (.getfield 28, 3) := by decide +kernel
theorem dX7_odds_41 : decode cX7_odds 41 = .ok (.invokevirtual 142, 3) := by decide +kernel
theorem dX7_odds_44 : decode cX7_odds 44 = .ok (.invokestatic 218, 3) := by decide +kernel
theorem dX7_odds_47 : decode cX7_odds 47 = .ok (.invokevirtual 223, 3) := by decide +kernel
theorem dX7_odds_50 : decode cX7_odds 50 = .ok (.iload_n 3, 1) := by decide +kernel
theorem dX7_odds_51 : decode cX7_odds 51 = .ok (.ifCond .ne 13, 3) := by decide +kernel
theorem dX7_odds_54 : decode cX7_odds 54 = .ok (.aload_n 0, 1) := by decide +kernel
theorem dX7_odds_55 : decode cX7_odds 55 = .ok (.getfield 64, 3) := by decide +kernel
theorem dX7_odds_58 : decode cX7_odds 58 = .ok (.getfield 227, 3) := by decide +kernel
theorem dX7_odds_61 : decode cX7_odds 61 = .ok (.goto 10, 3) := by decide +kernel
theorem dX7_odds_64 : decode cX7_odds 64 = .ok (.aload_n 0, 1) := by decide +kernel
theorem dX7_odds_65 : decode cX7_odds 65 = .ok (.getfield 64, 3) := by decide +kernel
theorem dX7_odds_68 : decode cX7_odds 68 = .ok (.getfield 230, 3) := by decide +kernel
theorem dX7_odds_71 : decode cX7_odds 71 = .ok (.ireturn, 1) := by decide +kernel
theorem dX7_rate_0 : decode cX7_rate 0 = .ok (.aload_n 0, 1) := by decide +kernel
theorem dX7_rate_1 : decode cX7_rate 1 = .ok (.getfield 10, 3) := by decide +kernel
theorem dX7_rate_4 : decode cX7_rate 4 = .ok (.iload_n 2, 1) := by decide +kernel
theorem dX7_rate_5 : decode cX7_rate 5 = .ok (.invokevirtual 103, 3) := by decide +kernel
theorem dX7_rate_8 : decode cX7_rate 8 = .ok (.ifCond .ne 6, 3) := by decide +kernel
theorem dX7_rate_11 : decode cX7_rate 11 = .ok (.ldc 233, 2) := by decide +kernel
theorem dX7_rate_13 : decode cX7_rate 13 = .ok (.ireturn, 1) := by decide +kernel
theorem dX7_rate_14 : decode cX7_rate 14 = .ok (.iload_n 1, 1) := by decide +kernel
theorem dX7_rate_15 : decode cX7_rate 15 = .ok (.tableswitch 73 0 5 #[37, 43, 49, 55, 61, 67], 37) := by decide +kernel
theorem dX7_rate_52 : decode cX7_rate 52 = .ok (.aload_n 0, 1) := by decide +kernel
theorem dX7_rate_53 : decode cX7_rate 53 = .ok (.iload_n 2, 1) := by decide +kernel
theorem dX7_rate_54 : decode cX7_rate 54 = .ok (.invokevirtual 234, 3) := by decide +kernel
theorem dX7_rate_57 : decode cX7_rate 57 = .ok (.ireturn, 1) := by decide +kernel
theorem dX7_rate_58 : decode cX7_rate 58 = .ok (.aload_n 0, 1) := by decide +kernel
theorem dX7_rate_59 : decode cX7_rate 59 = .ok (.iload_n 2, 1) := by decide +kernel
theorem dX7_rate_60 : decode cX7_rate 60 = .ok (.invokevirtual 237, 3) := by decide +kernel
theorem dX7_rate_63 : decode cX7_rate 63 = .ok (.ireturn, 1) := by decide +kernel
theorem dX7_rate_64 : decode cX7_rate 64 = .ok (.aload_n 0, 1) := by decide +kernel
theorem dX7_rate_65 : decode cX7_rate 65 = .ok (.iload_n 2, 1) := by decide +kernel
theorem dX7_rate_66 : decode cX7_rate 66 = .ok (.invokevirtual 240, 3) := by decide +kernel
theorem dX7_rate_69 : decode cX7_rate 69 = .ok (.ireturn, 1) := by decide +kernel
theorem dX7_rate_70 : decode cX7_rate 70 = .ok (.aload_n 0, 1) := by decide +kernel
theorem dX7_rate_71 : decode cX7_rate 71 = .ok (.iload_n 2, 1) := by decide +kernel
theorem dX7_rate_72 : decode cX7_rate 72 = .ok (.invokevirtual 243, 3) := by decide +kernel
theorem dX7_rate_75 : decode cX7_rate 75 = .ok (.ireturn, 1) := by decide +kernel
theorem dX7_rate_76 : decode cX7_rate 76 = .ok (.aload_n 0, 1) := by decide +kernel
theorem dX7_rate_77 : decode cX7_rate 77 = .ok (.iload_n 2, 1) := by decide +kernel
theorem dX7_rate_78 : decode cX7_rate 78 = .ok (.invokevirtual 246, 3) := by decide +kernel
theorem dX7_rate_81 : decode cX7_rate 81 = .ok (.ireturn, 1) := by decide +kernel
theorem dX7_rate_82 : decode cX7_rate 82 = .ok (.aload_n 0, 1) := by decide +kernel
theorem dX7_rate_83 : decode cX7_rate 83 = .ok (.iload_n 2, 1) := by decide +kernel
theorem dX7_rate_84 : decode cX7_rate 84 = .ok (.invokevirtual 249, 3) := by decide +kernel
theorem dX7_rate_87 : decode cX7_rate 87 = .ok (.ireturn, 1) := by decide +kernel
theorem dX7_rate_88 : decode cX7_rate 88 = .ok (.ldc 233, 2) := by decide +kernel
theorem dX7_rate_90 : decode cX7_rate 90 = .ok (.ireturn, 1) := by decide +kernel
theorem dX7_rateOfPan_0 : decode cX7_rateOfPan 0 = .ok (.aload_n 0, 1) := by decide +kernel
theorem dX7_rateOfPan_1 : decode cX7_rateOfPan 1 = .ok (.dup, 1) := by decide +kernel
theorem dX7_rateOfPan_2 : decode cX7_rateOfPan 2 = .ok (.getfield 68, 3) := by decide +kernel
theorem dX7_rateOfPan_5 : decode cX7_rateOfPan 5 = .ok (.lconst 1, 1) := by decide +kernel
theorem dX7_rateOfPan_6 : decode cX7_rateOfPan 6 = .ok (.ladd, 1) := by decide +kernel
theorem dX7_rateOfPan_7 : decode cX7_rateOfPan 7 = .ok (.putfield 68, 3) := by decide +kernel
theorem dX7_rateOfPan_10 : decode cX7_rateOfPan 10 = .ok (.aload_n 0, 1) := by decide +kernel
theorem dX7_rateOfPan_11 : decode cX7_rateOfPan 11 = .ok (.getfield 28, 3) := by decide +kernel
theorem dX7_rateOfPan_14 : decode cX7_rateOfPan 14 = .ok (.iload_n 1, 1) := by decide +kernel
theorem dX7_rateOfPan_15 : decode cX7_rateOfPan 15 = .ok (.invokevirtual 116, 3) := by decide +kernel
theorem dX7_rateOfPan_18 : decode cX7_rateOfPan 18 = .ok (.ireturn, 1) := by decide +kernel
theorem dX7_rateOfSaucer_0 : decode cX7_rateOfSaucer 0 = .ok (.aload_n 0, 1) := by decide +kernel
theorem dX7_rateOfSaucer_1 : decode cX7_rateOfSaucer 1 = .ok (.dup, 1) := by decide +kernel
theorem dX7_rateOfSaucer_2 : decode cX7_rateOfSaucer 2 = .ok (.getfield 68, 3) := by decide +kernel
theorem dX7_rateOfSaucer_5 : decode cX7_rateOfSaucer 5 = .ok (.ldc2_w 252, 3) := by decide +kernel
theorem dX7_rateOfSaucer_8 : decode cX7_rateOfSaucer 8 = .ok (.ladd, 1) := by decide +kernel
theorem dX7_rateOfSaucer_9 : decode cX7_rateOfSaucer 9 = .ok (.putfield 68, 3) := by decide +kernel
theorem dX7_rateOfSaucer_12 : decode cX7_rateOfSaucer 12 = .ok (.aload_n 0, 1) := by decide +kernel
theorem dX7_rateOfSaucer_13 : decode cX7_rateOfSaucer 13 = .ok (.iload_n 1, 1) := by decide +kernel
theorem dX7_rateOfSaucer_14 : decode cX7_rateOfSaucer 14 = .ok (.invokevirtual 234, 3) := by decide +kernel
theorem dX7_rateOfSaucer_17 : decode cX7_rateOfSaucer 17 = .ok (.aload_n 0, 1) := by decide +kernel
theorem dX7_rateOfSaucer_18 : decode cX7_rateOfSaucer 18 = .ok (.getfield 10, 3) := by decide +kernel
theorem dX7_rateOfSaucer_21 : decode cX7_rateOfSaucer 21 = .ok (.getfield 110, 3) := by decide +kernel
theorem dX7_rateOfSaucer_24 : decode cX7_rateOfSaucer 24 = .ok (.iload_n 1, 1) := by decide +kernel
theorem dX7_rateOfSaucer_25 : decode cX7_rateOfSaucer 25 = .ok (.iaload, 1) := by decide +kernel
theorem dX7_rateOfSaucer_26 : decode cX7_rateOfSaucer 26 = .ok (.iadd, 1) := by decide +kernel
theorem dX7_rateOfSaucer_27 : decode cX7_rateOfSaucer 27 = .ok (.ireturn, 1) := by decide +kernel
theorem dX7_rateOfBottle_0 : decode cX7_rateOfBottle 0 = .ok (.aload_n 0, 1) := by decide +kernel
theorem dX7_rateOfBottle_1 : decode cX7_rateOfBottle 1 = .ok (.dup, 1) := by decide +kernel
theorem dX7_rateOfBottle_2 : decode cX7_rateOfBottle 2 = .ok (.getfield 68, 3) := by decide +kernel
theorem dX7_rateOfBottle_5 : decode cX7_rateOfBottle 5 = .ok (.ldc2_w 254, 3) := by decide +kernel
theorem dX7_rateOfBottle_8 : decode cX7_rateOfBottle 8 = .ok (.ladd, 1) := by decide +kernel
theorem dX7_rateOfBottle_9 : decode cX7_rateOfBottle 9 = .ok (.putfield 68, 3) := by decide +kernel
theorem dX7_rateOfBottle_12 : decode cX7_rateOfBottle 12 = .ok (.aload_n 0, 1) := by decide +kernel
theorem dX7_rateOfBottle_13 : decode cX7_rateOfBottle 13 = .ok (.iload_n 1, 1) := by decide +kernel
theorem dX7_rateOfBottle_14 : decode cX7_rateOfBottle 14 = .ok (.invokevirtual 234, 3) := by decide +kernel
theorem dX7_rateOfBottle_17 : decode cX7_rateOfBottle 17 = .ok (.aload_n 0, 1) := by decide +kernel
theorem dX7_rateOfBottle_18 : decode cX7_rateOfBottle 18 = .ok (.getfield 10, 3) := by decide +kernel
theorem dX7_rateOfBottle_21 : decode cX7_rateOfBottle 21 = .ok (.getfield 106, 3) := by decide +kernel
theorem dX7_rateOfBottle_24 : decode cX7_rateOfBottle 24 = .ok (.iload_n 1, 1) := by decide +kernel
theorem dX7_rateOfBottle_25 : decode cX7_rateOfBottle 25 = .ok (.iaload, 1) := by decide +kernel
theorem dX7_rateOfBottle_26 : decode cX7_rateOfBottle 26 = .ok (.isub, 1) := by decide +kernel
theorem dX7_rateOfBottle_27 : decode cX7_rateOfBottle 27 = .ok (.ireturn, 1) := by decide +kernel
theorem dX7_rateOfFont_0 : decode cX7_rateOfFont 0 = .ok (.aload_n 0, 1) := by decide +kernel
theorem dX7_rateOfFont_1 : decode cX7_rateOfFont 1 = .ok (.dup, 1) := by decide +kernel
theorem dX7_rateOfFont_2 : decode cX7_rateOfFont 2 = .ok (.getfield 68, 3) := by decide +kernel
theorem dX7_rateOfFont_5 : decode cX7_rateOfFont 5 = .ok (.ldc2_w 256, 3) := by decide +kernel
theorem dX7_rateOfFont_8 : decode cX7_rateOfFont 8 = .ok (.ladd, 1) := by decide +kernel
theorem dX7_rateOfFont_9 : decode cX7_rateOfFont 9 = .ok (.putfield 68, 3) := by decide +kernel
theorem dX7_rateOfFont_12 : decode cX7_rateOfFont 12 = .ok (.iconst 2, 1) := by decide +kernel
theorem dX7_rateOfFont_13 : decode cX7_rateOfFont 13 = .ok (.aload_n 0, 1) := by decide +kernel
theorem dX7_rateOfFont_14 : decode cX7_rateOfFont 14 = .ok (.iload_n 1, 1) := by decide +kernel
theorem dX7_rateOfFont_15 : decode cX7_rateOfFont 15 = .ok (.invokevirtual 237, 3) := by decide +kernel
theorem dX7_rateOfFont_18 : decode cX7_rateOfFont 18 = .ok (.imul, 1) := by decide +kernel
theorem dX7_rateOfFont_19 : decode cX7_rateOfFont 19 = .ok (.ireturn, 1) := by decide +kernel
theorem dX7_rateOfPhial_0 : decode cX7_rateOfPhial 0 = .ok (.aload_n 0, 1) := by decide +kernel
theorem dX7_rateOfPhial_1 : decode cX7_rateOfPhial 1 = .ok (.dup, 1) := by decide +kernel
theorem dX7_rateOfPhial_2 : decode cX7_rateOfPhial 2 = .ok (.getfield 68, 3) := by decide +kernel
theorem dX7_rateOfPhial_5 : decode cX7_rateOfPhial 5 = .ok (.ldc2_w 258, 3) := by decide +kernel
theorem dX7_rateOfPhial_8 : decode cX7_rateOfPhial 8 = .ok (.ladd, 1) := by decide +kernel
theorem dX7_rateOfPhial_9 : decode cX7_rateOfPhial 9 = .ok (.putfield 68, 3) := by decide +kernel
theorem dX7_rateOfPhial_12 : decode cX7_rateOfPhial 12 = .ok (.aload_n 0, 1) := by decide +kernel
theorem dX7_rateOfPhial_13 : decode cX7_rateOfPhial 13 = .ok (.iload_n 1, 1) := by decide +kernel
theorem dX7_rateOfPhial_14 : decode cX7_rateOfPhial 14 = .ok (.invokevirtual 240, 3) := by decide +kernel
theorem dX7_rateOfPhial_17 : decode cX7_rateOfPhial 17 = .ok (.iload_n 1, 1) := by decide +kernel
theorem dX7_rateOfPhial_18 : decode cX7_rateOfPhial 18 = .ok (.iadd, 1) := by decide +kernel
theorem dX7_rateOfPhial_19 : decode cX7_rateOfPhial 19 = .ok (.ireturn, 1) := by decide +kernel
theorem dX7_rateOfUrn_0 : decode cX7_rateOfUrn 0 = .ok (.aload_n 0, 1) := by decide +kernel
theorem dX7_rateOfUrn_1 : decode cX7_rateOfUrn 1 = .ok (.dup, 1) := by decide +kernel
theorem dX7_rateOfUrn_2 : decode cX7_rateOfUrn 2 = .ok (.getfield 68, 3) := by decide +kernel
theorem dX7_rateOfUrn_5 : decode cX7_rateOfUrn 5 = .ok (.ldc2_w 260, 3) := by decide +kernel
theorem dX7_rateOfUrn_8 : decode cX7_rateOfUrn 8 = .ok (.ladd, 1) := by decide +kernel
theorem dX7_rateOfUrn_9 : decode cX7_rateOfUrn 9 = .ok (.putfield 68, 3) := by decide +kernel
theorem dX7_rateOfUrn_12 : decode cX7_rateOfUrn 12 = .ok (.aload_n 0, 1) := by decide +kernel
theorem dX7_rateOfUrn_13 : decode cX7_rateOfUrn 13 = .ok (.iload_n 1, 1) := by decide +kernel
theorem dX7_rateOfUrn_14 : decode cX7_rateOfUrn 14 = .ok (.invokevirtual 234, 3) := by decide +kernel
theorem dX7_rateOfUrn_17 : decode cX7_rateOfUrn 17 = .ok (.aload_n 0, 1) := by decide +kernel
theorem dX7_rateOfUrn_18 : decode cX7_rateOfUrn 18 = .ok (.getfield 28, 3) := by decide +kernel
theorem dX7_rateOfUrn_21 : decode cX7_rateOfUrn 21 = .ok (.getfield 133, 3) := by decide +kernel
theorem dX7_rateOfUrn_24 : decode cX7_rateOfUrn 24 = .ok (.iadd, 1) := by decide +kernel
theorem dX7_rateOfUrn_25 : decode cX7_rateOfUrn 25 = .ok (.ireturn, 1) := by decide +kernel
theorem dX7_keep_0 : decode cX7_keep 0 = .ok (.iload_n 1, 1) := by decide +kernel
theorem dX7_keep_1 : decode cX7_keep 1 = .ok (.iconst 0, 1) := by decide +kernel
theorem dX7_keep_2 : decode cX7_keep 2 = .ok (.iconst 1, 1) := by decide +kernel
theorem dX7_keep_3 : decode cX7_keep 3 = .ok (.invokestatic 72, 3) := by decide +kernel
theorem dX7_keep_6 : decode cX7_keep 6 = .ok (.ifCond .ne 5, 3) := by decide +kernel
theorem dX7_keep_9 : decode cX7_keep 9 = .ok (.iconst (-1), 1) := by decide +kernel
theorem dX7_keep_10 : decode cX7_keep 10 = .ok (.ireturn, 1) := by decide +kernel
theorem dX7_keep_11 : decode cX7_keep 11 = .ok (.aload_n 0, 1) := by decide +kernel
theorem dX7_keep_12 : decode cX7_keep 12 = .ok (.getfield 39, 3) := by decide +kernel
theorem dX7_keep_15 : decode cX7_keep 15 = .ok (.iload_n 1, 1) := by decide +kernel
theorem dX7_keep_16 : decode cX7_keep 16 = .ok (.aaload, 1) := by decide +kernel
theorem dX7_keep_17 : decode cX7_keep 17 = .ok (.aload_n 0, 1) := by decide +kernel
theorem dX7_keep_18 : decode cX7_keep 18 = .ok (.getfield 28, 3) := by decide +kernel
theorem dX7_keep_21 : decode cX7_keep 21 = .ok (.invokevirtual 262, 3) := by decide +kernel
theorem dX7_keep_24 : decode cX7_keep 24 = .ok (.aload_n 0, 1) := by decide +kernel
theorem dX7_keep_25 : decode cX7_keep 25 = .ok (.getfield 43, 3) := by decide +kernel
theorem dX7_keep_28 : decode cX7_keep 28 = .ok (.iload_n 1, 1) := by decide +kernel
theorem dX7_keep_29 : decode cX7_keep 29 = .ok (.iconst 1, 1) := by decide +kernel
theorem dX7_keep_30 : decode cX7_keep 30 = .ok (.bastore, 1) := by decide +kernel
theorem dX7_keep_31 : decode cX7_keep 31 = .ok (.aload_n 0, 1) := by decide +kernel
theorem dX7_keep_32 : decode cX7_keep 32 = .ok (.getfield 28, 3) := by decide +kernel
theorem dX7_keep_35 : decode cX7_keep 35 = .ok (.getfield 133, 3) := by decide +kernel
theorem dX7_keep_38 : decode cX7_keep 38 = .ok (.ireturn, 1) := by decide +kernel
theorem dX7_back_0 : decode cX7_back 0 = .ok (.iload_n 1, 1) := by decide +kernel
theorem dX7_back_1 : decode cX7_back 1 = .ok (.iconst 0, 1) := by decide +kernel
theorem dX7_back_2 : decode cX7_back 2 = .ok (.iconst 1, 1) := by decide +kernel
theorem dX7_back_3 : decode cX7_back 3 = .ok (.invokestatic 72, 3) := by decide +kernel
theorem dX7_back_6 : decode cX7_back 6 = .ok (.ifCond .ne 5, 3) := by decide +kernel
theorem dX7_back_9 : decode cX7_back 9 = .ok (.iconst (-1), 1) := by decide +kernel
theorem dX7_back_10 : decode cX7_back 10 = .ok (.ireturn, 1) := by decide +kernel
theorem dX7_back_11 : decode cX7_back 11 = .ok (.aload_n 0, 1) := by decide +kernel
theorem dX7_back_12 : decode cX7_back 12 = .ok (.getfield 43, 3) := by decide +kernel
theorem dX7_back_15 : decode cX7_back 15 = .ok (.iload_n 1, 1) := by decide +kernel
theorem dX7_back_16 : decode cX7_back 16 = .ok (.baload, 1) := by decide +kernel
theorem dX7_back_17 : decode cX7_back 17 = .ok (.ifCond .ne 6, 3) := by decide +kernel
theorem dX7_back_20 : decode cX7_back 20 = .ok (.bipush (-2), 2) := by decide +kernel
theorem dX7_back_22 : decode cX7_back 22 = .ok (.ireturn, 1) := by decide +kernel
theorem dX7_back_23 : decode cX7_back 23 = .ok (.aload_n 0, 1) := by decide +kernel
theorem dX7_back_24 : decode cX7_back 24 = .ok (.getfield 28, 3) := by decide +kernel
theorem dX7_back_27 : decode cX7_back 27 = .ok (.aload_n 0, 1) := by decide +kernel
theorem dX7_back_28 : decode cX7_back 28 = .ok (.getfield 39, 3) := by decide +kernel
theorem dX7_back_31 : decode cX7_back 31 = .ok (.iload_n 1, 1) := by decide +kernel
theorem dX7_back_32 : decode cX7_back 32 = .ok (.aaload, 1) := by decide +kernel
theorem dX7_back_33 : decode cX7_back 33 = .ok (.invokevirtual 262, 3) := by decide +kernel
theorem dX7_back_36 : decode cX7_back 36 = .ok (.aload_n 0, 1) := by decide +kernel
theorem dX7_back_37 : decode cX7_back 37 = .ok (.getfield 35, 3) := by decide +kernel
theorem dX7_back_40 : decode cX7_back 40 = .ok (.iconst 0, 1) := by decide +kernel
theorem dX7_back_41 : decode cX7_back 41 = .ok (.putfield 97, 3) := by decide +kernel
theorem dX7_back_44 : decode cX7_back 44 = .ok (.aload_n 0, 1) := by decide +kernel
theorem dX7_back_45 : decode cX7_back 45 = .ok (.getfield 28, 3) := by decide +kernel
theorem dX7_back_48 : decode cX7_back 48 = .ok (.getfield 133, 3) := by decide +kernel
theorem dX7_back_51 : decode cX7_back 51 = .ok (.ireturn, 1) := by decide +kernel
theorem dX7_count_0 : decode cX7_count 0 = .ok (.iload_n 1, 1) := by decide +kernel
theorem dX7_count_1 : decode cX7_count 1 = .ok (.tableswitch 75 0 4 #[35, 43, 51, 59, 67], 35) := by decide +kernel
theorem dX7_count_36 : decode cX7_count 36 = .ok (.aload_n 0, 1) := by decide +kernel
theorem dX7_count_37 : decode cX7_count 37 = .ok (.getfield 10, 3) := by decide +kernel
theorem dX7_count_40 : decode cX7_count 40 = .ok (.getfield 172, 3) := by decide +kernel
theorem dX7_count_43 : decode cX7_count 43 = .ok (.ireturn, 1) := by decide +kernel
theorem dX7_count_44 : decode cX7_count 44 = .ok (.aload_n 0, 1) := by decide +kernel
theorem dX7_count_45 : decode cX7_count 45 = .ok (.getfield 10, 3) := by decide +kernel
theorem dX7_count_48 : decode cX7_count 48 = .ok (.getfield 190, 3) := by decide +kernel
theorem dX7_count_51 : decode cX7_count 51 = .ok (.ireturn, 1) := by decide +kernel
theorem dX7_count_52 : decode cX7_count 52 = .ok (.aload_n 0, 1) := by decide +kernel
theorem dX7_count_53 : decode cX7_count 53 = .ok (.getfield 10, 3) := by decide +kernel
theorem dX7_count_56 : decode cX7_count 56 = .ok (.getfield 264, 3) := by decide +kernel
theorem dX7_count_59 : decode cX7_count 59 = .ok (.ireturn, 1) := by decide +kernel
theorem dX7_count_60 : decode cX7_count 60 = .ok (.aload_n 0, 1) := by decide +kernel
theorem dX7_count_61 : decode cX7_count 61 = .ok (.getfield 50, 3) := by decide +kernel
theorem dX7_count_64 : decode cX7_count 64 = .ok (.getfield 100, 3) := by decide +kernel
theorem dX7_count_67 : decode cX7_count 67 = .ok (.ireturn, 1) := by decide +kernel
theorem dX7_count_68 : decode cX7_count 68 = .ok (.aload_n 0, 1) := by decide +kernel
theorem dX7_count_69 : decode cX7_count 69 = .ok (.getfield 19, 3) := by decide +kernel
theorem dX7_count_72 : decode cX7_count 72 = .ok (.getfield 80, 3) := by decide +kernel
theorem dX7_count_75 : decode cX7_count 75 = .ok (.ireturn, 1) := by decide +kernel
theorem dX7_count_76 : decode cX7_count 76 = .ok (.iconst (-1), 1) := by decide +kernel
theorem dX7_count_77 : decode cX7_count 77 = .ok (.ireturn, 1) := by decide +kernel
theorem dX7_trace_0 : decode cX7_trace 0 = .ok (.aload_n 0, 1) := by decide +kernel
theorem dX7_trace_1 : decode cX7_trace 1 = .ok (.getfield 68, 3) := by decide +kernel
theorem dX7_trace_4 : decode cX7_trace 4 = .ok (.lreturn, 1) := by decide +kernel
theorem dX7_isWithin_0 : decode cX7_isWithin 0 = .ok (.iload_n 0, 1) := by decide +kernel
theorem dX7_isWithin_1 : decode cX7_isWithin 1 = .ok (.iload_n 1, 1) := by decide +kernel
theorem dX7_isWithin_2 : decode cX7_isWithin 2 = .ok (.if_icmp .lt 12, 3) := by decide +kernel
theorem dX7_isWithin_5 : decode cX7_isWithin 5 = .ok (.iload_n 0, 1) := by decide +kernel
theorem dX7_isWithin_6 : decode cX7_isWithin 6 = .ok (.iload_n 2, 1) := by decide +kernel
theorem dX7_isWithin_7 : decode cX7_isWithin 7 = .ok (.if_icmp .gt 7, 3) := by decide +kernel
theorem dX7_isWithin_10 : decode cX7_isWithin 10 = .ok (.iconst 1, 1) := by decide +kernel
theorem dX7_isWithin_11 : decode cX7_isWithin 11 = .ok (.goto 4, 3) := by decide +kernel
theorem dX7_isWithin_14 : decode cX7_isWithin 14 = .ok (.iconst 0, 1) := by decide +kernel
theorem dX7_isWithin_15 : decode cX7_isWithin 15 = .ok (.ireturn, 1) := by decide +kernel
