theorem dX0_init_0 : decode cX0_init 0 = .ok (.aload_n 0, 1) := by decide +kernel
theorem dX0_init_1 : decode cX0_init 1 = .ok (.invokespecial 3, 3) := by decide +kernel
theorem dX0_init_4 : decode cX0_init 4 = .ok (.aload_n 0, 1) := by decide +kernel
theorem dX0_init_5 : decode cX0_init 5 = .ok (.bipush 8, 2) := by decide +kernel
theorem dX0_init_7 : decode cX0_init 7 = .ok (.newarray .int, 2) := by decide +kernel
theorem dX0_init_9 : decode cX0_init 9 = .ok (.putfield 9, 3) := by decide +kernel
theorem dX0_init_12 : decode cX0_init 12 = .ok (.return_, 1) := by decide +kernel
theorem dX0_reckon_0 : decode cX0_reckon 0 = .ok (.aload_n 0, 1) := by decide +kernel
theorem dX0_reckon_1 : decode cX0_reckon 1 = .ok (.iconst 1, 1) := by decide +kernel
theorem dX0_reckon_2 : decode cX0_reckon 2 = .ok (.putfield 15, 3) := by decide +kernel
theorem dX0_reckon_5 : decode cX0_reckon 5 = .ok (.iconst 0, 1) := by decide +kernel
theorem dX0_reckon_6 : decode cX0_reckon 6 = .ok (.istore 4, 2) := by decide +kernel
theorem dX0_reckon_8 : decode cX0_reckon 8 = .ok (.iload 4, 2) := by decide +kernel
theorem dX0_reckon_10 : decode cX0_reckon 10 = .ok (.bipush 7, 2) := by decide +kernel
theorem dX0_reckon_12 : decode cX0_reckon 12 = .ok (.if_icmp .gt 26, 3) := by decide +kernel
theorem dX0_reckon_15 : decode cX0_reckon 15 = .ok (.aload_n 0, 1) := by decide +kernel
theorem dX0_reckon_16 : decode cX0_reckon 16 = .ok (.getfield 9, 3) := by decide +kernel
theorem dX0_reckon_19 : decode cX0_reckon 19 = .ok (.iload 4, 2) := by decide +kernel
theorem dX0_reckon_21 : decode cX0_reckon 21 = .ok (.iload 4, 2) := by decide +kernel
theorem dX0_reckon_23 : decode cX0_reckon 23 = .ok (.ifCond .ne 7, 3) := by decide +kernel
theorem dX0_reckon_26 : decode cX0_reckon 26 = .ok (.iconst 1, 1) := by decide +kernel
theorem dX0_reckon_27 : decode cX0_reckon 27 = .ok (.goto 4, 3) := by decide +kernel
theorem dX0_reckon_30 : decode cX0_reckon 30 = .ok (.iconst 0, 1) := by decide +kernel
theorem dX0_reckon_31 : decode cX0_reckon 31 = .ok (.iastore, 1) := by decide +kernel
theorem dX0_reckon_32 : decode cX0_reckon 32 = .ok (.iinc 4 1, 3) := by decide +kernel
theorem dX0_reckon_35 : decode cX0_reckon 35 = .ok (.goto (-27), 3) := by decide +kernel
theorem dX0_reckon_38 : decode cX0_reckon 38 = .ok (.iconst 0, 1) := by decide +kernel
theorem dX0_reckon_39 : decode cX0_reckon 39 = .ok (.istore 4, 2) := by decide +kernel
theorem dX0_reckon_41 : decode cX0_reckon 41 = .ok (.iload 4, 2) := by decide +kernel
theorem dX0_reckon_43 : decode cX0_reckon 43 = .ok (.iload_n 3, 1) := by decide +kernel
theorem dX0_reckon_44 : decode cX0_reckon 44 = .ok (.if_icmp .ge 25, 3) := by decide +kernel
theorem dX0_reckon_47 : decode cX0_reckon 47 = .ok (.aload_n 0, 1) := by decide +kernel
theorem dX0_reckon_48 : decode cX0_reckon 48 = .ok (.dup, 1) := by decide +kernel
theorem dX0_reckon_49 : decode cX0_reckon 49 = .ok (.getfield 15, 3) := by decide +kernel
theorem dX0_reckon_52 : decode cX0_reckon 52 = .ok (.bipush 10, 2) := by decide +kernel
theorem dX0_reckon_54 : decode cX0_reckon 54 = .ok (.imul, 1) := by decide +kernel
theorem dX0_reckon_55 : decode cX0_reckon 55 = .ok (.putfield 15, 3) := by decide +kernel
theorem dX0_reckon_58 : decode cX0_reckon 58 = .ok (.aload_n 0, 1) := by decide +kernel
theorem dX0_reckon_59 : decode cX0_reckon 59 = .ok (.iload_n 1, 1) := by decide +kernel
theorem dX0_reckon_60 : decode cX0_reckon 60 = .ok (.invokevirtual 19, 3) := by decide +kernel
theorem dX0_reckon_63 : decode cX0_reckon 63 = .ok (.iinc 4 1, 3) := by decide +kernel
theorem dX0_reckon_66 : decode cX0_reckon 66 = .ok (.goto (-25), 3) := by decide +kernel
theorem dX0_reckon_69 : decode cX0_reckon 69 = .ok (.aload_n 0, 1) := by decide +kernel
theorem dX0_reckon_70 : decode cX0_reckon 70 = .ok (.iconst 0, 1) := by decide +kernel
theorem dX0_reckon_71 : decode cX0_reckon 71 = .ok (.putfield 23, 3) := by decide +kernel
theorem dX0_reckon_74 : decode cX0_reckon 74 = .ok (.iconst 0, 1) := by decide +kernel
theorem dX0_reckon_75 : decode cX0_reckon 75 = .ok (.iload_n 2, 1) := by decide +kernel
theorem dX0_reckon_76 : decode cX0_reckon 76 = .ok (.invokestatic 26, 3) := by decide +kernel
theorem dX0_reckon_79 : decode cX0_reckon 79 = .ok (.istore 4, 2) := by decide +kernel
theorem dX0_reckon_81 : decode cX0_reckon 81 = .ok (.iload 4, 2) := by decide +kernel
theorem dX0_reckon_83 : decode cX0_reckon 83 = .ok (.bipush 7, 2) := by decide +kernel
theorem dX0_reckon_85 : decode cX0_reckon 85 = .ok (.if_icmp .gt 25, 3) := by decide +kernel
theorem dX0_reckon_88 : decode cX0_reckon 88 = .ok (.aload_n 0, 1) := by decide +kernel
theorem dX0_reckon_89 : decode cX0_reckon 89 = .ok (.dup, 1) := by decide +kernel
theorem dX0_reckon_90 : decode cX0_reckon 90 = .ok (.getfield 23, 3) := by decide +kernel
theorem dX0_reckon_93 : decode cX0_reckon 93 = .ok (.aload_n 0, 1) := by decide +kernel
theorem dX0_reckon_94 : decode cX0_reckon 94 = .ok (.getfield 9, 3) := by decide +kernel
theorem dX0_reckon_97 : decode cX0_reckon 97 = .ok (.iload 4, 2) := by decide +kernel
theorem dX0_reckon_99 : decode cX0_reckon 99 = .ok (.iaload, 1) := by decide +kernel
theorem dX0_reckon_100 : decode cX0_reckon 100 = .ok (.iadd, 1) := by decide +kernel
theorem dX0_reckon_101 : decode cX0_reckon 101 = .ok (.putfield 23, 3) := by decide +kernel
theorem dX0_reckon_104 : decode cX0_reckon 104 = .ok (.iinc 4 1, 3) := by decide +kernel
theorem dX0_reckon_107 : decode cX0_reckon 107 = .ok (.goto (-26), 3) := by decide +kernel
theorem dX0_reckon_110 : decode cX0_reckon 110 = .ok (.aload_n 0, 1) := by decide +kernel
theorem dX0_reckon_111 : decode cX0_reckon 111 = .ok (.iload_n 3, 1) := by decide +kernel
theorem dX0_reckon_112 : decode cX0_reckon 112 = .ok (.invokevirtual 32, 3) := by decide +kernel
theorem dX0_reckon_115 : decode cX0_reckon 115 = .ok (.return_, 1) := by decide +kernel
theorem dX0_addPan_0 : decode cX0_addPan 0 = .ok (.bipush 7, 2) := by decide +kernel
theorem dX0_addPan_2 : decode cX0_addPan 2 = .ok (.istore_n 2, 1) := by decide +kernel
theorem dX0_addPan_3 : decode cX0_addPan 3 = .ok (.iload_n 2, 1) := by decide +kernel
theorem dX0_addPan_4 : decode cX0_addPan 4 = .ok (.ifCond .le 37, 3) := by decide +kernel
theorem dX0_addPan_7 : decode cX0_addPan 7 = .ok (.aload_n 0, 1) := by decide +kernel
theorem dX0_addPan_8 : decode cX0_addPan 8 = .ok (.getfield 9, 3) := by decide +kernel
theorem dX0_addPan_11 : decode cX0_addPan 11 = .ok (.iload_n 2, 1) := by decide +kernel
theorem dX0_addPan_12 : decode cX0_addPan 12 = .ok (.aload_n 0, 1) := by decide +kernel
theorem dX0_addPan_13 : decode cX0_addPan 13 = .ok (.getfield 9, 3) := by decide +kernel
theorem dX0_addPan_16 : decode cX0_addPan 16 = .ok (.iload_n 2, 1) := by decide +kernel
theorem dX0_addPan_17 : decode cX0_addPan 17 = .ok (.iaload, 1) := by decide +kernel
theorem dX0_addPan_18 : decode cX0_addPan 18 = .ok (.iload_n 1, 1) := by decide +kernel
theorem dX0_addPan_19 : decode cX0_addPan 19 = .ok (.imul, 1) := by decide +kernel
theorem dX0_addPan_20 : decode cX0_addPan 20 = .ok (.aload_n 0, 1) := by decide +kernel
theorem dX0_addPan_21 : decode cX0_addPan 21 = .ok (.getfield 9, 3) := by decide +kernel
theorem dX0_addPan_24 : decode cX0_addPan 24 = .ok (.iload_n 2, 1) := by decide +kernel
theorem dX0_addPan_25 : decode cX0_addPan 25 = .ok (.iconst 1, 1) := by decide +kernel
theorem dX0_addPan_26 : decode cX0_addPan 26 = .ok (.isub, 1) := by decide +kernel
theorem dX0_addPan_27 : decode cX0_addPan 27 = .ok (.iaload, 1) := by decide +kernel
theorem dX0_addPan_28 : decode cX0_addPan 28 = .ok (.bipush 10, 2) := by decide +kernel
theorem dX0_addPan_30 : decode cX0_addPan 30 = .ok (.iload_n 1, 1) := by decide +kernel
theorem dX0_addPan_31 : decode cX0_addPan 31 = .ok (.isub, 1) := by decide +kernel
theorem dX0_addPan_32 : decode cX0_addPan 32 = .ok (.imul, 1) := by decide +kernel
theorem dX0_addPan_33 : decode cX0_addPan 33 = .ok (.iadd, 1) := by decide +kernel
theorem dX0_addPan_34 : decode cX0_addPan 34 = .ok (.iastore, 1) := by decide +kernel
theorem dX0_addPan_35 : decode cX0_addPan 35 = .ok (.iinc 2 (-1), 3) := by decide +kernel
theorem dX0_addPan_38 : decode cX0_addPan 38 = .ok (.goto (-35), 3) := by decide +kernel
theorem dX0_addPan_41 : decode cX0_addPan 41 = .ok (.aload_n 0, 1) := by decide +kernel
theorem dX0_addPan_42 : decode cX0_addPan 42 = .ok (.getfield 9, 3) := by decide +kernel
theorem dX0_addPan_45 : decode cX0_addPan 45 = .ok (.iconst 0, 1) := by decide +kernel
theorem dX0_addPan_46 : decode cX0_addPan 46 = .ok (.dup2, 1) := by decide +kernel
theorem dX0_addPan_47 : decode cX0_addPan 47 = .ok (.iaload, 1) := by decide +kernel
theorem dX0_addPan_48 : decode cX0_addPan 48 = .ok (.iload_n 1, 1) := by decide +kernel
theorem dX0_addPan_49 : decode cX0_addPan 49 = .ok (.imul, 1) := by decide +kernel
theorem dX0_addPan_50 : decode cX0_addPan 50 = .ok (.iastore, 1) := by decide +kernel
theorem dX0_addPan_51 : decode cX0_addPan 51 = .ok (.return_, 1) := by decide +kernel
theorem dX0_reduce_0 : decode cX0_reduce 0 = .ok (.iconst 0, 1) := by decide +kernel
theorem dX0_reduce_1 : decode cX0_reduce 1 = .ok (.istore_n 2, 1) := by decide +kernel
theorem dX0_reduce_2 : decode cX0_reduce 2 = .ok (.iload_n 2, 1) := by decide +kernel
theorem dX0_reduce_3 : decode cX0_reduce 3 = .ok (.iload_n 1, 1) := by decide +kernel
theorem dX0_reduce_4 : decode cX0_reduce 4 = .ok (.if_icmp .ge 85, 3) := by decide +kernel
theorem dX0_reduce_7 : decode cX0_reduce 7 = .ok (.aload_n 0, 1) := by decide +kernel
theorem dX0_reduce_8 : decode cX0_reduce 8 = .ok (.getfield 23, 3) := by decide +kernel
theorem dX0_reduce_11 : decode cX0_reduce 11 = .ok (.iconst 2, 1) := by decide +kernel
theorem dX0_reduce_12 : decode cX0_reduce 12 = .ok (.irem, 1) := by decide +kernel
theorem dX0_reduce_13 : decode cX0_reduce 13 = .ok (.ifCond .ne 32, 3) := by decide +kernel
theorem dX0_reduce_16 : decode cX0_reduce 16 = .ok (.aload_n 0, 1) := by decide +kernel
theorem dX0_reduce_17 : decode cX0_reduce 17 = .ok (.getfield 15, 3) := by decide +kernel
theorem dX0_reduce_20 : decode cX0_reduce 20 = .ok (.iconst 2, 1) := by decide +kernel
theorem dX0_reduce_21 : decode cX0_reduce 21 = .ok (.irem, 1) := by decide +kernel
theorem dX0_reduce_22 : decode cX0_reduce 22 = .ok (.ifCond .ne 23, 3) := by decide +kernel
theorem dX0_reduce_25 : decode cX0_reduce 25 = .ok (.aload_n 0, 1) := by decide +kernel
theorem dX0_reduce_26 : decode cX0_reduce 26 = .ok (.dup, 1) := by decide +kernel
theorem dX0_reduce_27 : decode cX0_reduce 27 = .ok (.getfield 23, 3) := by decide +kernel
theorem dX0_reduce_30 : decode cX0_reduce 30 = .ok (.iconst 2, 1) := by decide +kernel
theorem dX0_reduce_31 : decode cX0_reduce 31 = .ok (.idiv, 1) := by decide +kernel
theorem dX0_reduce_32 : decode cX0_reduce 32 = .ok (.putfield 23, 3) := by decide +kernel
theorem dX0_reduce_35 : decode cX0_reduce 35 = .ok (.aload_n 0, 1) := by decide +kernel
theorem dX0_reduce_36 : decode cX0_reduce 36 = .ok (.dup, 1) := by decide +kernel
theorem dX0_reduce_37 : decode cX0_reduce 37 = .ok (.getfield 15, 3) := by decide +kernel
theorem dX0_reduce_40 : decode cX0_reduce 40 = .ok (.iconst 2, 1) := by decide +kernel
theorem dX0_reduce_41 : decode cX0_reduce 41 = .ok (.idiv, 1) := by decide +kernel
theorem dX0_reduce_42 : decode cX0_reduce 42 = .ok (.putfield 15, 3) := by decide +kernel
theorem dX0_reduce_45 : decode cX0_reduce 45 = .ok (.aload_n 0, 1) := by decide +kernel
theorem dX0_reduce_46 : decode cX0_reduce 46 = .ok (.getfield 23, 3) := by decide +kernel
theorem dX0_reduce_49 : decode cX0_reduce 49 = .ok (.iconst 5, 1) := by decide +kernel
theorem dX0_reduce_50 : decode cX0_reduce 50 = .ok (.irem, 1) := by decide +kernel
theorem dX0_reduce_51 : decode cX0_reduce 51 = .ok (.ifCond .ne 32, 3) := by decide +kernel
theorem dX0_reduce_54 : decode cX0_reduce 54 = .ok (.aload_n 0, 1) := by decide +kernel
theorem dX0_reduce_55 : decode cX0_reduce 55 = .ok (.getfield 15, 3) := by decide +kernel
theorem dX0_reduce_58 : decode cX0_reduce 58 = .ok (.iconst 5, 1) := by decide +kernel
theorem dX0_reduce_59 : decode cX0_reduce 59 = .ok (.irem, 1) := by decide +kernel
theorem dX0_reduce_60 : decode cX0_reduce 60 = .ok (.ifCond .ne 23, 3) := by decide +kernel
theorem dX0_reduce_63 : decode cX0_reduce 63 = .ok (.aload_n 0, 1) := by decide +kernel
theorem dX0_reduce_64 : decode cX0_reduce 64 = .ok (.dup, 1) := by decide +kernel
theorem dX0_reduce_65 : decode cX0_reduce 65 = .ok (.getfield 23, 3) := by decide +kernel
theorem dX0_reduce_68 : decode cX0_reduce 68 = .ok (.iconst 5, 1) := by decide +kernel
theorem dX0_reduce_69 : decode cX0_reduce 69 = .ok (.idiv, 1) := by decide +kernel
theorem dX0_reduce_70 : decode cX0_reduce 70 = .ok (.putfield 23, 3) := by decide +kernel
theorem dX0_reduce_73 : decode cX0_reduce 73 = .ok (.aload_n 0, 1) := by decide +kernel
theorem dX0_reduce_74 : decode cX0_reduce 74 = .ok (.dup, 1) := by decide +kernel
theorem dX0_reduce_75 : decode cX0_reduce 75 = .ok (.getfield 15, 3) := by decide +kernel
theorem dX0_reduce_78 : decode cX0_reduce 78 = .ok (.iconst 5, 1) := by decide +kernel
theorem dX0_reduce_79 : decode cX0_reduce 79 = .ok (.idiv, 1) := by decide +kernel
theorem dX0_reduce_80 : decode cX0_reduce 80 = .ok (.putfield 15, 3) := by decide +kernel
theorem dX0_reduce_83 : decode cX0_reduce 83 = .ok (.iinc 2 1, 3) := by decide +kernel
theorem dX0_reduce_86 : decode cX0_reduce 86 = .ok (.goto (-84), 3) := by decide +kernel
theorem dX0_reduce_89 : decode cX0_reduce 89 = .ok (.return_, 1) := by decide +kernel
theorem dX1_init_0 : decode cX1_init 0 = .ok (.aload_n 0, 1) := by decide +kernel
theorem dX1_init_1 : decode cX1_init 1 = .ok (.invokespecial 3, 3) := by decide +kernel
theorem dX1_init_4 : decode cX1_init 4 = .ok (.aload_n 0, 1) := by decide +kernel
theorem dX1_init_5 : decode cX1_init 5 = .ok (.bipush 10, 2) := by decide +kernel
theorem dX1_init_7 : decode cX1_init 7 = .ok (.anewarray 9, 3) := by decide +kernel
theorem dX1_init_10 : decode cX1_init 10 = .ok (.putfield 11, 3) := by decide +kernel
theorem dX1_init_13 : decode cX1_init 13 = .ok (.iconst 0, 1) := by decide +kernel
theorem dX1_init_14 : decode cX1_init 14 = .ok (.istore_n 2, 1) := by decide +kernel
theorem dX1_init_15 : decode cX1_init 15 = .ok (.iload_n 2, 1) := by decide +kernel
theorem dX1_init_16 : decode cX1_init 16 = .ok (.bipush 10, 2) := by decide +kernel
theorem dX1_init_18 : decode cX1_init 18 = .ok (.if_icmp .ge 23, 3) := by decide +kernel
theorem dX1_init_21 : decode cX1_init 21 = .ok (.aload_n 0, 1) := by decide +kernel
theorem dX1_init_22 : decode cX1_init 22 = .ok (.getfield 11, 3) := by decide +kernel
theorem dX1_init_25 : decode cX1_init 25 = .ok (.iload_n 2, 1) := by decide +kernel
theorem dX1_init_26 : decode cX1_init 26 = .ok (.new 9, 3) := by decide +kernel
theorem dX1_init_29 : decode cX1_init 29 = .ok (.dup, 1) := by decide +kernel
theorem dX1_init_30 : decode cX1_init 30 = .ok (.aload_n 1, 1) := by decide +kernel
theorem dX1_init_31 : decode cX1_init 31 = .ok (.invokespecial 17, 3) := by decide +kernel
theorem dX1_init_34 : decode cX1_init 34 = .ok (.aastore, 1) := by decide +kernel
theorem dX1_init_35 : decode cX1_init 35 = .ok (.iinc 2 1, 3) := by decide +kernel
theorem dX1_init_38 : decode cX1_init 38 = .ok (.goto (-23), 3) := by decide +kernel
theorem dX1_init_41 : decode cX1_init 41 = .ok (.return_, 1) := by decide +kernel
theorem dX1_remember_0 : decode cX1_remember 0 = .ok (.aload_n 0, 1) := by decide +kernel
theorem dX1_remember_1 : decode cX1_remember 1 = .ok (.getfield 11, 3) := by decide +kernel
theorem dX1_remember_4 : decode cX1_remember 4 = .ok (.aload_n 0, 1) := by decide +kernel
theorem dX1_remember_5 : decode cX1_remember 5 = .ok (.getfield 20, 3) := by decide +kernel
theorem dX1_remember_8 : decode cX1_remember 8 = .ok (.aaload, 1) := by decide +kernel
theorem dX1_remember_9 : decode cX1_remember 9 = .ok (.aload_n 1, 1) := by decide +kernel
theorem dX1_remember_10 : decode cX1_remember 10 = .ok (.invokevirtual 24, 3) := by decide +kernel
theorem dX1_remember_13 : decode cX1_remember 13 = .ok (.aload_n 0, 1) := by decide +kernel
theorem dX1_remember_14 : decode cX1_remember 14 = .ok (.aload_n 0, 1) := by decide +kernel
theorem dX1_remember_15 : decode cX1_remember 15 = .ok (.getfield 20, 3) := by decide +kernel
theorem dX1_remember_18 : decode cX1_remember 18 = .ok (.iconst 1, 1) := by decide +kernel
theorem dX1_remember_19 : decode cX1_remember 19 = .ok (.iadd, 1) := by decide +kernel
theorem dX1_remember_20 : decode cX1_remember 20 = .ok (.bipush 10, 2) := by decide +kernel
theorem dX1_remember_22 : decode cX1_remember 22 = .ok (.if_icmp .ge 12, 3) := by decide +kernel
theorem dX1_remember_25 : decode cX1_remember 25 = .ok (.aload_n 0, 1) := by decide +kernel
theorem dX1_remember_26 : decode cX1_remember 26 = .ok (.getfield 20, 3) := by decide +kernel
theorem dX1_remember_29 : decode cX1_remember 29 = .ok (.iconst 1, 1) := by decide +kernel
theorem dX1_remember_30 : decode cX1_remember 30 = .ok (.iadd, 1) := by decide +kernel
theorem dX1_remember_31 : decode cX1_remember 31 = .ok (.goto 4, 3) := by decide +kernel
theorem dX1_remember_34 : decode cX1_remember 34 = .ok (.iconst 0, 1) := by decide +kernel
theorem dX1_remember_35 : decode cX1_remember 35 = .ok (.putfield 20, 3) := by decide +kernel
theorem dX1_remember_38 : decode cX1_remember 38 = .ok (.aload_n 0, 1) := by decide +kernel
theorem dX1_remember_39 : decode cX1_remember 39 = .ok (.bipush 10, 2) := by decide +kernel
theorem dX1_remember_41 : decode cX1_remember 41 = .ok (.aload_n 0, 1) := by decide +kernel
theorem dX1_remember_42 : decode cX1_remember 42 = .ok (.getfield 28, 3) := by decide +kernel
theorem dX1_remember_45 : decode cX1_remember 45 = .ok (.iconst 1, 1) := by decide +kernel
theorem dX1_remember_46 : decode cX1_remember 46 = .ok (.iadd, 1) := by decide +kernel
theorem dX1_remember_47 : decode cX1_remember 47 = .ok (.invokestatic 31, 3) := by decide +kernel
theorem dX1_remember_50 : decode cX1_remember 50 = .ok (.putfield 28, 3) := by decide +kernel
theorem dX1_remember_53 : decode cX1_remember 53 = .ok (.return_, 1) := by decide +kernel
theorem dX1_restore_0 : decode cX1_restore 0 = .ok (.aload_n 0, 1) := by decide +kernel
theorem dX1_restore_1 : decode cX1_restore 1 = .ok (.aload_n 0, 1) := by decide +kernel
theorem dX1_restore_2 : decode cX1_restore 2 = .ok (.getfield 20, 3) := by decide +kernel
theorem dX1_restore_5 : decode cX1_restore 5 = .ok (.ifCond .le 12, 3) := by decide +kernel
theorem dX1_restore_8 : decode cX1_restore 8 = .ok (.aload_n 0, 1) := by decide +kernel
theorem dX1_restore_9 : decode cX1_restore 9 = .ok (.getfield 20, 3) := by decide +kernel
theorem dX1_restore_12 : decode cX1_restore 12 = .ok (.iconst 1, 1) := by decide +kernel
theorem dX1_restore_13 : decode cX1_restore 13 = .ok (.isub, 1) := by decide +kernel
theorem dX1_restore_14 : decode cX1_restore 14 = .ok (.goto 5, 3) := by decide +kernel
theorem dX1_restore_17 : decode cX1_restore 17 = .ok (.bipush 9, 2) := by decide +kernel
theorem dX1_restore_19 : decode cX1_restore 19 = .ok (.putfield 20, 3) := by decide +kernel
theorem dX1_restore_22 : decode cX1_restore 22 = .ok (.aload_n 1, 1) := by decide +kernel
theorem dX1_restore_23 : decode cX1_restore 23 = .ok (.aload_n 0, 1) := by decide +kernel
theorem dX1_restore_24 : decode cX1_restore 24 = .ok (.getfield 11, 3) := by decide +kernel
theorem dX1_restore_27 : decode cX1_restore 27 = .ok (.aload_n 0, 1) := by decide +kernel
theorem dX1_restore_28 : decode cX1_restore 28 = .ok (.getfield 20, 3) := by decide +kernel
theorem dX1_restore_31 : decode cX1_restore 31 = .ok (.aaload, 1) := by decide +kernel
theorem dX1_restore_32 : decode cX1_restore 32 = .ok (.invokevirtual 24, 3) := by decide +kernel
theorem dX1_restore_35 : decode cX1_restore 35 = .ok (.aload_n 0, 1) := by decide +kernel
theorem dX1_restore_36 : decode cX1_restore 36 = .ok (.dup, 1) := by decide +kernel
theorem dX1_restore_37 : decode cX1_restore 37 = .ok (.getfield 28, 3) := by decide +kernel
theorem dX1_restore_40 : decode cX1_restore 40 = .ok (.iconst 1, 1) := by decide +kernel
theorem dX1_restore_41 : decode cX1_restore 41 = .ok (.isub, 1) := by decide +kernel
theorem dX1_restore_42 : decode cX1_restore 42 = .ok (.putfield 28, 3) := by decide +kernel
theorem dX1_restore_45 : decode cX1_restore 45 = .ok (.return_, 1) := by decide +kernel
theorem dX2_init_0 : decode cX2_init 0 = .ok (.aload_n 0, 1) := by decide +kernel
theorem dX2_init_1 : decode cX2_init 1 = .ok (.invokespecial 3, 3) := by decide +kernel
theorem dX2_init_4 : decode cX2_init 4 = .ok (.aload_n 0, 1) := by decide +kernel
theorem dX2_init_5 : decode cX2_init 5 = .ok (.bipush 7, 2) := by decide +kernel
theorem dX2_init_7 : decode cX2_init 7 = .ok (.newarray .int, 2) := by decide +kernel
theorem dX2_init_9 : decode cX2_init 9 = .ok (.putfield 9, 3) := by decide +kernel
theorem dX2_init_12 : decode cX2_init 12 = .ok (.aload_n 0, 1) := by decide +kernel
theorem dX2_init_13 : decode cX2_init 13 = .ok (.bipush 7, 2) := by decide +kernel
theorem dX2_init_15 : decode cX2_init 15 = .ok (.newarray .int, 2) := by decide +kernel
theorem dX2_init_17 : decode cX2_init 17 = .ok (.putfield 15, 3) := by decide +kernel
theorem dX2_init_20 : decode cX2_init 20 = .ok (.aload_n 0, 1) := by decide +kernel
theorem dX2_init_21 : decode cX2_init 21 = .ok (.bipush 7, 2) := by decide +kernel
theorem dX2_init_23 : decode cX2_init 23 = .ok (.newarray .int, 2) := by decide +kernel
theorem dX2_init_25 : decode cX2_init 25 = .ok (.putfield 18, 3) := by decide +kernel
theorem dX2_init_28 : decode cX2_init 28 = .ok (.aload_n 0, 1) := by decide +kernel
theorem dX2_init_29 : decode cX2_init 29 = .ok (.bipush 7, 2) := by decide +kernel
theorem dX2_init_31 : decode cX2_init 31 = .ok (.newarray .int, 2) := by decide +kernel
theorem dX2_init_33 : decode cX2_init 33 = .ok (.putfield 21, 3) := by decide +kernel
theorem dX2_init_36 : decode cX2_init 36 = .ok (.aload_n 0, 1) := by decide +kernel
theorem dX2_init_37 : decode cX2_init 37 = .ok (.bipush 7, 2) := by decide +kernel
theorem dX2_init_39 : decode cX2_init 39 = .ok (.newarray .int, 2) := by decide +kernel
theorem dX2_init_41 : decode cX2_init 41 = .ok (.putfield 24, 3) := by decide +kernel
theorem dX2_init_44 : decode cX2_init 44 = .ok (.aload_n 0, 1) := by decide +kernel
theorem dX2_init_45 : decode cX2_init 45 = .ok (.invokevirtual 27, 3) := by decide +kernel
theorem dX2_init_48 : decode cX2_init 48 = .ok (.return_, 1) := by decide +kernel
theorem dX2_empty_0 : decode cX2_empty 0 = .ok (.aload_n 0, 1) := by decide +kernel
theorem dX2_empty_1 : decode cX2_empty 1 = .ok (.iconst 0, 1) := by decide +kernel
theorem dX2_empty_2 : decode cX2_empty 2 = .ok (.putfield 30, 3) := by decide +kernel
theorem dX2_empty_5 : decode cX2_empty 5 = .ok (.aload_n 0, 1) := by decide +kernel
theorem dX2_empty_6 : decode cX2_empty 6 = .ok (.iconst 5, 1) := by decide +kernel
theorem dX2_empty_7 : decode cX2_empty 7 = .ok (.putfield 34, 3) := by decide +kernel
theorem dX2_empty_10 : decode cX2_empty 10 = .ok (.aload_n 0, 1) := by decide +kernel
theorem dX2_empty_11 : decode cX2_empty 11 = .ok (.bipush 60, 2) := by decide +kernel
theorem dX2_empty_13 : decode cX2_empty 13 = .ok (.putfield 37, 3) := by decide +kernel
theorem dX2_empty_16 : decode cX2_empty 16 = .ok (.return_, 1) := by decide +kernel
theorem dX2_has_0 : decode cX2_has 0 = .ok (.iload_n 1, 1) := by decide +kernel
theorem dX2_has_1 : decode cX2_has 1 = .ok (.ifCond .lt 15, 3) := by decide +kernel
theorem dX2_has_4 : decode cX2_has 4 = .ok (.iload_n 1, 1) := by decide +kernel
theorem dX2_has_5 : decode cX2_has 5 = .ok (.aload_n 0, 1) := by decide +kernel
theorem dX2_has_6 : decode cX2_has 6 = .ok (.getfield 30, 3) := by decide +kernel
theorem dX2_has_9 : decode cX2_has 9 = .ok (.if_icmp .ge 7, 3) := by decide +kernel
theorem dX2_has_12 : decode cX2_has 12 = .ok (.iconst 1, 1) := by decide +kernel
theorem dX2_has_13 : decode cX2_has 13 = .ok (.goto 4, 3) := by decide +kernel
theorem dX2_has_16 : decode cX2_has 16 = .ok (.iconst 0, 1) := by decide +kernel
theorem dX2_has_17 : decode cX2_has 17 = .ok (.ireturn, 1) := by decide +kernel
theorem dX2_append_0 : decode cX2_append 0 = .ok (.aload_n 0, 1) := by decide +kernel
theorem dX2_append_1 : decode cX2_append 1 = .ok (.getfield 30, 3) := by decide +kernel
theorem dX2_append_4 : decode cX2_append 4 = .ok (.bipush 7, 2) := by decide +kernel
theorem dX2_append_6 : decode cX2_append 6 = .ok (.if_icmp .lt 5, 3) := by decide +kernel
theorem dX2_append_9 : decode cX2_append 9 = .ok (.iconst 0, 1) := by decide +kernel
theorem dX2_append_10 : decode cX2_append 10 = .ok (.ireturn, 1) := by decide +kernel
theorem dX2_append_11 : decode cX2_append 11 = .ok (.aload_n 0, 1) := by decide +kernel
theorem dX2_append_12 : decode cX2_append 12 = .ok (.getfield 9, 3) := by decide +kernel
theorem dX2_append_15 : decode cX2_append 15 = .ok (.aload_n 0, 1) := by decide +kernel
theorem dX2_append_16 : decode cX2_append 16 = .ok (.getfield 30, 3) := by decide +kernel
theorem dX2_append_19 : decode cX2_append 19 = .ok (.iload_n 1, 1) := by decide +kernel
theorem dX2_append_20 : decode cX2_append 20 = .ok (.iastore, 1) := by decide +kernel
theorem dX2_append_21 : decode cX2_append 21 = .ok (.aload_n 0, 1) := by decide +kernel
theorem dX2_append_22 : decode cX2_append 22 = .ok (.getfield 15, 3) := by decide +kernel
theorem dX2_append_25 : decode cX2_append 25 = .ok (.aload_n 0, 1) := by decide +kernel
theorem dX2_append_26 : decode cX2_append 26 = .ok (.getfield 30, 3) := by decide +kernel
theorem dX2_append_29 : decode cX2_append 29 = .ok (.iload_n 2, 1) := by decide +kernel
theorem dX2_append_30 : decode cX2_append 30 = .ok (.iastore, 1) := by decide +kernel
theorem dX2_append_31 : decode cX2_append 31 = .ok (.aload_n 0, 1) := by decide +kernel
theorem dX2_append_32 : decode cX2_append 32 = .ok (.getfield 18, 3) := by decide +kernel
theorem dX2_append_35 : decode cX2_append 35 = .ok (.aload_n 0, 1) := by decide +kernel
theorem dX2_append_36 : decode cX2_append 36 = .ok (.getfield 30, 3) := by decide +kernel
theorem dX2_append_39 : decode cX2_append 39 = .ok (.iload_n 3, 1) := by decide +kernel
theorem dX2_append_40 : decode cX2_append 40 = .ok (.iastore, 1) := by decide +kernel
theorem dX2_append_41 : decode cX2_append 41 = .ok (.aload_n 0, 1) := by decide +kernel
theorem dX2_append_42 : decode cX2_append 42 = .ok (.getfield 21, 3) := by decide +kernel
theorem dX2_append_45 : decode cX2_append 45 = .ok (.aload_n 0, 1) := by decide +kernel
theorem dX2_append_46 : decode cX2_append 46 = .ok (.getfield 30, 3) := by decide +kernel
theorem dX2_append_49 : decode cX2_append 49 = .ok (.iload 4, 2) := by decide +kernel
theorem dX2_append_51 : decode cX2_append 51 = .ok (.iastore, 1) := by decide +kernel
theorem dX2_append_52 : decode cX2_append 52 = .ok (.aload_n 0, 1) := by decide +kernel
theorem dX2_append_53 : decode cX2_append 53 = .ok (.getfield 30, 3) := by decide +kernel
theorem dX2_append_56 : decode cX2_append 56 = .ok (.istore 5, 2) := by decide +kernel
theorem dX2_append_58 : decode cX2_append 58 = .ok (.iload 5, 2) := by decide +kernel
theorem dX2_append_60 : decode cX2_append 60 = .ok (.ifCond .le 43, 3) := by decide +kernel
theorem dX2_append_63 : decode cX2_append 63 = .ok (.aload_n 0, 1) := by decide +kernel
theorem dX2_append_64 : decode cX2_append 64 = .ok (.getfield 9, 3) := by decide +kernel
theorem dX2_append_67 : decode cX2_append 67 = .ok (.aload_n 0, 1) := by decide +kernel
theorem dX2_append_68 : decode cX2_append 68 = .ok (.getfield 24, 3) := by decide +kernel
theorem dX2_append_71 : decode cX2_append 71 = .ok (.iload 5, 2) := by decide +kernel
theorem dX2_append_73 : decode cX2_append 73 = .ok (.iconst 1, 1) := by decide +kernel
theorem dX2_append_74 : decode cX2_append 74 = .ok (.isub, 1) := by decide +kernel
theorem dX2_append_75 : decode cX2_append 75 = .ok (.iaload, 1) := by decide +kernel
theorem dX2_append_76 : decode cX2_append 76 = .ok (.iaload, 1) := by decide +kernel
theorem dX2_append_77 : decode cX2_append 77 = .ok (.iload_n 1, 1) := by decide +kernel
theorem dX2_append_78 : decode cX2_append 78 = .ok (.if_icmp .le 25, 3) := by decide +kernel
theorem dX2_append_81 : decode cX2_append 81 = .ok (.aload_n 0, 1) := by decide +kernel
theorem dX2_append_82 : decode cX2_append 82 = .ok (.getfield 24, 3) := by decide +kernel
theorem dX2_append_85 : decode cX2_append 85 = .ok (.iload 5, 2) := by decide +kernel
theorem dX2_append_87 : decode cX2_append 87 = .ok (.aload_n 0, 1) := by decide +kernel
theorem dX2_append_88 : decode cX2_append 88 = .ok (.getfield 24, 3) := by decide +kernel
theorem dX2_append_91 : decode cX2_append 91 = .ok (.iload 5, 2) := by decide +kernel
theorem dX2_append_93 : decode cX2_append 93 = .ok (.iconst 1, 1) := by decide +kernel
theorem dX2_append_94 : decode cX2_append 94 = .ok (.isub, 1) := by decide +kernel
theorem dX2_append_95 : decode cX2_append 95 = .ok (.iaload, 1) := by decide +kernel
theorem dX2_append_96 : decode cX2_append 96 = .ok (.iastore, 1) := by decide +kernel
theorem dX2_append_97 : decode cX2_append 97 = .ok (.iinc 5 (-1), 3) := by decide +kernel
theorem dX2_append_100 : decode cX2_append 100 = .ok (.goto (-42), 3) := by decide +kernel
theorem dX2_append_103 : decode cX2_append 103 = .ok (.aload_n 0, 1) := by decide +kernel
theorem dX2_append_104 : decode cX2_append 104 = .ok (.getfield 24, 3) := by decide +kernel
theorem dX2_append_107 : decode cX2_append 107 = .ok (.iload 5, 2) := by decide +kernel
theorem dX2_append_109 : decode cX2_append 109 = .ok (.aload_n 0, 1) := by decide +kernel
theorem dX2_append_110 : decode cX2_append 110 = .ok (.getfield 30, 3) := by decide +kernel
theorem dX2_append_113 : decode cX2_append 113 = .ok (.iastore, 1) := by decide +kernel
theorem dX2_append_114 : decode cX2_append 114 = .ok (.aload_n 0, 1) := by decide +kernel
theorem dX2_append_115 : decode cX2_append 115 = .ok (.dup, 1) := by decide +kernel
theorem dX2_append_116 : decode cX2_append 116 = .ok (.getfield 30, 3) := by decide +kernel
theorem dX2_append_119 : decode cX2_append 119 = .ok (.iconst 1, 1) := by decide +kernel
theorem dX2_append_120 : decode cX2_append 120 = .ok (.iadd, 1) := by decide +kernel
theorem dX2_append_121 : decode cX2_append 121 = .ok (.putfield 30, 3) := by decide +kernel
theorem dX2_append_124 : decode cX2_append 124 = .ok (.iconst 1, 1) := by decide +kernel
theorem dX2_append_125 : decode cX2_append 125 = .ok (.ireturn, 1) := by decide +kernel
theorem dX2_become_0 : decode cX2_become 0 = .ok (.aload_n 0, 1) := by decide +kernel
theorem dX2_become_1 : decode cX2_become 1 = .ok (.aload_n 1, 1) := by decide +kernel
theorem dX2_become_2 : decode cX2_become 2 = .ok (.getfield 30, 3) := by decide +kernel
theorem dX2_become_5 : decode cX2_become 5 = .ok (.putfield 30, 3) := by decide +kernel
theorem dX2_become_8 : decode cX2_become 8 = .ok (.aload_n 0, 1) := by decide +kernel
theorem dX2_become_9 : decode cX2_become 9 = .ok (.aload_n 1, 1) := by decide +kernel
theorem dX2_become_10 : decode cX2_become 10 = .ok (.getfield 34, 3) := by decide +kernel
theorem dX2_become_13 : decode cX2_become 13 = .ok (.putfield 34, 3) := by decide +kernel
theorem dX2_become_16 : decode cX2_become 16 = .ok (.aload_n 0, 1) := by decide +kernel
theorem dX2_become_17 : decode cX2_become 17 = .ok (.aload_n 1, 1) := by decide +kernel
theorem dX2_become_18 : decode cX2_become 18 = .ok (.getfield 37, 3) := by decide +kernel
theorem dX2_become_21 : decode cX2_become 21 = .ok (.putfield 37, 3) := by decide +kernel
theorem dX2_become_24 : decode cX2_become 24 = .ok (.iconst 0, 1) := by decide +kernel
theorem dX2_become_25 : decode cX2_become 25 = .ok (.istore_n 2, 1) := by decide +kernel
theorem dX2_become_26 : decode cX2_become 26 = .ok (.iload_n 2, 1) := by decide +kernel
theorem dX2_become_27 : decode cX2_become 27 = .ok (.bipush 7, 2) := by decide +kernel
theorem dX2_become_29 : decode cX2_become 29 = .ok (.if_icmp .ge 69, 3) := by decide +kernel
theorem dX2_become_32 : decode cX2_become 32 = .ok (.aload_n 0, 1) := by decide +kernel
theorem dX2_become_33 : decode cX2_become 33 = .ok (.getfield 9, 3) := by decide +kernel
theorem dX2_become_36 : decode cX2_become 36 = .ok (.iload_n 2, 1) := by decide +kernel
theorem dX2_become_37 : decode cX2_become 37 = .ok (.aload_n 1, 1) := by decide +kernel
theorem dX2_become_38 : decode cX2_become 38 = .ok (.getfield 9, 3) := by decide +kernel
theorem dX2_become_41 : decode cX2_become 41 = .ok (.iload_n 2, 1) := by decide +kernel
theorem dX2_become_42 : decode cX2_become 42 = .ok (.iaload, 1) := by decide +kernel
theorem dX2_become_43 : decode cX2_become 43 = .ok (.iastore, 1) := by decide +kernel
theorem dX2_become_44 : decode cX2_become 44 = .ok (.aload_n 0, 1) := by decide +kernel
theorem dX2_become_45 : decode cX2_become 45 = .ok (.getfield 15, 3) := by decide +kernel
theorem dX2_become_48 : decode cX2_become 48 = .ok (.iload_n 2, 1) := by decide +kernel
theorem dX2_become_49 : decode cX2_become 49 = .ok (.aload_n 1, 1) := by decide +kernel
theorem dX2_become_50 : decode cX2_become 50 = .ok (.getfield 15, 3) := by decide +kernel
theorem dX2_become_53 : decode cX2_become 53 = .ok (.iload_n 2, 1) := by decide +kernel
theorem dX2_become_54 : decode cX2_become 54 = .ok (.iaload, 1) := by decide +kernel
theorem dX2_become_55 : decode cX2_become 55 = .ok (.iastore, 1) := by decide +kernel
theorem dX2_become_56 : decode cX2_become 56 = .ok (.aload_n 0, 1) := by decide +kernel
theorem dX2_become_57 : decode cX2_become 57 = .ok (.getfield 18, 3) := by decide +kernel
theorem dX2_become_60 : decode cX2_become 60 = .ok (.iload_n 2, 1) := by decide +kernel
theorem dX2_become_61 : decode cX2_become 61 = .ok (.aload_n 1, 1) := by decide +kernel
theorem dX2_become_62 : decode cX2_become 62 = .ok (.getfield 18, 3) := by decide +kernel
theorem dX2_become_65 : decode cX2_become 65 = .ok (.iload_n 2, 1) := by decide +kernel
theorem dX2_become_66 : decode cX2_become 66 = .ok (.iaload, 1) := by decide +kernel
theorem dX2_become_67 : decode cX2_become 67 = .ok (.iastore, 1) := by decide +kernel
theorem dX2_become_68 : decode cX2_become 68 = .ok (.aload_n 0, 1) := by decide +kernel
theorem dX2_become_69 : decode cX2_become 69 = .ok (.getfield 21, 3) := by decide +kernel
theorem dX2_become_72 : decode cX2_become 72 = .ok (.iload_n 2, 1) := by decide +kernel
theorem dX2_become_73 : decode cX2_become 73 = .ok (.aload_n 1, 1) := by decide +kernel
theorem dX2_become_74 : decode cX2_become 74 = .ok (.getfield 21, 3) := by decide +kernel
theorem dX2_become_77 : decode cX2_become 77 = .ok (.iload_n 2, 1) := by decide +kernel
theorem dX2_become_78 : decode cX2_become 78 = .ok (.iaload, 1) := by decide +kernel
theorem dX2_become_79 : decode cX2_become 79 = .ok (.iastore, 1) := by decide +kernel
theorem dX2_become_80 : decode cX2_become 80 = .ok (.aload_n 0, 1) := by decide +kernel
theorem dX2_become_81 : decode cX2_become 81 = .ok (.getfield 24, 3) := by decide +kernel
theorem dX2_become_84 : decode cX2_become 84 = .ok (.iload_n 2, 1) := by decide +kernel
theorem dX2_become_85 : decode cX2_become 85 = .ok (.aload_n 1, 1) := by decide +kernel
theorem dX2_become_86 : decode cX2_become 86 = .ok (.getfield 24, 3) := by decide +kernel
theorem dX2_become_89 : decode cX2_become 89 = .ok (.iload_n 2, 1) := by decide +kernel
theorem dX2_become_90 : decode cX2_become 90 = .ok (.iaload, 1) := by decide +kernel
theorem dX2_become_91 : decode cX2_become 91 = .ok (.iastore, 1) := by decide +kernel
theorem dX2_become_92 : decode cX2_become 92 = .ok (.iinc 2 1, 3) := by decide +kernel
theorem dX2_become_95 : decode cX2_become 95 = .ok (.goto (-69), 3) := by decide +kernel
theorem dX2_become_98 : decode cX2_become 98 = .ok (.return_, 1) := by decide +kernel
theorem dX2_hailPans_0 : decode cX2_hailPans 0 = .ok (.iconst 0, 1) := by decide +kernel
theorem dX2_hailPans_1 : decode cX2_hailPans 1 = .ok (.istore_n 1, 1) := by decide +kernel
theorem dX2_hailPans_2 : decode cX2_hailPans 2 = .ok (.iconst 0, 1) := by decide +kernel
theorem dX2_hailPans_3 : decode cX2_hailPans 3 = .ok (.istore_n 2, 1) := by decide +kernel
theorem dX2_hailPans_4 : decode cX2_hailPans 4 = .ok (.iload_n 2, 1) := by decide +kernel
theorem dX2_hailPans_5 : decode cX2_hailPans 5 = .ok (.aload_n 0, 1) := by decide +kernel
theorem dX2_hailPans_6 : decode cX2_hailPans 6 = .ok (.getfield 30, 3) := by decide +kernel
theorem dX2_hailPans_9 : decode cX2_hailPans 9 = .ok (.if_icmp .ge 25, 3) := by decide +kernel
theorem dX2_hailPans_12 : decode cX2_hailPans 12 = .ok (.aload_n 0, 1) := by decide +kernel
theorem dX2_hailPans_13 : decode cX2_hailPans 13 = .ok (.getfield 21, 3) := by decide +kernel
theorem dX2_hailPans_16 : decode cX2_hailPans 16 = .ok (.iload_n 2, 1) := by decide +kernel
theorem dX2_hailPans_17 : decode cX2_hailPans 17 = .ok (.iaload, 1) := by decide +kernel
theorem dX2_hailPans_18 : decode cX2_hailPans 18 = .ok (.iconst 2, 1) := by decide +kernel
theorem dX2_hailPans_19 : decode cX2_hailPans 19 = .ok (.if_icmp .ne 9, 3) := by decide +kernel
theorem dX2_hailPans_22 : decode cX2_hailPans 22 = .ok (.iload_n 1, 1) := by decide +kernel
theorem dX2_hailPans_23 : decode cX2_hailPans 23 = .ok (.iconst 1, 1) := by decide +kernel
theorem dX2_hailPans_24 : decode cX2_hailPans 24 = .ok (.iload_n 2, 1) := by decide +kernel
theorem dX2_hailPans_25 : decode cX2_hailPans 25 = .ok (.ishl, 1) := by decide +kernel
theorem dX2_hailPans_26 : decode cX2_hailPans 26 = .ok (.ior, 1) := by decide +kernel
theorem dX2_hailPans_27 : decode cX2_hailPans 27 = .ok (.istore_n 1, 1) := by decide +kernel
theorem dX2_hailPans_28 : decode cX2_hailPans 28 = .ok (.iinc 2 1, 3) := by decide +kernel
theorem dX2_hailPans_31 : decode cX2_hailPans 31 = .ok (.goto (-27), 3) := by decide +kernel
theorem dX2_hailPans_34 : decode cX2_hailPans 34 = .ok (.iload_n 1, 1) := by decide +kernel
theorem dX2_hailPans_35 : decode cX2_hailPans 35 = .ok (.ireturn, 1) := by decide +kernel
theorem dX2_spoonsOfLesser_0 : decode cX2_spoonsOfLesser 0 = .ok (.aload_n 0, 1) := by decide +kernel
theorem dX2_spoonsOfLesser_1 : decode cX2_spoonsOfLesser 1 = .ok (.getfield 9, 3) := by decide +kernel
theorem dX2_spoonsOfLesser_4 : decode cX2_spoonsOfLesser 4 = .ok (.iload_n 1, 1) := by decide +kernel
theorem dX2_spoonsOfLesser_5 : decode cX2_spoonsOfLesser 5 = .ok (.iaload, 1) := by decide +kernel
theorem dX2_spoonsOfLesser_6 : decode cX2_spoonsOfLesser 6 = .ok (.aload_n 0, 1) := by decide +kernel
theorem dX2_spoonsOfLesser_7 : decode cX2_spoonsOfLesser 7 = .ok (.getfield 9, 3) := by decide +kernel
theorem dX2_spoonsOfLesser_10 : decode cX2_spoonsOfLesser 10 = .ok (.iload_n 2, 1) := by decide +kernel
theorem dX2_spoonsOfLesser_11 : decode cX2_spoonsOfLesser 11 = .ok (.iaload, 1) := by decide +kernel
theorem dX2_spoonsOfLesser_12 : decode cX2_spoonsOfLesser 12 = .ok (.if_icmp .ne 5, 3) := by decide +kernel
theorem dX2_spoonsOfLesser_15 : decode cX2_spoonsOfLesser 15 = .ok (.iconst 0, 1) := by decide +kernel
theorem dX2_spoonsOfLesser_16 : decode cX2_spoonsOfLesser 16 = .ok (.ireturn, 1) := by decide +kernel
theorem dX2_spoonsOfLesser_17 : decode cX2_spoonsOfLesser 17 = .ok (.iconst 1, 1) := by decide +kernel
theorem dX2_spoonsOfLesser_18 : decode cX2_spoonsOfLesser 18 = .ok (.istore 5, 2) := by decide +kernel
theorem dX2_spoonsOfLesser_20 : decode cX2_spoonsOfLesser 20 = .ok (.iload 5, 2) := by decide +kernel
theorem dX2_spoonsOfLesser_22 : decode cX2_spoonsOfLesser 22 = .ok (.iload_n 3, 1) := by decide +kernel
theorem dX2_spoonsOfLesser_23 : decode cX2_spoonsOfLesser 23 = .ok (.if_icmp .ge 38, 3) := by decide +kernel
theorem dX2_spoonsOfLesser_26 : decode cX2_spoonsOfLesser 26 = .ok (.iload 5, 2) := by decide +kernel
theorem dX2_spoonsOfLesser_28 : decode cX2_spoonsOfLesser 28 = .ok (.aload_n 0, 1) := by decide +kernel
theorem dX2_spoonsOfLesser_29 : decode cX2_spoonsOfLesser 29 = .ok (.getfield 9, 3) := by decide +kernel
theorem dX2_spoonsOfLesser_32 : decode cX2_spoonsOfLesser 32 = .ok (.iload_n 1, 1) := by decide +kernel
theorem dX2_spoonsOfLesser_33 : decode cX2_spoonsOfLesser 33 = .ok (.iaload, 1) := by decide +kernel
theorem dX2_spoonsOfLesser_34 : decode cX2_spoonsOfLesser 34 = .ok (.imul, 1) := by decide +kernel
theorem dX2_spoonsOfLesser_35 : decode cX2_spoonsOfLesser 35 = .ok (.iload_n 3, 1) := by decide +kernel
theorem dX2_spoonsOfLesser_36 : decode cX2_spoonsOfLesser 36 = .ok (.iload 5, 2) := by decide +kernel
theorem dX2_spoonsOfLesser_38 : decode cX2_spoonsOfLesser 38 = .ok (.isub, 1) := by decide +kernel
theorem dX2_spoonsOfLesser_39 : decode cX2_spoonsOfLesser 39 = .ok (.aload_n 0, 1) := by decide +kernel
theorem dX2_spoonsOfLesser_40 : decode cX2_spoonsOfLesser 40 = .ok (.getfield 9, 3) := by decide +kernel
theorem dX2_spoonsOfLesser_43 : decode cX2_spoonsOfLesser 43 = .ok (.iload_n 2, 1) := by decide +kernel
theorem dX2_spoonsOfLesser_44 : decode cX2_spoonsOfLesser 44 = .ok (.iaload, 1) := by decide +kernel
theorem dX2_spoonsOfLesser_45 : decode cX2_spoonsOfLesser 45 = .ok (.imul, 1) := by decide +kernel
theorem dX2_spoonsOfLesser_46 : decode cX2_spoonsOfLesser 46 = .ok (.iadd, 1) := by decide +kernel
theorem dX2_spoonsOfLesser_47 : decode cX2_spoonsOfLesser 47 = .ok (.iload 4, 2) := by decide +kernel
theorem dX2_spoonsOfLesser_49 : decode cX2_spoonsOfLesser 49 = .ok (.if_icmp .ne 6, 3) := by decide +kernel
theorem dX2_spoonsOfLesser_52 : decode cX2_spoonsOfLesser 52 = .ok (.iload 5, 2) := by decide +kernel
theorem dX2_spoonsOfLesser_54 : decode cX2_spoonsOfLesser 54 = .ok (.ireturn, 1) := by decide +kernel
theorem dX2_spoonsOfLesser_55 : decode cX2_spoonsOfLesser 55 = .ok (.iinc 5 1, 3) := by decide +kernel
theorem dX2_spoonsOfLesser_58 : decode cX2_spoonsOfLesser 58 = .ok (.goto (-38), 3) := by decide +kernel
theorem dX2_spoonsOfLesser_61 : decode cX2_spoonsOfLesser 61 = .ok (.iconst 0, 1) := by decide +kernel
theorem dX2_spoonsOfLesser_62 : decode cX2_spoonsOfLesser 62 = .ok (.ireturn, 1) := by decide +kernel
theorem dX3_init_0 : decode cX3_init 0 = .ok (.aload_n 0, 1) := by decide +kernel
theorem dX3_init_1 : decode cX3_init 1 = .ok (.invokespecial 3, 3) := by decide +kernel
theorem dX3_init_4 : decode cX3_init 4 = .ok (.aload_n 0, 1) := by decide +kernel
theorem dX3_init_5 : decode cX3_init 5 = .ok (.iconst 5, 1) := by decide +kernel
theorem dX3_init_6 : decode cX3_init 6 = .ok (.newarray .int, 2) := by decide +kernel
theorem dX3_init_8 : decode cX3_init 8 = .ok (.putfield 9, 3) := by decide +kernel
theorem dX3_init_11 : decode cX3_init 11 = .ok (.aload_n 0, 1) := by decide +kernel
theorem dX3_init_12 : decode cX3_init 12 = .ok (.iconst 5, 1) := by decide +kernel
theorem dX3_init_13 : decode cX3_init 13 = .ok (.newarray .int, 2) := by decide +kernel
theorem dX3_init_15 : decode cX3_init 15 = .ok (.putfield 15, 3) := by decide +kernel
theorem dX3_init_18 : decode cX3_init 18 = .ok (.aload_n 0, 1) := by decide +kernel
theorem dX3_init_19 : decode cX3_init 19 = .ok (.iconst 5, 1) := by decide +kernel
theorem dX3_init_20 : decode cX3_init 20 = .ok (.newarray .int, 2) := by decide +kernel
theorem dX3_init_22 : decode cX3_init 22 = .ok (.putfield 18, 3) := by decide +kernel
theorem dX3_init_25 : decode cX3_init 25 = .ok (.return_, 1) := by decide +kernel
theorem dX3_append_0 : decode cX3_append 0 = .ok (.aload_n 0, 1) := by decide +kernel
theorem dX3_append_1 : decode cX3_append 1 = .ok (.getfield 21, 3) := by decide +kernel
theorem dX3_append_4 : decode cX3_append 4 = .ok (.iconst 5, 1) := by decide +kernel
theorem dX3_append_5 : decode cX3_append 5 = .ok (.if_icmp .lt 5, 3) := by decide +kernel
theorem dX3_append_8 : decode cX3_append 8 = .ok (.iconst 0, 1) := by decide +kernel
theorem dX3_append_9 : decode cX3_append 9 = .ok (.ireturn, 1) := by decide +kernel
theorem dX3_append_10 : decode cX3_append 10 = .ok (.aload_n 0, 1) := by decide +kernel
theorem dX3_append_11 : decode cX3_append 11 = .ok (.getfield 9, 3) := by decide +kernel
theorem dX3_append_14 : decode cX3_append 14 = .ok (.aload_n 0, 1) := by decide +kernel
theorem dX3_append_15 : decode cX3_append 15 = .ok (.getfield 21, 3) := by decide +kernel
theorem dX3_append_18 : decode cX3_append 18 = .ok (.iload_n 1, 1) := by decide +kernel
theorem dX3_append_19 : decode cX3_append 19 = .ok (.iastore, 1) := by decide +kernel
theorem dX3_append_20 : decode cX3_append 20 = .ok (.aload_n 0, 1) := by decide +kernel
theorem dX3_append_21 : decode cX3_append 21 = .ok (.getfield 15, 3) := by decide +kernel
theorem dX3_append_24 : decode cX3_append 24 = .ok (.aload_n 0, 1) := by decide +kernel
theorem dX3_append_25 : decode cX3_append 25 = .ok (.getfield 21, 3) := by decide +kernel
theorem dX3_append_28 : decode cX3_append 28 = .ok (.iload_n 2, 1) := by decide +kernel
theorem dX3_append_29 : decode cX3_append 29 = .ok (.iastore, 1) := by decide +kernel
theorem dX3_append_30 : decode cX3_append 30 = .ok (.aload_n 0, 1) := by decide +kernel
theorem dX3_append_31 : decode cX3_append 31 = .ok (.getfield 18, 3) := by decide +kernel
theorem dX3_append_34 : decode cX3_append 34 = .ok (.aload_n 0, 1) := by decide +kernel
theorem dX3_append_35 : decode cX3_append 35 = .ok (.getfield 21, 3) := by decide +kernel
theorem dX3_append_38 : decode cX3_append 38 = .ok (.iload_n 3, 1) := by decide +kernel
theorem dX3_append_39 : decode cX3_append 39 = .ok (.iastore, 1) := by decide +kernel
theorem dX3_append_40 : decode cX3_append 40 = .ok (.aload_n 0, 1) := by decide +kernel
theorem dX3_append_41 : decode cX3_append 41 = .ok (.dup, 1) := by decide +kernel
theorem dX3_append_42 : decode cX3_append 42 = .ok (.getfield 21, 3) := by decide +kernel
theorem dX3_append_45 : decode cX3_append 45 = .ok (.iconst 1, 1) := by decide +kernel
theorem dX3_append_46 : decode cX3_append 46 = .ok (.iadd, 1) := by decide +kernel
theorem dX3_append_47 : decode cX3_append 47 = .ok (.putfield 21, 3) := by decide +kernel
theorem dX3_append_50 : decode cX3_append 50 = .ok (.iconst 1, 1) := by decide +kernel
theorem dX3_append_51 : decode cX3_append 51 = .ok (.ireturn, 1) := by decide +kernel
theorem dX4_init_0 : decode cX4_init 0 = .ok (.aload_n 0, 1) := by decide +kernel
theorem dX4_init_1 : decode cX4_init 1 = .ok (.invokespecial 3, 3) := by decide +kernel
theorem dX4_init_4 : decode cX4_init 4 = .ok (.aload_n 0, 1) := by decide +kernel
theorem dX4_init_5 : decode cX4_init 5 = .ok (.bipush 49, 2) := by decide +kernel
theorem dX4_init_7 : decode cX4_init 7 = .ok (.newarray .int, 2) := by decide +kernel
theorem dX4_init_9 : decode cX4_init 9 = .ok (.putfield 9, 3) := by decide +kernel
theorem dX4_init_12 : decode cX4_init 12 = .ok (.aload_n 0, 1) := by decide +kernel
theorem dX4_init_13 : decode cX4_init 13 = .ok (.aload_n 1, 1) := by decide +kernel
theorem dX4_init_14 : decode cX4_init 14 = .ok (.putfield 15, 3) := by decide +kernel
theorem dX4_init_17 : decode cX4_init 17 = .ok (.return_, 1) := by decide +kernel
theorem dX4_fill_0 : decode cX4_fill 0 = .ok (.aload_n 0, 1) := by decide +kernel
theorem dX4_fill_1 : decode cX4_fill 1 = .ok (.iconst 0, 1) := by decide +kernel
theorem dX4_fill_2 : decode cX4_fill 2 = .ok (.putfield 19, 3) := by decide +kernel
theorem dX4_fill_5 : decode cX4_fill 5 = .ok (.aload_n 0, 1) := by decide +kernel
theorem dX4_fill_6 : decode cX4_fill 6 = .ok (.iconst 0, 1) := by decide +kernel
theorem dX4_fill_7 : decode cX4_fill 7 = .ok (.putfield 23, 3) := by decide +kernel
theorem dX4_fill_10 : decode cX4_fill 10 = .ok (.iconst 0, 1) := by decide +kernel
theorem dX4_fill_11 : decode cX4_fill 11 = .ok (.istore_n 1, 1) := by decide +kernel
theorem dX4_fill_12 : decode cX4_fill 12 = .ok (.iload_n 1, 1) := by decide +kernel
theorem dX4_fill_13 : decode cX4_fill 13 = .ok (.bipush 49, 2) := by decide +kernel
theorem dX4_fill_15 : decode cX4_fill 15 = .ok (.if_icmp .ge 16, 3) := by decide +kernel
theorem dX4_fill_18 : decode cX4_fill 18 = .ok (.aload_n 0, 1) := by decide +kernel
theorem dX4_fill_19 : decode cX4_fill 19 = .ok (.getfield 9, 3) := by decide +kernel
theorem dX4_fill_22 : decode cX4_fill 22 = .ok (.iload_n 1, 1) := by decide +kernel
theorem dX4_fill_23 : decode cX4_fill 23 = .ok (.iconst 0, 1) := by decide +kernel
theorem dX4_fill_24 : decode cX4_fill 24 = .ok (.iastore, 1) := by decide +kernel
theorem dX4_fill_25 : decode cX4_fill 25 = .ok (.iinc 1 1, 3) := by decide +kernel
theorem dX4_fill_28 : decode cX4_fill 28 = .ok (.goto (-16), 3) := by decide +kernel
theorem dX4_fill_31 : decode cX4_fill 31 = .ok (.iconst 0, 1) := by decide +kernel
theorem dX4_fill_32 : decode cX4_fill 32 = .ok (.istore_n 1, 1) := by decide +kernel
theorem dX4_fill_33 : decode cX4_fill 33 = .ok (.iload_n 1, 1) := by decide +kernel
theorem dX4_fill_34 : decode cX4_fill 34 = .ok (.aload_n 0, 1) := by decide +kernel
theorem dX4_fill_35 : decode cX4_fill 35 = .ok (.getfield 15, 3) := by decide +kernel
theorem dX4_fill_38 : decode cX4_fill 38 = .ok (.getfield 26, 3) := by decide +kernel
theorem dX4_fill_41 : decode cX4_fill 41 = .ok (.if_icmp .ge 28, 3) := by decide +kernel
theorem dX4_fill_44 : decode cX4_fill 44 = .ok (.aload_n 0, 1) := by decide +kernel
theorem dX4_fill_45 : decode cX4_fill 45 = .ok (.getfield 9, 3) := by decide +kernel
theorem dX4_fill_48 : decode cX4_fill 48 = .ok (.iload_n 1, 1) := by decide +kernel
theorem dX4_fill_49 : decode cX4_fill 49 = .ok (.iload_n 1, 1) := by decide +kernel
theorem dX4_fill_50 : decode cX4_fill 50 = .ok (.invokestatic 31, 3) := by decide +kernel
theorem dX4_fill_53 : decode cX4_fill 53 = .ok (.aload_n 0, 1) := by decide +kernel
theorem dX4_fill_54 : decode cX4_fill 54 = .ok (.getfield 15, 3) := by decide +kernel
theorem dX4_fill_57 : decode cX4_fill 57 = .ok (.getfield 35, 3) := by decide +kernel
theorem dX4_fill_60 : decode cX4_fill 60 = .ok (.iload_n 1, 1) := by decide +kernel
theorem dX4_fill_61 : decode cX4_fill 61 = .ok (.iaload, 1) := by decide +kernel
theorem dX4_fill_62 : decode cX4_fill 62 = .ok (.iastore, 1) := by decide +kernel
theorem dX4_fill_63 : decode cX4_fill 63 = .ok (.iinc 1 1, 3) := by decide +kernel
theorem dX4_fill_66 : decode cX4_fill 66 = .ok (.goto (-33), 3) := by decide +kernel
theorem dX4_fill_69 : decode cX4_fill 69 = .ok (.return_, 1) := by decide +kernel
theorem dX4_become_0 : decode cX4_become 0 = .ok (.aload_n 0, 1) := by decide +kernel
theorem dX4_become_1 : decode cX4_become 1 = .ok (.aload_n 1, 1) := by decide +kernel
theorem dX4_become_2 : decode cX4_become 2 = .ok (.getfield 19, 3) := by decide +kernel
theorem dX4_become_5 : decode cX4_become 5 = .ok (.putfield 19, 3) := by decide +kernel
theorem dX4_become_8 : decode cX4_become 8 = .ok (.aload_n 0, 1) := by decide +kernel
theorem dX4_become_9 : decode cX4_become 9 = .ok (.aload_n 1, 1) := by decide +kernel
theorem dX4_become_10 : decode cX4_become 10 = .ok (.getfield 23, 3) := by decide +kernel
theorem dX4_become_13 : decode cX4_become 13 = .ok (.putfield 23, 3) := by decide +kernel
theorem dX4_become_16 : decode cX4_become 16 = .ok (.iconst 0, 1) := by decide +kernel
theorem dX4_become_17 : decode cX4_become 17 = .ok (.istore_n 2, 1) := by decide +kernel
theorem dX4_become_18 : decode cX4_become 18 = .ok (.iload_n 2, 1) := by decide +kernel
theorem dX4_become_19 : decode cX4_become 19 = .ok (.bipush 49, 2) := by decide +kernel
theorem dX4_become_21 : decode cX4_become 21 = .ok (.if_icmp .ge 21, 3) := by decide +kernel
theorem dX4_become_24 : decode cX4_become 24 = .ok (.aload_n 0, 1) := by decide +kernel
theorem dX4_become_25 : decode cX4_become 25 = .ok (.getfield 9, 3) := by decide +kernel
theorem dX4_become_28 : decode cX4_become 28 = .ok (.iload_n 2, 1) := by decide +kernel
theorem dX4_become_29 : decode cX4_become 29 = .ok (.aload_n 1, 1) := by decide +kernel
theorem dX4_become_30 : decode cX4_become 30 = .ok (.getfield 9, 3) := by decide +kernel
theorem dX4_become_33 : decode cX4_become 33 = .ok (.iload_n 2, 1) := by decide +kernel
theorem dX4_become_34 : decode cX4_become 34 = .ok (.iaload, 1) := by decide +kernel
theorem dX4_become_35 : decode cX4_become 35 = .ok (.iastore, 1) := by decide +kernel
theorem dX4_become_36 : decode cX4_become 36 = .ok (.iinc 2 1, 3) := by decide +kernel
theorem dX4_become_39 : decode cX4_become 39 = .ok (.goto (-21), 3) := by decide +kernel
theorem dX4_become_42 : decode cX4_become 42 = .ok (.return_, 1) := by decide +kernel
theorem dX4_at_0 : decode cX4_at 0 = .ok (.iload_n 0, 1) := by decide +kernel
theorem dX4_at_1 : decode cX4_at 1 = .ok (.bipush 7, 2) := by decide +kernel
theorem dX4_at_3 : decode cX4_at 3 = .ok (.imul, 1) := by decide +kernel
theorem dX4_at_4 : decode cX4_at 4 = .ok (.iload_n 1, 1) := by decide +kernel
theorem dX4_at_5 : decode cX4_at 5 = .ok (.iadd, 1) := by decide +kernel
theorem dX4_at_6 : decode cX4_at 6 = .ok (.ireturn, 1) := by decide +kernel
theorem dX4_amount_0 : decode cX4_amount 0 = .ok (.aload_n 0, 1) := by decide +kernel
theorem dX4_amount_1 : decode cX4_amount 1 = .ok (.getfield 9, 3) := by decide +kernel
theorem dX4_amount_4 : decode cX4_amount 4 = .ok (.iload_n 1, 1) := by decide +kernel
theorem dX4_amount_5 : decode cX4_amount 5 = .ok (.iload_n 2, 1) := by decide +kernel
theorem dX4_amount_6 : decode cX4_amount 6 = .ok (.invokestatic 31, 3) := by decide +kernel
theorem dX4_amount_9 : decode cX4_amount 9 = .ok (.iaload, 1) := by decide +kernel
theorem dX4_amount_10 : decode cX4_amount 10 = .ok (.ireturn, 1) := by decide +kernel
theorem dX4_inPan_0 : decode cX4_inPan 0 = .ok (.iconst 0, 1) := by decide +kernel
theorem dX4_inPan_1 : decode cX4_inPan 1 = .ok (.istore_n 2, 1) := by decide +kernel
theorem dX4_inPan_2 : decode cX4_inPan 2 = .ok (.iconst 0, 1) := by decide +kernel
theorem dX4_inPan_3 : decode cX4_inPan 3 = .ok (.istore_n 3, 1) := by decide +kernel
theorem dX4_inPan_4 : decode cX4_inPan 4 = .ok (.iload_n 3, 1) := by decide +kernel
theorem dX4_inPan_5 : decode cX4_inPan 5 = .ok (.aload_n 0, 1) := by decide +kernel
theorem dX4_inPan_6 : decode cX4_inPan 6 = .ok (.getfield 15, 3) := by decide +kernel
theorem dX4_inPan_9 : decode cX4_inPan 9 = .ok (.getfield 26, 3) := by decide +kernel
theorem dX4_inPan_12 : decode cX4_inPan 12 = .ok (.if_icmp .ge 18, 3) := by decide +kernel
theorem dX4_inPan_15 : decode cX4_inPan 15 = .ok (.iload_n 2, 1) := by decide +kernel
theorem dX4_inPan_16 : decode cX4_inPan 16 = .ok (.aload_n 0, 1) := by decide +kernel
theorem dX4_inPan_17 : decode cX4_inPan 17 = .ok (.iload_n 1, 1) := by decide +kernel
theorem dX4_inPan_18 : decode cX4_inPan 18 = .ok (.iload_n 3, 1) := by decide +kernel
theorem dX4_inPan_19 : decode cX4_inPan 19 = .ok (.invokevirtual 36, 3) := by decide +kernel
theorem dX4_inPan_22 : decode cX4_inPan 22 = .ok (.iadd, 1) := by decide +kernel
theorem dX4_inPan_23 : decode cX4_inPan 23 = .ok (.istore_n 2, 1) := by decide +kernel
theorem dX4_inPan_24 : decode cX4_inPan 24 = .ok (.iinc 3 1, 3) := by decide +kernel
theorem dX4_inPan_27 : decode cX4_inPan 27 = .ok (.goto (-23), 3) := by decide +kernel
theorem dX4_inPan_30 : decode cX4_inPan 30 = .ok (.iload_n 2, 1) := by decide +kernel
theorem dX4_inPan_31 : decode cX4_inPan 31 = .ok (.ireturn, 1) := by decide +kernel
theorem dX4_inAll_0 : decode cX4_inAll 0 = .ok (.iconst 0, 1) := by decide +kernel
theorem dX4_inAll_1 : decode cX4_inAll 1 = .ok (.istore_n 1, 1) := by decide +kernel
theorem dX4_inAll_2 : decode cX4_inAll 2 = .ok (.iconst 0, 1) := by decide +kernel
theorem dX4_inAll_3 : decode cX4_inAll 3 = .ok (.istore_n 2, 1) := by decide +kernel
theorem dX4_inAll_4 : decode cX4_inAll 4 = .ok (.iload_n 2, 1) := by decide +kernel
theorem dX4_inAll_5 : decode cX4_inAll 5 = .ok (.aload_n 0, 1) := by decide +kernel
theorem dX4_inAll_6 : decode cX4_inAll 6 = .ok (.getfield 15, 3) := by decide +kernel
theorem dX4_inAll_9 : decode cX4_inAll 9 = .ok (.getfield 26, 3) := by decide +kernel
theorem dX4_inAll_12 : decode cX4_inAll 12 = .ok (.if_icmp .ge 17, 3) := by decide +kernel
theorem dX4_inAll_15 : decode cX4_inAll 15 = .ok (.iload_n 1, 1) := by decide +kernel
theorem dX4_inAll_16 : decode cX4_inAll 16 = .ok (.aload_n 0, 1) := by decide +kernel
theorem dX4_inAll_17 : decode cX4_inAll 17 = .ok (.iload_n 2, 1) := by decide +kernel
theorem dX4_inAll_18 : decode cX4_inAll 18 = .ok (.invokevirtual 39, 3) := by decide +kernel
theorem dX4_inAll_21 : decode cX4_inAll 21 = .ok (.iadd, 1) := by decide +kernel
theorem dX4_inAll_22 : decode cX4_inAll 22 = .ok (.istore_n 1, 1) := by decide +kernel
theorem dX4_inAll_23 : decode cX4_inAll 23 = .ok (.iinc 2 1, 3) := by decide +kernel
theorem dX4_inAll_26 : decode cX4_inAll 26 = .ok (.goto (-22), 3) := by decide +kernel
theorem dX4_inAll_29 : decode cX4_inAll 29 = .ok (.iload_n 1, 1) := by decide +kernel
theorem dX4_inAll_30 : decode cX4_inAll 30 = .ok (.ireturn, 1) := by decide +kernel
theorem dX4_tasteOf_0 : decode cX4_tasteOf 0 = .ok (.iconst 0, 1) := by decide +kernel
theorem dX4_tasteOf_1 : decode cX4_tasteOf 1 = .ok (.istore_n 2, 1) := by decide +kernel
theorem dX4_tasteOf_2 : decode cX4_tasteOf 2 = .ok (.iconst 0, 1) := by decide +kernel
theorem dX4_tasteOf_3 : decode cX4_tasteOf 3 = .ok (.istore_n 3, 1) := by decide +kernel
theorem dX4_tasteOf_4 : decode cX4_tasteOf 4 = .ok (.iload_n 3, 1) := by decide +kernel
theorem dX4_tasteOf_5 : decode cX4_tasteOf 5 = .ok (.aload_n 0, 1) := by decide +kernel
theorem dX4_tasteOf_6 : decode cX4_tasteOf 6 = .ok (.getfield 15, 3) := by decide +kernel
theorem dX4_tasteOf_9 : decode cX4_tasteOf 9 = .ok (.getfield 26, 3) := by decide +kernel
theorem dX4_tasteOf_12 : decode cX4_tasteOf 12 = .ok (.if_icmp .ge 28, 3) := by decide +kernel
theorem dX4_tasteOf_15 : decode cX4_tasteOf 15 = .ok (.iload_n 2, 1) := by decide +kernel
theorem dX4_tasteOf_16 : decode cX4_tasteOf 16 = .ok (.aload_n 0, 1) := by decide +kernel
theorem dX4_tasteOf_17 : decode cX4_tasteOf 17 = .ok (.iload_n 1, 1) := by decide +kernel
theorem dX4_tasteOf_18 : decode cX4_tasteOf 18 = .ok (.iload_n 3, 1) := by decide +kernel
theorem dX4_tasteOf_19 : decode cX4_tasteOf 19 = .ok (.invokevirtual 36, 3) := by decide +kernel
theorem dX4_tasteOf_22 : decode cX4_tasteOf 22 = .ok (.aload_n 0, 1) := by decide +kernel
theorem dX4_tasteOf_23 : decode cX4_tasteOf 23 = .ok (.getfield 15, 3) := by decide +kernel
theorem dX4_tasteOf_26 : decode cX4_tasteOf 26 = .ok (.getfield 43, 3) := by decide +kernel
theorem dX4_tasteOf_29 : decode cX4_tasteOf 29 = .ok (.iload_n 3, 1) := by decide +kernel
theorem dX4_tasteOf_30 : decode cX4_tasteOf 30 = .ok (.iaload, 1) := by decide +kernel
theorem dX4_tasteOf_31 : decode cX4_tasteOf 31 = .ok (.imul, 1) := by decide +kernel
theorem dX4_tasteOf_32 : decode cX4_tasteOf 32 = .ok (.iadd, 1) := by decide +kernel
theorem dX4_tasteOf_33 : decode cX4_tasteOf 33 = .ok (.istore_n 2, 1) := by decide +kernel
theorem dX4_tasteOf_34 : decode cX4_tasteOf 34 = .ok (.iinc 3 1, 3) := by decide +kernel
theorem dX4_tasteOf_37 : decode cX4_tasteOf 37 = .ok (.goto (-33), 3) := by decide +kernel
theorem dX4_tasteOf_40 : decode cX4_tasteOf 40 = .ok (.iload_n 2, 1) := by decide +kernel
theorem dX4_tasteOf_41 : decode cX4_tasteOf 41 = .ok (.ireturn, 1) := by decide +kernel
theorem dX4_whereIs_0 : decode cX4_whereIs 0 = .ok (.iconst 0, 1) := by decide +kernel
theorem dX4_whereIs_1 : decode cX4_whereIs 1 = .ok (.istore_n 2, 1) := by decide +kernel
theorem dX4_whereIs_2 : decode cX4_whereIs 2 = .ok (.iconst 0, 1) := by decide +kernel
theorem dX4_whereIs_3 : decode cX4_whereIs 3 = .ok (.istore_n 3, 1) := by decide +kernel
theorem dX4_whereIs_4 : decode cX4_whereIs 4 = .ok (.iload_n 3, 1) := by decide +kernel
theorem dX4_whereIs_5 : decode cX4_whereIs 5 = .ok (.aload_n 0, 1) := by decide +kernel
theorem dX4_whereIs_6 : decode cX4_whereIs 6 = .ok (.getfield 15, 3) := by decide +kernel
theorem dX4_whereIs_9 : decode cX4_whereIs 9 = .ok (.getfield 26, 3) := by decide +kernel
theorem dX4_whereIs_12 : decode cX4_whereIs 12 = .ok (.if_icmp .ge 24, 3) := by decide +kernel
theorem dX4_whereIs_15 : decode cX4_whereIs 15 = .ok (.aload_n 0, 1) := by decide +kernel
theorem dX4_whereIs_16 : decode cX4_whereIs 16 = .ok (.iload_n 3, 1) := by decide +kernel
theorem dX4_whereIs_17 : decode cX4_whereIs 17 = .ok (.iload_n 1, 1) := by decide +kernel
theorem dX4_whereIs_18 : decode cX4_whereIs 18 = .ok (.invokevirtual 36, 3) := by decide +kernel
theorem dX4_whereIs_21 : decode cX4_whereIs 21 = .ok (.ifCond .le 9, 3) := by decide +kernel
theorem dX4_whereIs_24 : decode cX4_whereIs 24 = .ok (.iload_n 2, 1) := by decide +kernel
theorem dX4_whereIs_25 : decode cX4_whereIs 25 = .ok (.iconst 1, 1) := by decide +kernel
theorem dX4_whereIs_26 : decode cX4_whereIs 26 = .ok (.iload_n 3, 1) := by decide +kernel
theorem dX4_whereIs_27 : decode cX4_whereIs 27 = .ok (.ishl, 1) := by decide +kernel
theorem dX4_whereIs_28 : decode cX4_whereIs 28 = .ok (.ior, 1) := by decide +kernel
theorem dX4_whereIs_29 : decode cX4_whereIs 29 = .ok (.istore_n 2, 1) := by decide +kernel
theorem dX4_whereIs_30 : decode cX4_whereIs 30 = .ok (.iinc 3 1, 3) := by decide +kernel
theorem dX4_whereIs_33 : decode cX4_whereIs 33 = .ok (.goto (-29), 3) := by decide +kernel
theorem dX4_whereIs_36 : decode cX4_whereIs 36 = .ok (.iload_n 2, 1) := by decide +kernel
theorem dX4_whereIs_37 : decode cX4_whereIs 37 = .ok (.ireturn, 1) := by decide +kernel
theorem dX4_wettest_0 : decode cX4_wettest 0 = .ok (.bipush (-9), 2) := by decide +kernel
theorem dX4_wettest_2 : decode cX4_wettest 2 = .ok (.istore_n 1, 1) := by decide +kernel
theorem dX4_wettest_3 : decode cX4_wettest 3 = .ok (.iconst 0, 1) := by decide +kernel
theorem dX4_wettest_4 : decode cX4_wettest 4 = .ok (.istore_n 2, 1) := by decide +kernel
theorem dX4_wettest_5 : decode cX4_wettest 5 = .ok (.iconst 0, 1) := by decide +kernel
theorem dX4_wettest_6 : decode cX4_wettest 6 = .ok (.istore_n 3, 1) := by decide +kernel
theorem dX4_wettest_7 : decode cX4_wettest 7 = .ok (.iload_n 3, 1) := by decide +kernel
theorem dX4_wettest_8 : decode cX4_wettest 8 = .ok (.aload_n 0, 1) := by decide +kernel
theorem dX4_wettest_9 : decode cX4_wettest 9 = .ok (.getfield 15, 3) := by decide +kernel
theorem dX4_wettest_12 : decode cX4_wettest 12 = .ok (.getfield 26, 3) := by decide +kernel
theorem dX4_wettest_15 : decode cX4_wettest 15 = .ok (.if_icmp .ge 48, 3) := by decide +kernel
theorem dX4_wettest_18 : decode cX4_wettest 18 = .ok (.aload_n 0, 1) := by decide +kernel
theorem dX4_wettest_19 : decode cX4_wettest 19 = .ok (.getfield 15, 3) := by decide +kernel
theorem dX4_wettest_22 : decode cX4_wettest 22 = .ok (.getfield 43, 3) := by decide +kernel
theorem dX4_wettest_25 : decode cX4_wettest 25 = .ok (.aload_n 0, 1) := by decide +kernel
theorem dX4_wettest_26 : decode cX4_wettest 26 = .ok (.getfield 15, 3) := by decide +kernel
theorem dX4_wettest_29 : decode cX4_wettest 29 = .ok (.getfield 46, 3) := by decide +kernel
theorem dX4_wettest_32 : decode cX4_wettest 32 = .ok (.iload_n 3, 1) := by decide +kernel
theorem dX4_wettest_33 : decode cX4_wettest 33 = .ok (.iaload, 1) := by decide +kernel
theorem dX4_wettest_34 : decode cX4_wettest 34 = .ok (.iaload, 1) := by decide +kernel
theorem dX4_wettest_35 : decode cX4_wettest 35 = .ok (.istore 4, 2) := by decide +kernel
theorem dX4_wettest_37 : decode cX4_wettest 37 = .ok (.aload_n 0, 1) := by decide +kernel
theorem dX4_wettest_38 : decode cX4_wettest 38 = .ok (.iload 4, 2) := by decide +kernel
theorem dX4_wettest_40 : decode cX4_wettest 40 = .ok (.invokevirtual 49, 3) := by decide +kernel
theorem dX4_wettest_43 : decode cX4_wettest 43 = .ok (.istore 5, 2) := by decide +kernel
theorem dX4_wettest_45 : decode cX4_wettest 45 = .ok (.iload 5, 2) := by decide +kernel
theorem dX4_wettest_47 : decode cX4_wettest 47 = .ok (.iload_n 2, 1) := by decide +kernel
theorem dX4_wettest_48 : decode cX4_wettest 48 = .ok (.if_icmp .le 9, 3) := by decide +kernel
theorem dX4_wettest_51 : decode cX4_wettest 51 = .ok (.iload 5, 2) := by decide +kernel
theorem dX4_wettest_53 : decode cX4_wettest 53 = .ok (.istore_n 2, 1) := by decide +kernel
theorem dX4_wettest_54 : decode cX4_wettest 54 = .ok (.iload 4, 2) := by decide +kernel
theorem dX4_wettest_56 : decode cX4_wettest 56 = .ok (.istore_n 1, 1) := by decide +kernel
theorem dX4_wettest_57 : decode cX4_wettest 57 = .ok (.iinc 3 1, 3) := by decide +kernel
theorem dX4_wettest_60 : decode cX4_wettest 60 = .ok (.goto (-53), 3) := by decide +kernel
theorem dX4_wettest_63 : decode cX4_wettest 63 = .ok (.iload_n 1, 1) := by decide +kernel
theorem dX4_wettest_64 : decode cX4_wettest 64 = .ok (.ireturn, 1) := by decide +kernel
theorem dX4_ofYear_0 : decode cX4_ofYear 0 = .ok (.iconst 0, 1) := by decide +kernel
theorem dX4_ofYear_1 : decode cX4_ofYear 1 = .ok (.istore_n 2, 1) := by decide +kernel
theorem dX4_ofYear_2 : decode cX4_ofYear 2 = .ok (.iconst 0, 1) := by decide +kernel
theorem dX4_ofYear_3 : decode cX4_ofYear 3 = .ok (.istore_n 3, 1) := by decide +kernel
theorem dX4_ofYear_4 : decode cX4_ofYear 4 = .ok (.iload_n 3, 1) := by decide +kernel
theorem dX4_ofYear_5 : decode cX4_ofYear 5 = .ok (.aload_n 0, 1) := by decide +kernel
theorem dX4_ofYear_6 : decode cX4_ofYear 6 = .ok (.getfield 15, 3) := by decide +kernel
theorem dX4_ofYear_9 : decode cX4_ofYear 9 = .ok (.getfield 26, 3) := by decide +kernel
theorem dX4_ofYear_12 : decode cX4_ofYear 12 = .ok (.if_icmp .ge 53, 3) := by decide +kernel
theorem dX4_ofYear_15 : decode cX4_ofYear 15 = .ok (.iconst 0, 1) := by decide +kernel
theorem dX4_ofYear_16 : decode cX4_ofYear 16 = .ok (.istore 4, 2) := by decide +kernel
theorem dX4_ofYear_18 : decode cX4_ofYear 18 = .ok (.aload_n 0, 1) := by decide +kernel
theorem dX4_ofYear_19 : decode cX4_ofYear 19 = .ok (.getfield 15, 3) := by decide +kernel
theorem dX4_ofYear_22 : decode cX4_ofYear 22 = .ok (.getfield 43, 3) := by decide +kernel
theorem dX4_ofYear_25 : decode cX4_ofYear 25 = .ok (.iload_n 3, 1) := by decide +kernel
theorem dX4_ofYear_26 : decode cX4_ofYear 26 = .ok (.iaload, 1) := by decide +kernel
theorem dX4_ofYear_27 : decode cX4_ofYear 27 = .ok (.iload_n 1, 1) := by decide +kernel
theorem dX4_ofYear_28 : decode cX4_ofYear 28 = .ok (.if_icmp .ne 31, 3) := by decide +kernel
theorem dX4_ofYear_31 : decode cX4_ofYear 31 = .ok (.iload 4, 2) := by decide +kernel
theorem dX4_ofYear_33 : decode cX4_ofYear 33 = .ok (.aload_n 0, 1) := by decide +kernel
theorem dX4_ofYear_34 : decode cX4_ofYear 34 = .ok (.getfield 15, 3) := by decide +kernel
theorem dX4_ofYear_37 : decode cX4_ofYear 37 = .ok (.getfield 26, 3) := by decide +kernel
theorem dX4_ofYear_40 : decode cX4_ofYear 40 = .ok (.if_icmp .ge 19, 3) := by decide +kernel
theorem dX4_ofYear_43 : decode cX4_ofYear 43 = .ok (.iload_n 2, 1) := by decide +kernel
theorem dX4_ofYear_44 : decode cX4_ofYear 44 = .ok (.aload_n 0, 1) := by decide +kernel
theorem dX4_ofYear_45 : decode cX4_ofYear 45 = .ok (.iload 4, 2) := by decide +kernel
theorem dX4_ofYear_47 : decode cX4_ofYear 47 = .ok (.iload_n 3, 1) := by decide +kernel
theorem dX4_ofYear_48 : decode cX4_ofYear 48 = .ok (.invokevirtual 36, 3) := by decide +kernel
theorem dX4_ofYear_51 : decode cX4_ofYear 51 = .ok (.iadd, 1) := by decide +kernel
theorem dX4_ofYear_52 : decode cX4_ofYear 52 = .ok (.istore_n 2, 1) := by decide +kernel
theorem dX4_ofYear_53 : decode cX4_ofYear 53 = .ok (.iinc 4 1, 3) := by decide +kernel
theorem dX4_ofYear_56 : decode cX4_ofYear 56 = .ok (.goto (-38), 3) := by decide +kernel
theorem dX4_ofYear_59 : decode cX4_ofYear 59 = .ok (.iinc 3 1, 3) := by decide +kernel
theorem dX4_ofYear_62 : decode cX4_ofYear 62 = .ok (.goto (-58), 3) := by decide +kernel
theorem dX4_ofYear_65 : decode cX4_ofYear 65 = .ok (.iload_n 2, 1) := by decide +kernel
theorem dX4_ofYear_66 : decode cX4_ofYear 66 = .ok (.ireturn, 1) := by decide +kernel
theorem dX4_take_0 : decode cX4_take 0 = .ok (.iload_n 2, 1) := by decide +kernel
theorem dX4_take_1 : decode cX4_take 1 = .ok (.istore 4, 2) := by decide +kernel
theorem dX4_take_3 : decode cX4_take 3 = .ok (.iconst 0, 1) := by decide +kernel
theorem dX4_take_4 : decode cX4_take 4 = .ok (.istore 5, 2) := by decide +kernel
theorem dX4_take_6 : decode cX4_take 6 = .ok (.iload 5, 2) := by decide +kernel
theorem dX4_take_8 : decode cX4_take 8 = .ok (.aload_n 0, 1) := by decide +kernel
theorem dX4_take_9 : decode cX4_take 9 = .ok (.getfield 15, 3) := by decide +kernel
theorem dX4_take_12 : decode cX4_take 12 = .ok (.getfield 26, 3) := by decide +kernel
theorem dX4_take_15 : decode cX4_take 15 = .ok (.if_icmp .ge 93, 3) := by decide +kernel
theorem dX4_take_18 : decode cX4_take 18 = .ok (.aload_n 0, 1) := by decide +kernel
theorem dX4_take_19 : decode cX4_take 19 = .ok (.getfield 15, 3) := by decide +kernel
theorem dX4_take_22 : decode cX4_take 22 = .ok (.getfield 46, 3) := by decide +kernel
theorem dX4_take_25 : decode cX4_take 25 = .ok (.iload 5, 2) := by decide +kernel
theorem dX4_take_27 : decode cX4_take 27 = .ok (.iaload, 1) := by decide +kernel
theorem dX4_take_28 : decode cX4_take 28 = .ok (.istore 6, 2) := by decide +kernel
theorem dX4_take_30 : decode cX4_take 30 = .ok (.iload 4, 2) := by decide +kernel
theorem dX4_take_32 : decode cX4_take 32 = .ok (.aload_n 0, 1) := by decide +kernel
theorem dX4_take_33 : decode cX4_take 33 = .ok (.iload_n 1, 1) := by decide +kernel
theorem dX4_take_34 : decode cX4_take 34 = .ok (.iload 6, 2) := by decide +kernel
theorem dX4_take_36 : decode cX4_take 36 = .ok (.invokevirtual 36, 3) := by decide +kernel
theorem dX4_take_39 : decode cX4_take 39 = .ok (.invokestatic 52, 3) := by decide +kernel
theorem dX4_take_42 : decode cX4_take 42 = .ok (.istore 7, 2) := by decide +kernel
theorem dX4_take_44 : decode cX4_take 44 = .ok (.aload_n 0, 1) := by decide +kernel
theorem dX4_take_45 : decode cX4_take 45 = .ok (.getfield 9, 3) := by decide +kernel
theorem dX4_take_48 : decode cX4_take 48 = .ok (.iload_n 1, 1) := by decide +kernel
theorem dX4_take_49 : decode cX4_take 49 = .ok (.iload 6, 2) := by decide +kernel
theorem dX4_take_51 : decode cX4_take 51 = .ok (.invokestatic 31, 3) := by decide +kernel
theorem dX4_take_54 : decode cX4_take 54 = .ok (.dup2, 1) := by decide +kernel
theorem dX4_take_55 : decode cX4_take 55 = .ok (.iaload, 1) := by decide +kernel
theorem dX4_take_56 : decode cX4_take 56 = .ok (.iload 7, 2) := by decide +kernel
theorem dX4_take_58 : decode cX4_take 58 = .ok (.isub, 1) := by decide +kernel
theorem dX4_take_59 : decode cX4_take 59 = .ok (.iastore, 1) := by decide +kernel
theorem dX4_take_60 : decode cX4_take 60 = .ok (.iload_n 3, 1) := by decide +kernel
theorem dX4_take_61 : decode cX4_take 61 = .ok (.iconst (-1), 1) := by decide +kernel
theorem dX4_take_62 : decode cX4_take 62 = .ok (.if_icmp .ne 17, 3) := by decide +kernel
theorem dX4_take_65 : decode cX4_take 65 = .ok (.aload_n 0, 1) := by decide +kernel
theorem dX4_take_66 : decode cX4_take 66 = .ok (.dup, 1) := by decide +kernel
theorem dX4_take_67 : decode cX4_take 67 = .ok (.getfield 23, 3) := by decide +kernel
theorem dX4_take_70 : decode cX4_take 70 = .ok (.iload 7, 2) := by decide +kernel
theorem dX4_take_72 : decode cX4_take 72 = .ok (.iadd, 1) := by decide +kernel
theorem dX4_take_73 : decode cX4_take 73 = .ok (.putfield 23, 3) := by decide +kernel
theorem dX4_take_76 : decode cX4_take 76 = .ok (.goto 19, 3) := by decide +kernel
theorem dX4_take_79 : decode cX4_take 79 = .ok (.aload_n 0, 1) := by decide +kernel
theorem dX4_take_80 : decode cX4_take 80 = .ok (.getfield 9, 3) := by decide +kernel
theorem dX4_take_83 : decode cX4_take 83 = .ok (.iload_n 3, 1) := by decide +kernel
theorem dX4_take_84 : decode cX4_take 84 = .ok (.iload 6, 2) := by decide +kernel
theorem dX4_take_86 : decode cX4_take 86 = .ok (.invokestatic 31, 3) := by decide +kernel
theorem dX4_take_89 : decode cX4_take 89 = .ok (.dup2, 1) := by decide +kernel
theorem dX4_take_90 : decode cX4_take 90 = .ok (.iaload, 1) := by decide +kernel
theorem dX4_take_91 : decode cX4_take 91 = .ok (.iload 7, 2) := by decide +kernel
theorem dX4_take_93 : decode cX4_take 93 = .ok (.iadd, 1) := by decide +kernel
theorem dX4_take_94 : decode cX4_take 94 = .ok (.iastore, 1) := by decide +kernel
theorem dX4_take_95 : decode cX4_take 95 = .ok (.iload 4, 2) := by decide +kernel
theorem dX4_take_97 : decode cX4_take 97 = .ok (.iload 7, 2) := by decide +kernel
theorem dX4_take_99 : decode cX4_take 99 = .ok (.isub, 1) := by decide +kernel
theorem dX4_take_100 : decode cX4_take 100 = .ok (.istore 4, 2) := by decide +kernel
theorem dX4_take_102 : decode cX4_take 102 = .ok (.iinc 5 1, 3) := by decide +kernel
theorem dX4_take_105 : decode cX4_take 105 = .ok (.goto (-99), 3) := by decide +kernel
theorem dX4_take_108 : decode cX4_take 108 = .ok (.iload_n 2, 1) := by decide +kernel
theorem dX4_take_109 : decode cX4_take 109 = .ok (.iload 4, 2) := by decide +kernel
theorem dX4_take_111 : decode cX4_take 111 = .ok (.isub, 1) := by decide +kernel
theorem dX4_take_112 : decode cX4_take 112 = .ok (.ireturn, 1) := by decide +kernel
theorem dX4_passSpring_0 : decode cX4_passSpring 0 = .ok (.iconst 0, 1) := by decide +kernel
theorem dX4_passSpring_1 : decode cX4_passSpring 1 = .ok (.istore_n 1, 1) := by decide +kernel
theorem dX4_passSpring_2 : decode cX4_passSpring 2 = .ok (.iconst 0, 1) := by decide +kernel
theorem dX4_passSpring_3 : decode cX4_passSpring 3 = .ok (.istore_n 2, 1) := by decide +kernel
theorem dX4_passSpring_4 : decode cX4_passSpring 4 = .ok (.iload_n 2, 1) := by decide +kernel
theorem dX4_passSpring_5 : decode cX4_passSpring 5 = .ok (.aload_n 0, 1) := by decide +kernel
theorem dX4_passSpring_6 : decode cX4_passSpring 6 = .ok (.getfield 15, 3) := by decide +kernel
theorem dX4_passSpring_9 : decode cX4_passSpring 9 = .ok (.getfield 26, 3) := by decide +kernel
theorem dX4_passSpring_12 : decode cX4_passSpring 12 = .ok (.if_icmp .ge 27, 3) := by decide +kernel
theorem dX4_passSpring_15 : decode cX4_passSpring 15 = .ok (.iload_n 1, 1) := by decide +kernel
theorem dX4_passSpring_16 : decode cX4_passSpring 16 = .ok (.aload_n 0, 1) := by decide +kernel
theorem dX4_passSpring_17 : decode cX4_passSpring 17 = .ok (.iload_n 2, 1) := by decide +kernel
theorem dX4_passSpring_18 : decode cX4_passSpring 18 = .ok (.aload_n 0, 1) := by decide +kernel
theorem dX4_passSpring_19 : decode cX4_passSpring 19 = .ok (.getfield 15, 3) := by decide +kernel
theorem dX4_passSpring_22 : decode cX4_passSpring 22 = .ok (.getfield 57, 3) := by decide +kernel
theorem dX4_passSpring_25 : decode cX4_passSpring 25 = .ok (.iload_n 2, 1) := by decide +kernel
theorem dX4_passSpring_26 : decode cX4_passSpring 26 = .ok (.iaload, 1) := by decide +kernel
theorem dX4_passSpring_27 : decode cX4_passSpring 27 = .ok (.iconst (-1), 1) := by decide +kernel
theorem dX4_passSpring_28 : decode cX4_passSpring 28 = .ok (.invokevirtual 60, 3) := by decide +kernel
theorem dX4_passSpring_31 : decode cX4_passSpring 31 = .ok (.iadd, 1) := by decide +kernel
theorem dX4_passSpring_32 : decode cX4_passSpring 32 = .ok (.istore_n 1, 1) := by decide +kernel
theorem dX4_passSpring_33 : decode cX4_passSpring 33 = .ok (.iinc 2 1, 3) := by decide +kernel
theorem dX4_passSpring_36 : decode cX4_passSpring 36 = .ok (.goto (-32), 3) := by decide +kernel
theorem dX4_passSpring_39 : decode cX4_passSpring 39 = .ok (.aload_n 0, 1) := by decide +kernel
theorem dX4_passSpring_40 : decode cX4_passSpring 40 = .ok (.dup, 1) := by decide +kernel
theorem dX4_passSpring_41 : decode cX4_passSpring 41 = .ok (.getfield 19, 3) := by decide +kernel
theorem dX4_passSpring_44 : decode cX4_passSpring 44 = .ok (.iconst 1, 1) := by decide +kernel
theorem dX4_passSpring_45 : decode cX4_passSpring 45 = .ok (.iadd, 1) := by decide +kernel
theorem dX4_passSpring_46 : decode cX4_passSpring 46 = .ok (.putfield 19, 3) := by decide +kernel
theorem dX4_passSpring_49 : decode cX4_passSpring 49 = .ok (.iload_n 1, 1) := by decide +kernel
theorem dX4_passSpring_50 : decode cX4_passSpring 50 = .ok (.ireturn, 1) := by decide +kernel
theorem dX4_canBeRead_0 : decode cX4_canBeRead 0 = .ok (.aload_n 0, 1) := by decide +kernel
theorem dX4_canBeRead_1 : decode cX4_canBeRead 1 = .ok (.iconst 0, 1) := by decide +kernel
theorem dX4_canBeRead_2 : decode cX4_canBeRead 2 = .ok (.iload_n 1, 1) := by decide +kernel
theorem dX4_canBeRead_3 : decode cX4_canBeRead 3 = .ok (.invokevirtual 64, 3) := by decide +kernel
theorem dX4_canBeRead_6 : decode cX4_canBeRead 6 = .ok (.ireturn, 1) := by decide +kernel
theorem dX4_canBeReadIn_0 : decode cX4_canBeReadIn 0 = .ok (.iload_n 1, 1) := by decide +kernel
theorem dX4_canBeReadIn_1 : decode cX4_canBeReadIn 1 = .ok (.aload_n 0, 1) := by decide +kernel
theorem dX4_canBeReadIn_2 : decode cX4_canBeReadIn 2 = .ok (.getfield 15, 3) := by decide +kernel
theorem dX4_canBeReadIn_5 : decode cX4_canBeReadIn 5 = .ok (.getfield 57, 3) := by decide +kernel
theorem dX4_canBeReadIn_8 : decode cX4_canBeReadIn 8 = .ok (.iload_n 2, 1) := by decide +kernel
theorem dX4_canBeReadIn_9 : decode cX4_canBeReadIn 9 = .ok (.iaload, 1) := by decide +kernel
theorem dX4_canBeReadIn_10 : decode cX4_canBeReadIn 10 = .ok (.imul, 1) := by decide +kernel
theorem dX4_canBeReadIn_11 : decode cX4_canBeReadIn 11 = .ok (.istore_n 3, 1) := by decide +kernel
theorem dX4_canBeReadIn_12 : decode cX4_canBeReadIn 12 = .ok (.iconst 0, 1) := by decide +kernel
theorem dX4_canBeReadIn_13 : decode cX4_canBeReadIn 13 = .ok (.istore 4, 2) := by decide +kernel
theorem dX4_canBeReadIn_15 : decode cX4_canBeReadIn 15 = .ok (.iconst 0, 1) := by decide +kernel
theorem dX4_canBeReadIn_16 : decode cX4_canBeReadIn 16 = .ok (.istore 5, 2) := by decide +kernel
theorem dX4_canBeReadIn_18 : decode cX4_canBeReadIn 18 = .ok (.iconst 0, 1) := by decide +kernel
theorem dX4_canBeReadIn_19 : decode cX4_canBeReadIn 19 = .ok (.istore 6, 2) := by decide +kernel
theorem dX4_canBeReadIn_21 : decode cX4_canBeReadIn 21 = .ok (.iload 6, 2) := by decide +kernel
theorem dX4_canBeReadIn_23 : decode cX4_canBeReadIn 23 = .ok (.aload_n 0, 1) := by decide +kernel
theorem dX4_canBeReadIn_24 : decode cX4_canBeReadIn 24 = .ok (.getfield 15, 3) := by decide +kernel
theorem dX4_canBeReadIn_27 : decode cX4_canBeReadIn 27 = .ok (.getfield 26, 3) := by decide +kernel
theorem dX4_canBeReadIn_30 : decode cX4_canBeReadIn 30 = .ok (.if_icmp .ge 71, 3) := by decide +kernel
theorem dX4_canBeReadIn_33 : decode cX4_canBeReadIn 33 = .ok (.aload_n 0, 1) := by decide +kernel
theorem dX4_canBeReadIn_34 : decode cX4_canBeReadIn 34 = .ok (.getfield 15, 3) := by decide +kernel
theorem dX4_canBeReadIn_37 : decode cX4_canBeReadIn 37 = .ok (.getfield 46, 3) := by decide +kernel
theorem dX4_canBeReadIn_40 : decode cX4_canBeReadIn 40 = .ok (.iload 6, 2) := by decide +kernel
theorem dX4_canBeReadIn_42 : decode cX4_canBeReadIn 42 = .ok (.iaload, 1) := by decide +kernel
theorem dX4_canBeReadIn_43 : decode cX4_canBeReadIn 43 = .ok (.istore 7, 2) := by decide +kernel
theorem dX4_canBeReadIn_45 : decode cX4_canBeReadIn 45 = .ok (.iload_n 3, 1) := by decide +kernel
theorem dX4_canBeReadIn_46 : decode cX4_canBeReadIn 46 = .ok (.aload_n 0, 1) := by decide +kernel
theorem dX4_canBeReadIn_47 : decode cX4_canBeReadIn 47 = .ok (.iload_n 2, 1) := by decide +kernel
theorem dX4_canBeReadIn_48 : decode cX4_canBeReadIn 48 = .ok (.iload 7, 2) := by decide +kernel
theorem dX4_canBeReadIn_50 : decode cX4_canBeReadIn 50 = .ok (.invokevirtual 36, 3) := by decide +kernel
theorem dX4_canBeReadIn_53 : decode cX4_canBeReadIn 53 = .ok (.invokestatic 52, 3) := by decide +kernel
theorem dX4_canBeReadIn_56 : decode cX4_canBeReadIn 56 = .ok (.istore 8, 2) := by decide +kernel
theorem dX4_canBeReadIn_58 : decode cX4_canBeReadIn 58 = .ok (.iload_n 3, 1) := by decide +kernel
theorem dX4_canBeReadIn_59 : decode cX4_canBeReadIn 59 = .ok (.iload 8, 2) := by decide +kernel
theorem dX4_canBeReadIn_61 : decode cX4_canBeReadIn 61 = .ok (.isub, 1) := by decide +kernel
theorem dX4_canBeReadIn_62 : decode cX4_canBeReadIn 62 = .ok (.istore_n 3, 1) := by decide +kernel
theorem dX4_canBeReadIn_63 : decode cX4_canBeReadIn 63 = .ok (.aload_n 0, 1) := by decide +kernel
theorem dX4_canBeReadIn_64 : decode cX4_canBeReadIn 64 = .ok (.iload_n 2, 1) := by decide +kernel
theorem dX4_canBeReadIn_65 : decode cX4_canBeReadIn 65 = .ok (.iload 7, 2) := by decide +kernel
theorem dX4_canBeReadIn_67 : decode cX4_canBeReadIn 67 = .ok (.invokevirtual 36, 3) := by decide +kernel
theorem dX4_canBeReadIn_70 : decode cX4_canBeReadIn 70 = .ok (.iload 8, 2) := by decide +kernel
theorem dX4_canBeReadIn_72 : decode cX4_canBeReadIn 72 = .ok (.isub, 1) := by decide +kernel
theorem dX4_canBeReadIn_73 : decode cX4_canBeReadIn 73 = .ok (.istore 9, 2) := by decide +kernel
theorem dX4_canBeReadIn_75 : decode cX4_canBeReadIn 75 = .ok (.iload 7, 2) := by decide +kernel
theorem dX4_canBeReadIn_77 : decode cX4_canBeReadIn 77 = .ok (.iload_n 2, 1) := by decide +kernel
theorem dX4_canBeReadIn_78 : decode cX4_canBeReadIn 78 = .ok (.if_icmp .ne 10, 3) := by decide +kernel
theorem dX4_canBeReadIn_81 : decode cX4_canBeReadIn 81 = .ok (.iload 9, 2) := by decide +kernel
theorem dX4_canBeReadIn_83 : decode cX4_canBeReadIn 83 = .ok (.istore 4, 2) := by decide +kernel
theorem dX4_canBeReadIn_85 : decode cX4_canBeReadIn 85 = .ok (.goto 10, 3) := by decide +kernel
theorem dX4_canBeReadIn_88 : decode cX4_canBeReadIn 88 = .ok (.iload 5, 2) := by decide +kernel
theorem dX4_canBeReadIn_90 : decode cX4_canBeReadIn 90 = .ok (.iload 9, 2) := by decide +kernel
theorem dX4_canBeReadIn_92 : decode cX4_canBeReadIn 92 = .ok (.iadd, 1) := by decide +kernel
theorem dX4_canBeReadIn_93 : decode cX4_canBeReadIn 93 = .ok (.istore 5, 2) := by decide +kernel
theorem dX4_canBeReadIn_95 : decode cX4_canBeReadIn 95 = .ok (.iinc 6 1, 3) := by decide +kernel
theorem dX4_canBeReadIn_98 : decode cX4_canBeReadIn 98 = .ok (.goto (-77), 3) := by decide +kernel
theorem dX4_canBeReadIn_101 : decode cX4_canBeReadIn 101 = .ok (.iload 4, 2) := by decide +kernel
theorem dX4_canBeReadIn_103 : decode cX4_canBeReadIn 103 = .ok (.aload_n 0, 1) := by decide +kernel
theorem dX4_canBeReadIn_104 : decode cX4_canBeReadIn 104 = .ok (.getfield 15, 3) := by decide +kernel
theorem dX4_canBeReadIn_107 : decode cX4_canBeReadIn 107 = .ok (.getfield 68, 3) := by decide +kernel
theorem dX4_canBeReadIn_110 : decode cX4_canBeReadIn 110 = .ok (.if_icmp .lt 12, 3) := by decide +kernel
theorem dX4_canBeReadIn_113 : decode cX4_canBeReadIn 113 = .ok (.iload 5, 2) := by decide +kernel
theorem dX4_canBeReadIn_115 : decode cX4_canBeReadIn 115 = .ok (.ifCond .ne 7, 3) := by decide +kernel
theorem dX4_canBeReadIn_118 : decode cX4_canBeReadIn 118 = .ok (.iconst 1, 1) := by decide +kernel
theorem dX4_canBeReadIn_119 : decode cX4_canBeReadIn 119 = .ok (.goto 4, 3) := by decide +kernel
theorem dX4_canBeReadIn_122 : decode cX4_canBeReadIn 122 = .ok (.iconst 0, 1) := by decide +kernel
theorem dX4_canBeReadIn_123 : decode cX4_canBeReadIn 123 = .ok (.ireturn, 1) := by decide +kernel
theorem dX4_readable_0 : decode cX4_readable 0 = .ok (.iconst 0, 1) := by decide +kernel
theorem dX4_readable_1 : decode cX4_readable 1 = .ok (.istore_n 1, 1) := by decide +kernel
theorem dX4_readable_2 : decode cX4_readable 2 = .ok (.iconst 0, 1) := by decide +kernel
theorem dX4_readable_3 : decode cX4_readable 3 = .ok (.istore_n 2, 1) := by decide +kernel
theorem dX4_readable_4 : decode cX4_readable 4 = .ok (.iload_n 2, 1) := by decide +kernel
theorem dX4_readable_5 : decode cX4_readable 5 = .ok (.aload_n 0, 1) := by decide +kernel
theorem dX4_readable_6 : decode cX4_readable 6 = .ok (.getfield 15, 3) := by decide +kernel
theorem dX4_readable_9 : decode cX4_readable 9 = .ok (.getfield 26, 3) := by decide +kernel
theorem dX4_readable_12 : decode cX4_readable 12 = .ok (.if_icmp .ge 23, 3) := by decide +kernel
theorem dX4_readable_15 : decode cX4_readable 15 = .ok (.aload_n 0, 1) := by decide +kernel
theorem dX4_readable_16 : decode cX4_readable 16 = .ok (.iload_n 2, 1) := by decide +kernel
theorem dX4_readable_17 : decode cX4_readable 17 = .ok (.invokevirtual 71, 3) := by decide +kernel
theorem dX4_readable_20 : decode cX4_readable 20 = .ok (.ifCond .eq 9, 3) := by decide +kernel
theorem dX4_readable_23 : decode cX4_readable 23 = .ok (.iload_n 1, 1) := by decide +kernel
theorem dX4_readable_24 : decode cX4_readable 24 = .ok (.iconst 1, 1) := by decide +kernel
theorem dX4_readable_25 : decode cX4_readable 25 = .ok (.iload_n 2, 1) := by decide +kernel
theorem dX4_readable_26 : decode cX4_readable 26 = .ok (.ishl, 1) := by decide +kernel
theorem dX4_readable_27 : decode cX4_readable 27 = .ok (.ior, 1) := by decide +kernel
theorem dX4_readable_28 : decode cX4_readable 28 = .ok (.istore_n 1, 1) := by decide +kernel
theorem dX4_readable_29 : decode cX4_readable 29 = .ok (.iinc 2 1, 3) := by decide +kernel
theorem dX4_readable_32 : decode cX4_readable 32 = .ok (.goto (-28), 3) := by decide +kernel
theorem dX4_readable_35 : decode cX4_readable 35 = .ok (.iload_n 1, 1) := by decide +kernel
theorem dX4_readable_36 : decode cX4_readable 36 = .ok (.ireturn, 1) := by decide +kernel
theorem dX5_init_0 : decode cX5_init 0 = .ok (.aload_n 0, 1) := by decide +kernel
theorem dX5_init_1 : decode cX5_init 1 = .ok (.invokespecial 3, 3) := by decide +kernel
theorem dX5_init_4 : decode cX5_init 4 = .ok (.aload_n 0, 1) := by decide +kernel
theorem dX5_init_5 : decode cX5_init 5 = .ok (.sipush 128, 3) := by decide +kernel
theorem dX5_init_8 : decode cX5_init 8 = .ok (.newarray .int, 2) := by decide +kernel
theorem dX5_init_10 : decode cX5_init 10 = .ok (.putfield 9, 3) := by decide +kernel
theorem dX5_init_13 : decode cX5_init 13 = .ok (.aload_n 0, 1) := by decide +kernel
theorem dX5_init_14 : decode cX5_init 14 = .ok (.sipush 128, 3) := by decide +kernel
theorem dX5_init_17 : decode cX5_init 17 = .ok (.newarray .int, 2) := by decide +kernel
theorem dX5_init_19 : decode cX5_init 19 = .ok (.putfield 15, 3) := by decide +kernel
theorem dX5_init_22 : decode cX5_init 22 = .ok (.return_, 1) := by decide +kernel
theorem dX5_weigh_0 : decode cX5_weigh 0 = .ok (.aload_n 0, 1) := by decide +kernel
theorem dX5_weigh_1 : decode cX5_weigh 1 = .ok (.iconst 1, 1) := by decide +kernel
theorem dX5_weigh_2 : decode cX5_weigh 2 = .ok (.putfield 18, 3) := by decide +kernel
theorem dX5_weigh_5 : decode cX5_weigh 5 = .ok (.aload_n 0, 1) := by decide +kernel
theorem dX5_weigh_6 : decode cX5_weigh 6 = .ok (.aload_n 1, 1) := by decide +kernel
theorem dX5_weigh_7 : decode cX5_weigh 7 = .ok (.getfield 22, 3) := by decide +kernel
theorem dX5_weigh_10 : decode cX5_weigh 10 = .ok (.putfield 27, 3) := by decide +kernel
theorem dX5_weigh_13 : decode cX5_weigh 13 = .ok (.aload_n 0, 1) := by decide +kernel
theorem dX5_weigh_14 : decode cX5_weigh 14 = .ok (.aload_n 1, 1) := by decide +kernel
theorem dX5_weigh_15 : decode cX5_weigh 15 = .ok (.invokevirtual 28, 3) := by decide +kernel
theorem dX5_weigh_18 : decode cX5_weigh 18 = .ok (.putfield 32, 3) := by decide +kernel
theorem dX5_weigh_21 : decode cX5_weigh 21 = .ok (.aload_n 0, 1) := by decide +kernel
theorem dX5_weigh_22 : decode cX5_weigh 22 = .ok (.iconst 0, 1) := by decide +kernel
theorem dX5_weigh_23 : decode cX5_weigh 23 = .ok (.putfield 35, 3) := by decide +kernel
theorem dX5_weigh_26 : decode cX5_weigh 26 = .ok (.aload_n 0, 1) := by decide +kernel
theorem dX5_weigh_27 : decode cX5_weigh 27 = .ok (.getfield 9, 3) := by decide +kernel
theorem dX5_weigh_30 : decode cX5_weigh 30 = .ok (.iconst 0, 1) := by decide +kernel
theorem dX5_weigh_31 : decode cX5_weigh 31 = .ok (.iconst 0, 1) := by decide +kernel
theorem dX5_weigh_32 : decode cX5_weigh 32 = .ok (.iastore, 1) := by decide +kernel
theorem dX5_weigh_33 : decode cX5_weigh 33 = .ok (.iconst 0, 1) := by decide +kernel
theorem dX5_weigh_34 : decode cX5_weigh 34 = .ok (.istore_n 3, 1) := by decide +kernel
theorem dX5_weigh_35 : decode cX5_weigh 35 = .ok (.iload_n 3, 1) := by decide +kernel
theorem dX5_weigh_36 : decode cX5_weigh 36 = .ok (.aload_n 1, 1) := by decide +kernel
theorem dX5_weigh_37 : decode cX5_weigh 37 = .ok (.getfield 38, 3) := by decide +kernel
theorem dX5_weigh_40 : decode cX5_weigh 40 = .ok (.if_icmp .ge 84, 3) := by decide +kernel
theorem dX5_weigh_43 : decode cX5_weigh 43 = .ok (.aload_n 2, 1) := by decide +kernel
theorem dX5_weigh_44 : decode cX5_weigh 44 = .ok (.iload_n 3, 1) := by decide +kernel
theorem dX5_weigh_45 : decode cX5_weigh 45 = .ok (.invokevirtual 41, 3) := by decide +kernel
theorem dX5_weigh_48 : decode cX5_weigh 48 = .ok (.istore 4, 2) := by decide +kernel
theorem dX5_weigh_50 : decode cX5_weigh 50 = .ok (.iconst 0, 1) := by decide +kernel
theorem dX5_weigh_51 : decode cX5_weigh 51 = .ok (.istore 5, 2) := by decide +kernel
theorem dX5_weigh_53 : decode cX5_weigh 53 = .ok (.iload 5, 2) := by decide +kernel
theorem dX5_weigh_55 : decode cX5_weigh 55 = .ok (.aload_n 0, 1) := by decide +kernel
theorem dX5_weigh_56 : decode cX5_weigh 56 = .ok (.getfield 18, 3) := by decide +kernel
theorem dX5_weigh_59 : decode cX5_weigh 59 = .ok (.if_icmp .ge 31, 3) := by decide +kernel
theorem dX5_weigh_62 : decode cX5_weigh 62 = .ok (.aload_n 0, 1) := by decide +kernel
theorem dX5_weigh_63 : decode cX5_weigh 63 = .ok (.getfield 9, 3) := by decide +kernel
theorem dX5_weigh_66 : decode cX5_weigh 66 = .ok (.aload_n 0, 1) := by decide +kernel
theorem dX5_weigh_67 : decode cX5_weigh 67 = .ok (.getfield 18, 3) := by decide +kernel
theorem dX5_weigh_70 : decode cX5_weigh 70 = .ok (.iload 5, 2) := by decide +kernel
theorem dX5_weigh_72 : decode cX5_weigh 72 = .ok (.iadd, 1) := by decide +kernel
theorem dX5_weigh_73 : decode cX5_weigh 73 = .ok (.aload_n 0, 1) := by decide +kernel
theorem dX5_weigh_74 : decode cX5_weigh 74 = .ok (.getfield 9, 3) := by decide +kernel
theorem dX5_weigh_77 : decode cX5_weigh 77 = .ok (.iload 5, 2) := by decide +kernel
theorem dX5_weigh_79 : decode cX5_weigh 79 = .ok (.iaload, 1) := by decide +kernel
theorem dX5_weigh_80 : decode cX5_weigh 80 = .ok (.iload 4, 2) := by decide +kernel
theorem dX5_weigh_82 : decode cX5_weigh 82 = .ok (.iadd, 1) := by decide +kernel
theorem dX5_weigh_83 : decode cX5_weigh 83 = .ok (.iastore, 1) := by decide +kernel
theorem dX5_weigh_84 : decode cX5_weigh 84 = .ok (.iinc 5 1, 3) := by decide +kernel
theorem dX5_weigh_87 : decode cX5_weigh 87 = .ok (.goto (-34), 3) := by decide +kernel
theorem dX5_weigh_90 : decode cX5_weigh 90 = .ok (.iload 4, 2) := by decide +kernel
theorem dX5_weigh_92 : decode cX5_weigh 92 = .ok (.ifCond .le 16, 3) := by decide +kernel
theorem dX5_weigh_95 : decode cX5_weigh 95 = .ok (.aload_n 0, 1) := by decide +kernel
theorem dX5_weigh_96 : decode cX5_weigh 96 = .ok (.dup, 1) := by decide +kernel
theorem dX5_weigh_97 : decode cX5_weigh 97 = .ok (.getfield 35, 3) := by decide +kernel
theorem dX5_weigh_100 : decode cX5_weigh 100 = .ok (.aload_n 0, 1) := by decide +kernel
theorem dX5_weigh_101 : decode cX5_weigh 101 = .ok (.getfield 18, 3) := by decide +kernel
theorem dX5_weigh_104 : decode cX5_weigh 104 = .ok (.ior, 1) := by decide +kernel
theorem dX5_weigh_105 : decode cX5_weigh 105 = .ok (.putfield 35, 3) := by decide +kernel
theorem dX5_weigh_108 : decode cX5_weigh 108 = .ok (.aload_n 0, 1) := by decide +kernel
theorem dX5_weigh_109 : decode cX5_weigh 109 = .ok (.dup, 1) := by decide +kernel
theorem dX5_weigh_110 : decode cX5_weigh 110 = .ok (.getfield 18, 3) := by decide +kernel
theorem dX5_weigh_113 : decode cX5_weigh 113 = .ok (.iconst 2, 1) := by decide +kernel
theorem dX5_weigh_114 : decode cX5_weigh 114 = .ok (.imul, 1) := by decide +kernel
theorem dX5_weigh_115 : decode cX5_weigh 115 = .ok (.putfield 18, 3) := by decide +kernel
theorem dX5_weigh_118 : decode cX5_weigh 118 = .ok (.iinc 3 1, 3) := by decide +kernel
theorem dX5_weigh_121 : decode cX5_weigh 121 = .ok (.goto (-86), 3) := by decide +kernel
theorem dX5_weigh_124 : decode cX5_weigh 124 = .ok (.return_, 1) := by decide +kernel
theorem dX5_countLeft_0 : decode cX5_countLeft 0 = .ok (.iload_n 0, 1) := by decide +kernel
theorem dX5_countLeft_1 : decode cX5_countLeft 1 = .ok (.iload_n 1, 1) := by decide +kernel
theorem dX5_countLeft_2 : decode cX5_countLeft 2 = .ok (.iconst (-1), 1) := by decide +kernel
theorem dX5_countLeft_3 : decode cX5_countLeft 3 = .ok (.ixor, 1) := by decide +kernel
theorem dX5_countLeft_4 : decode cX5_countLeft 4 = .ok (.iand, 1) := by decide +kernel
theorem dX5_countLeft_5 : decode cX5_countLeft 5 = .ok (.invokestatic 47, 3) := by decide +kernel
theorem dX5_countLeft_8 : decode cX5_countLeft 8 = .ok (.ireturn, 1) := by decide +kernel
theorem dX5_bestFire_0 : decode cX5_bestFire 0 = .ok (.bipush (-9), 2) := by decide +kernel
theorem dX5_bestFire_2 : decode cX5_bestFire 2 = .ok (.istore_n 3, 1) := by decide +kernel
theorem dX5_bestFire_3 : decode cX5_bestFire 3 = .ok (.iconst 1, 1) := by decide +kernel
theorem dX5_bestFire_4 : decode cX5_bestFire 4 = .ok (.istore 4, 2) := by decide +kernel
theorem dX5_bestFire_6 : decode cX5_bestFire 6 = .ok (.iload 4, 2) := by decide +kernel
theorem dX5_bestFire_8 : decode cX5_bestFire 8 = .ok (.aload_n 0, 1) := by decide +kernel
theorem dX5_bestFire_9 : decode cX5_bestFire 9 = .ok (.getfield 18, 3) := by decide +kernel
theorem dX5_bestFire_12 : decode cX5_bestFire 12 = .ok (.if_icmp .ge 40, 3) := by decide +kernel
theorem dX5_bestFire_15 : decode cX5_bestFire 15 = .ok (.aload_n 0, 1) := by decide +kernel
theorem dX5_bestFire_16 : decode cX5_bestFire 16 = .ok (.getfield 9, 3) := by decide +kernel
theorem dX5_bestFire_19 : decode cX5_bestFire 19 = .ok (.iload 4, 2) := by decide +kernel
theorem dX5_bestFire_21 : decode cX5_bestFire 21 = .ok (.iaload, 1) := by decide +kernel
theorem dX5_bestFire_22 : decode cX5_bestFire 22 = .ok (.iload_n 1, 1) := by decide +kernel
theorem dX5_bestFire_23 : decode cX5_bestFire 23 = .ok (.if_icmp .lt 23, 3) := by decide +kernel
theorem dX5_bestFire_26 : decode cX5_bestFire 26 = .ok (.iload_n 3, 1) := by decide +kernel
theorem dX5_bestFire_27 : decode cX5_bestFire 27 = .ok (.bipush (-9), 2) := by decide +kernel
theorem dX5_bestFire_29 : decode cX5_bestFire 29 = .ok (.if_icmp .eq 14, 3) := by decide +kernel
theorem dX5_bestFire_32 : decode cX5_bestFire 32 = .ok (.aload_n 0, 1) := by decide +kernel
theorem dX5_bestFire_33 : decode cX5_bestFire 33 = .ok (.iload 4, 2) := by decide +kernel
theorem dX5_bestFire_35 : decode cX5_bestFire 35 = .ok (.iload_n 3, 1) := by decide +kernel
theorem dX5_bestFire_36 : decode cX5_bestFire 36 = .ok (.iload_n 2, 1) := by decide +kernel
theorem dX5_bestFire_37 : decode cX5_bestFire 37 = .ok (.invokevirtual 52, 3) := by decide +kernel
theorem dX5_bestFire_40 : decode cX5_bestFire 40 = .ok (.ifCond .eq 6, 3) := by decide +kernel
theorem dX5_bestFire_43 : decode cX5_bestFire 43 = .ok (.iload 4, 2) := by decide +kernel
theorem dX5_bestFire_45 : decode cX5_bestFire 45 = .ok (.istore_n 3, 1) := by decide +kernel
theorem dX5_bestFire_46 : decode cX5_bestFire 46 = .ok (.iinc 4 1, 3) := by decide +kernel
theorem dX5_bestFire_49 : decode cX5_bestFire 49 = .ok (.goto (-43), 3) := by decide +kernel
theorem dX5_bestFire_52 : decode cX5_bestFire 52 = .ok (.iload_n 3, 1) := by decide +kernel
theorem dX5_bestFire_53 : decode cX5_bestFire 53 = .ok (.ireturn, 1) := by decide +kernel
theorem dX5_isBetterFire_0 : decode cX5_isBetterFire 0 = .ok (.iload_n 3, 1) := by decide +kernel
theorem dX5_isBetterFire_1 : decode cX5_isBetterFire 1 = .ok (.iload_n 1, 1) := by decide +kernel
theorem dX5_isBetterFire_2 : decode cX5_isBetterFire 2 = .ok (.invokestatic 56, 3) := by decide +kernel
theorem dX5_isBetterFire_5 : decode cX5_isBetterFire 5 = .ok (.iload_n 3, 1) := by decide +kernel
theorem dX5_isBetterFire_6 : decode cX5_isBetterFire 6 = .ok (.iload_n 2, 1) := by decide +kernel
theorem dX5_isBetterFire_7 : decode cX5_isBetterFire 7 = .ok (.invokestatic 56, 3) := by decide +kernel
theorem dX5_isBetterFire_10 : decode cX5_isBetterFire 10 = .ok (.isub, 1) := by decide +kernel
theorem dX5_isBetterFire_11 : decode cX5_isBetterFire 11 = .ok (.istore 4, 2) := by decide +kernel
theorem dX5_isBetterFire_13 : decode cX5_isBetterFire 13 = .ok (.iload 4, 2) := by decide +kernel
theorem dX5_isBetterFire_15 : decode cX5_isBetterFire 15 = .ok (.ifCond .gt 23, 3) := by decide +kernel
theorem dX5_isBetterFire_18 : decode cX5_isBetterFire 18 = .ok (.iload 4, 2) := by decide +kernel
theorem dX5_isBetterFire_20 : decode cX5_isBetterFire 20 = .ok (.ifCond .ne 22, 3) := by decide +kernel
theorem dX5_isBetterFire_23 : decode cX5_isBetterFire 23 = .ok (.aload_n 0, 1) := by decide +kernel
theorem dX5_isBetterFire_24 : decode cX5_isBetterFire 24 = .ok (.getfield 9, 3) := by decide +kernel
theorem dX5_isBetterFire_27 : decode cX5_isBetterFire 27 = .ok (.iload_n 1, 1) := by decide +kernel
theorem dX5_isBetterFire_28 : decode cX5_isBetterFire 28 = .ok (.iaload, 1) := by decide +kernel
theorem dX5_isBetterFire_29 : decode cX5_isBetterFire 29 = .ok (.aload_n 0, 1) := by decide +kernel
theorem dX5_isBetterFire_30 : decode cX5_isBetterFire 30 = .ok (.getfield 9, 3) := by decide +kernel
theorem dX5_isBetterFire_33 : decode cX5_isBetterFire 33 = .ok (.iload_n 2, 1) := by decide +kernel
theorem dX5_isBetterFire_34 : decode cX5_isBetterFire 34 = .ok (.iaload, 1) := by decide +kernel
theorem dX5_isBetterFire_35 : decode cX5_isBetterFire 35 = .ok (.if_icmp .ge 7, 3) := by decide +kernel
theorem dX5_isBetterFire_38 : decode cX5_isBetterFire 38 = .ok (.iconst 1, 1) := by decide +kernel
theorem dX5_isBetterFire_39 : decode cX5_isBetterFire 39 = .ok (.goto 4, 3) := by decide +kernel
theorem dX5_isBetterFire_42 : decode cX5_isBetterFire 42 = .ok (.iconst 0, 1) := by decide +kernel
theorem dX5_isBetterFire_43 : decode cX5_isBetterFire 43 = .ok (.ireturn, 1) := by decide +kernel
theorem dX5_fitsOneShelf_0 : decode cX5_fitsOneShelf 0 = .ok (.iload_n 1, 1) := by decide +kernel
theorem dX5_fitsOneShelf_1 : decode cX5_fitsOneShelf 1 = .ok (.aload_n 0, 1) := by decide +kernel
theorem dX5_fitsOneShelf_2 : decode cX5_fitsOneShelf 2 = .ok (.getfield 32, 3) := by decide +kernel
theorem dX5_fitsOneShelf_5 : decode cX5_fitsOneShelf 5 = .ok (.iand, 1) := by decide +kernel
theorem dX5_fitsOneShelf_6 : decode cX5_fitsOneShelf 6 = .ok (.istore_n 2, 1) := by decide +kernel
theorem dX5_fitsOneShelf_7 : decode cX5_fitsOneShelf 7 = .ok (.aload_n 0, 1) := by decide +kernel
theorem dX5_fitsOneShelf_8 : decode cX5_fitsOneShelf 8 = .ok (.getfield 9, 3) := by decide +kernel
theorem dX5_fitsOneShelf_11 : decode cX5_fitsOneShelf 11 = .ok (.iload_n 1, 1) := by decide +kernel
theorem dX5_fitsOneShelf_12 : decode cX5_fitsOneShelf 12 = .ok (.iaload, 1) := by decide +kernel
theorem dX5_fitsOneShelf_13 : decode cX5_fitsOneShelf 13 = .ok (.aload_n 0, 1) := by decide +kernel
theorem dX5_fitsOneShelf_14 : decode cX5_fitsOneShelf 14 = .ok (.getfield 27, 3) := by decide +kernel
theorem dX5_fitsOneShelf_17 : decode cX5_fitsOneShelf 17 = .ok (.if_icmp .gt 16, 3) := by decide +kernel
theorem dX5_fitsOneShelf_20 : decode cX5_fitsOneShelf 20 = .ok (.iload_n 2, 1) := by decide +kernel
theorem dX5_fitsOneShelf_21 : decode cX5_fitsOneShelf 21 = .ok (.ifCond .eq 8, 3) := by decide +kernel
theorem dX5_fitsOneShelf_24 : decode cX5_fitsOneShelf 24 = .ok (.iload_n 2, 1) := by decide +kernel
theorem dX5_fitsOneShelf_25 : decode cX5_fitsOneShelf 25 = .ok (.iload_n 1, 1) := by decide +kernel
theorem dX5_fitsOneShelf_26 : decode cX5_fitsOneShelf 26 = .ok (.if_icmp .ne 7, 3) := by decide +kernel
theorem dX5_fitsOneShelf_29 : decode cX5_fitsOneShelf 29 = .ok (.iconst 1, 1) := by decide +kernel
theorem dX5_fitsOneShelf_30 : decode cX5_fitsOneShelf 30 = .ok (.goto 4, 3) := by decide +kernel
theorem dX5_fitsOneShelf_33 : decode cX5_fitsOneShelf 33 = .ok (.iconst 0, 1) := by decide +kernel
theorem dX5_fitsOneShelf_34 : decode cX5_fitsOneShelf 34 = .ok (.ireturn, 1) := by decide +kernel
theorem dX5_isFilled_0 : decode cX5_isFilled 0 = .ok (.iload_n 1, 1) := by decide +kernel
theorem dX5_isFilled_1 : decode cX5_isFilled 1 = .ok (.aload_n 0, 1) := by decide +kernel
theorem dX5_isFilled_2 : decode cX5_isFilled 2 = .ok (.getfield 35, 3) := by decide +kernel
theorem dX5_isFilled_5 : decode cX5_isFilled 5 = .ok (.iconst (-1), 1) := by decide +kernel
theorem dX5_isFilled_6 : decode cX5_isFilled 6 = .ok (.ixor, 1) := by decide +kernel
theorem dX5_isFilled_7 : decode cX5_isFilled 7 = .ok (.iand, 1) := by decide +kernel
theorem dX5_isFilled_8 : decode cX5_isFilled 8 = .ok (.ifCond .ne 7, 3) := by decide +kernel
theorem dX5_isFilled_11 : decode cX5_isFilled 11 = .ok (.iconst 1, 1) := by decide +kernel
theorem dX5_isFilled_12 : decode cX5_isFilled 12 = .ok (.goto 4, 3) := by decide +kernel
theorem dX5_isFilled_15 : decode cX5_isFilled 15 = .ok (.iconst 0, 1) := by decide +kernel
theorem dX5_isFilled_16 : decode cX5_isFilled 16 = .ok (.ireturn, 1) := by decide +kernel
theorem dX5_fewestShelves_0 : decode cX5_fewestShelves 0 = .ok (.iconst 1, 1) := by decide +kernel
theorem dX5_fewestShelves_1 : decode cX5_fewestShelves 1 = .ok (.istore_n 1, 1) := by decide +kernel
theorem dX5_fewestShelves_2 : decode cX5_fewestShelves 2 = .ok (.iload_n 1, 1) := by decide +kernel
theorem dX5_fewestShelves_3 : decode cX5_fewestShelves 3 = .ok (.aload_n 0, 1) := by decide +kernel
theorem dX5_fewestShelves_4 : decode cX5_fewestShelves 4 = .ok (.getfield 18, 3) := by decide +kernel
theorem dX5_fewestShelves_7 : decode cX5_fewestShelves 7 = .ok (.if_icmp .ge 26, 3) := by decide +kernel
theorem dX5_fewestShelves_10 : decode cX5_fewestShelves 10 = .ok (.aload_n 0, 1) := by decide +kernel
theorem dX5_fewestShelves_11 : decode cX5_fewestShelves 11 = .ok (.getfield 9, 3) := by decide +kernel
theorem dX5_fewestShelves_14 : decode cX5_fewestShelves 14 = .ok (.iload_n 1, 1) := by decide +kernel
theorem dX5_fewestShelves_15 : decode cX5_fewestShelves 15 = .ok (.iaload, 1) := by decide +kernel
theorem dX5_fewestShelves_16 : decode cX5_fewestShelves 16 = .ok (.aload_n 0, 1) := by decide +kernel
theorem dX5_fewestShelves_17 : decode cX5_fewestShelves 17 = .ok (.getfield 27, 3) := by decide +kernel
theorem dX5_fewestShelves_20 : decode cX5_fewestShelves 20 = .ok (.if_icmp .le 6, 3) := by decide +kernel
theorem dX5_fewestShelves_23 : decode cX5_fewestShelves 23 = .ok (.bipush (-9), 2) := by decide +kernel
theorem dX5_fewestShelves_25 : decode cX5_fewestShelves 25 = .ok (.ireturn, 1) := by decide +kernel
theorem dX5_fewestShelves_26 : decode cX5_fewestShelves 26 = .ok (.iload_n 1, 1) := by decide +kernel
theorem dX5_fewestShelves_27 : decode cX5_fewestShelves 27 = .ok (.iconst 2, 1) := by decide +kernel
theorem dX5_fewestShelves_28 : decode cX5_fewestShelves 28 = .ok (.imul, 1) := by decide +kernel
theorem dX5_fewestShelves_29 : decode cX5_fewestShelves 29 = .ok (.istore_n 1, 1) := by decide +kernel
theorem dX5_fewestShelves_30 : decode cX5_fewestShelves 30 = .ok (.goto (-28), 3) := by decide +kernel
theorem dX5_fewestShelves_33 : decode cX5_fewestShelves 33 = .ok (.aload_n 0, 1) := by decide +kernel
theorem dX5_fewestShelves_34 : decode cX5_fewestShelves 34 = .ok (.getfield 15, 3) := by decide +kernel
theorem dX5_fewestShelves_37 : decode cX5_fewestShelves 37 = .ok (.iconst 0, 1) := by decide +kernel
theorem dX5_fewestShelves_38 : decode cX5_fewestShelves 38 = .ok (.iconst 0, 1) := by decide +kernel
theorem dX5_fewestShelves_39 : decode cX5_fewestShelves 39 = .ok (.iastore, 1) := by decide +kernel
theorem dX5_fewestShelves_40 : decode cX5_fewestShelves 40 = .ok (.iconst 1, 1) := by decide +kernel
theorem dX5_fewestShelves_41 : decode cX5_fewestShelves 41 = .ok (.istore_n 1, 1) := by decide +kernel
theorem dX5_fewestShelves_42 : decode cX5_fewestShelves 42 = .ok (.iload_n 1, 1) := by decide +kernel
theorem dX5_fewestShelves_43 : decode cX5_fewestShelves 43 = .ok (.aload_n 0, 1) := by decide +kernel
theorem dX5_fewestShelves_44 : decode cX5_fewestShelves 44 = .ok (.getfield 18, 3) := by decide +kernel
theorem dX5_fewestShelves_47 : decode cX5_fewestShelves 47 = .ok (.if_icmp .ge 28, 3) := by decide +kernel
theorem dX5_fewestShelves_50 : decode cX5_fewestShelves 50 = .ok (.aload_n 0, 1) := by decide +kernel
theorem dX5_fewestShelves_51 : decode cX5_fewestShelves 51 = .ok (.iload_n 1, 1) := by decide +kernel
theorem dX5_fewestShelves_52 : decode cX5_fewestShelves 52 = .ok (.invokevirtual 60, 3) := by decide +kernel
theorem dX5_fewestShelves_55 : decode cX5_fewestShelves 55 = .ok (.ifCond .eq 14, 3) := by decide +kernel
theorem dX5_fewestShelves_58 : decode cX5_fewestShelves 58 = .ok (.aload_n 0, 1) := by decide +kernel
theorem dX5_fewestShelves_59 : decode cX5_fewestShelves 59 = .ok (.getfield 15, 3) := by decide +kernel
theorem dX5_fewestShelves_62 : decode cX5_fewestShelves 62 = .ok (.iload_n 1, 1) := by decide +kernel
theorem dX5_fewestShelves_63 : decode cX5_fewestShelves 63 = .ok (.aload_n 0, 1) := by decide +kernel
theorem dX5_fewestShelves_64 : decode cX5_fewestShelves 64 = .ok (.iload_n 1, 1) := by decide +kernel
theorem dX5_fewestShelves_65 : decode cX5_fewestShelves 65 = .ok (.invokevirtual 64, 3) := by decide +kernel
theorem dX5_fewestShelves_68 : decode cX5_fewestShelves 68 = .ok (.iastore, 1) := by decide +kernel
theorem dX5_fewestShelves_69 : decode cX5_fewestShelves 69 = .ok (.iinc 1 1, 3) := by decide +kernel
theorem dX5_fewestShelves_72 : decode cX5_fewestShelves 72 = .ok (.goto (-30), 3) := by decide +kernel
theorem dX5_fewestShelves_75 : decode cX5_fewestShelves 75 = .ok (.aload_n 0, 1) := by decide +kernel
theorem dX5_fewestShelves_76 : decode cX5_fewestShelves 76 = .ok (.getfield 15, 3) := by decide +kernel
theorem dX5_fewestShelves_79 : decode cX5_fewestShelves 79 = .ok (.aload_n 0, 1) := by decide +kernel
theorem dX5_fewestShelves_80 : decode cX5_fewestShelves 80 = .ok (.getfield 35, 3) := by decide +kernel
theorem dX5_fewestShelves_83 : decode cX5_fewestShelves 83 = .ok (.iaload, 1) := by decide +kernel
theorem dX5_fewestShelves_84 : decode cX5_fewestShelves 84 = .ok (.ireturn, 1) := by decide +kernel
theorem dX5_fewestFor_0 : decode cX5_fewestFor 0 = .ok (.bipush 7, 2) := by decide +kernel
theorem dX5_fewestFor_2 : decode cX5_fewestFor 2 = .ok (.istore_n 2, 1) := by decide +kernel
theorem dX5_fewestFor_3 : decode cX5_fewestFor 3 = .ok (.iload_n 1, 1) := by decide +kernel
theorem dX5_fewestFor_4 : decode cX5_fewestFor 4 = .ok (.istore_n 3, 1) := by decide +kernel
theorem dX5_fewestFor_5 : decode cX5_fewestFor 5 = .ok (.iload_n 3, 1) := by decide +kernel
theorem dX5_fewestFor_6 : decode cX5_fewestFor 6 = .ok (.ifCond .le 35, 3) := by decide +kernel
theorem dX5_fewestFor_9 : decode cX5_fewestFor 9 = .ok (.aload_n 0, 1) := by decide +kernel
theorem dX5_fewestFor_10 : decode cX5_fewestFor 10 = .ok (.iload_n 3, 1) := by decide +kernel
theorem dX5_fewestFor_11 : decode cX5_fewestFor 11 = .ok (.invokevirtual 67, 3) := by decide +kernel
theorem dX5_fewestFor_14 : decode cX5_fewestFor 14 = .ok (.ifCond .eq 18, 3) := by decide +kernel
theorem dX5_fewestFor_17 : decode cX5_fewestFor 17 = .ok (.iload_n 2, 1) := by decide +kernel
theorem dX5_fewestFor_18 : decode cX5_fewestFor 18 = .ok (.aload_n 0, 1) := by decide +kernel
theorem dX5_fewestFor_19 : decode cX5_fewestFor 19 = .ok (.getfield 15, 3) := by decide +kernel
theorem dX5_fewestFor_22 : decode cX5_fewestFor 22 = .ok (.iload_n 1, 1) := by decide +kernel
theorem dX5_fewestFor_23 : decode cX5_fewestFor 23 = .ok (.iload_n 3, 1) := by decide +kernel
theorem dX5_fewestFor_24 : decode cX5_fewestFor 24 = .ok (.ixor, 1) := by decide +kernel
theorem dX5_fewestFor_25 : decode cX5_fewestFor 25 = .ok (.iaload, 1) := by decide +kernel
theorem dX5_fewestFor_26 : decode cX5_fewestFor 26 = .ok (.iconst 1, 1) := by decide +kernel
theorem dX5_fewestFor_27 : decode cX5_fewestFor 27 = .ok (.iadd, 1) := by decide +kernel
theorem dX5_fewestFor_28 : decode cX5_fewestFor 28 = .ok (.invokestatic 70, 3) := by decide +kernel
theorem dX5_fewestFor_31 : decode cX5_fewestFor 31 = .ok (.istore_n 2, 1) := by decide +kernel
theorem dX5_fewestFor_32 : decode cX5_fewestFor 32 = .ok (.iload_n 3, 1) := by decide +kernel
theorem dX5_fewestFor_33 : decode cX5_fewestFor 33 = .ok (.iconst 1, 1) := by decide +kernel
theorem dX5_fewestFor_34 : decode cX5_fewestFor 34 = .ok (.isub, 1) := by decide +kernel
theorem dX5_fewestFor_35 : decode cX5_fewestFor 35 = .ok (.iload_n 1, 1) := by decide +kernel
theorem dX5_fewestFor_36 : decode cX5_fewestFor 36 = .ok (.iand, 1) := by decide +kernel
theorem dX5_fewestFor_37 : decode cX5_fewestFor 37 = .ok (.istore_n 3, 1) := by decide +kernel
theorem dX5_fewestFor_38 : decode cX5_fewestFor 38 = .ok (.goto (-33), 3) := by decide +kernel
theorem dX5_fewestFor_41 : decode cX5_fewestFor 41 = .ok (.iload_n 2, 1) := by decide +kernel
theorem dX5_fewestFor_42 : decode cX5_fewestFor 42 = .ok (.ireturn, 1) := by decide +kernel
theorem dX5_mostBeside_0 : decode cX5_mostBeside 0 = .ok (.iconst 0, 1) := by decide +kernel
theorem dX5_mostBeside_1 : decode cX5_mostBeside 1 = .ok (.istore_n 2, 1) := by decide +kernel
theorem dX5_mostBeside_2 : decode cX5_mostBeside 2 = .ok (.iconst 1, 1) := by decide +kernel
theorem dX5_mostBeside_3 : decode cX5_mostBeside 3 = .ok (.istore_n 3, 1) := by decide +kernel
theorem dX5_mostBeside_4 : decode cX5_mostBeside 4 = .ok (.iload_n 3, 1) := by decide +kernel
theorem dX5_mostBeside_5 : decode cX5_mostBeside 5 = .ok (.aload_n 0, 1) := by decide +kernel
theorem dX5_mostBeside_6 : decode cX5_mostBeside 6 = .ok (.getfield 18, 3) := by decide +kernel
theorem dX5_mostBeside_9 : decode cX5_mostBeside 9 = .ok (.if_icmp .ge 55, 3) := by decide +kernel
theorem dX5_mostBeside_12 : decode cX5_mostBeside 12 = .ok (.iload_n 3, 1) := by decide +kernel
theorem dX5_mostBeside_13 : decode cX5_mostBeside 13 = .ok (.iload_n 1, 1) := by decide +kernel
theorem dX5_mostBeside_14 : decode cX5_mostBeside 14 = .ok (.ishr, 1) := by decide +kernel
theorem dX5_mostBeside_15 : decode cX5_mostBeside 15 = .ok (.iconst 1, 1) := by decide +kernel
theorem dX5_mostBeside_16 : decode cX5_mostBeside 16 = .ok (.iand, 1) := by decide +kernel
theorem dX5_mostBeside_17 : decode cX5_mostBeside 17 = .ok (.iconst 1, 1) := by decide +kernel
theorem dX5_mostBeside_18 : decode cX5_mostBeside 18 = .ok (.if_icmp .ne 7, 3) := by decide +kernel
theorem dX5_mostBeside_21 : decode cX5_mostBeside 21 = .ok (.iconst 1, 1) := by decide +kernel
theorem dX5_mostBeside_22 : decode cX5_mostBeside 22 = .ok (.goto 4, 3) := by decide +kernel
theorem dX5_mostBeside_25 : decode cX5_mostBeside 25 = .ok (.iconst 0, 1) := by decide +kernel
theorem dX5_mostBeside_26 : decode cX5_mostBeside 26 = .ok (.istore 4, 2) := by decide +kernel
theorem dX5_mostBeside_28 : decode cX5_mostBeside 28 = .ok (.iload 4, 2) := by decide +kernel
theorem dX5_mostBeside_30 : decode cX5_mostBeside 30 = .ok (.ifCond .eq 28, 3) := by decide +kernel
theorem dX5_mostBeside_33 : decode cX5_mostBeside 33 = .ok (.aload_n 0, 1) := by decide +kernel
theorem dX5_mostBeside_34 : decode cX5_mostBeside 34 = .ok (.iload_n 3, 1) := by decide +kernel
theorem dX5_mostBeside_35 : decode cX5_mostBeside 35 = .ok (.invokevirtual 60, 3) := by decide +kernel
theorem dX5_mostBeside_38 : decode cX5_mostBeside 38 = .ok (.ifCond .eq 20, 3) := by decide +kernel
theorem dX5_mostBeside_41 : decode cX5_mostBeside 41 = .ok (.aload_n 0, 1) := by decide +kernel
theorem dX5_mostBeside_42 : decode cX5_mostBeside 42 = .ok (.iload_n 3, 1) := by decide +kernel
theorem dX5_mostBeside_43 : decode cX5_mostBeside 43 = .ok (.invokevirtual 67, 3) := by decide +kernel
theorem dX5_mostBeside_46 : decode cX5_mostBeside 46 = .ok (.ifCond .eq 12, 3) := by decide +kernel
theorem dX5_mostBeside_49 : decode cX5_mostBeside 49 = .ok (.iload_n 2, 1) := by decide +kernel
theorem dX5_mostBeside_50 : decode cX5_mostBeside 50 = .ok (.iload_n 3, 1) := by decide +kernel
theorem dX5_mostBeside_51 : decode cX5_mostBeside 51 = .ok (.invokestatic 47, 3) := by decide +kernel
theorem dX5_mostBeside_54 : decode cX5_mostBeside 54 = .ok (.invokestatic 75, 3) := by decide +kernel
theorem dX5_mostBeside_57 : decode cX5_mostBeside 57 = .ok (.istore_n 2, 1) := by decide +kernel
theorem dX5_mostBeside_58 : decode cX5_mostBeside 58 = .ok (.iinc 3 1, 3) := by decide +kernel
theorem dX5_mostBeside_61 : decode cX5_mostBeside 61 = .ok (.goto (-57), 3) := by decide +kernel
theorem dX5_mostBeside_64 : decode cX5_mostBeside 64 = .ok (.iload_n 2, 1) := by decide +kernel
theorem dX5_mostBeside_65 : decode cX5_mostBeside 65 = .ok (.ifCond .ne 8, 3) := by decide +kernel
theorem dX5_mostBeside_68 : decode cX5_mostBeside 68 = .ok (.bipush (-9), 2) := by decide +kernel
theorem dX5_mostBeside_70 : decode cX5_mostBeside 70 = .ok (.goto 6, 3) := by decide +kernel
theorem dX5_mostBeside_73 : decode cX5_mostBeside 73 = .ok (.iload_n 2, 1) := by decide +kernel
theorem dX5_mostBeside_74 : decode cX5_mostBeside 74 = .ok (.iconst 1, 1) := by decide +kernel
theorem dX5_mostBeside_75 : decode cX5_mostBeside 75 = .ok (.isub, 1) := by decide +kernel
theorem dX5_mostBeside_76 : decode cX5_mostBeside 76 = .ok (.ireturn, 1) := by decide +kernel
theorem dX6_init_0 : decode cX6_init 0 = .ok (.aload_n 0, 1) := by decide +kernel
theorem dX6_init_1 : decode cX6_init 1 = .ok (.invokespecial 3, 3) := by decide +kernel
theorem dX6_init_4 : decode cX6_init 4 = .ok (.aload_n 0, 1) := by decide +kernel
theorem dX6_init_5 : decode cX6_init 5 = .ok (.sipush 200, 3) := by decide +kernel
theorem dX6_init_8 : decode cX6_init 8 = .ok (.newarray .int, 2) := by decide +kernel
theorem dX6_init_10 : decode cX6_init 10 = .ok (.putfield 9, 3) := by decide +kernel
theorem dX6_init_13 : decode cX6_init 13 = .ok (.aload_n 0, 1) := by decide +kernel
theorem dX6_init_14 : decode cX6_init 14 = .ok (.new 15, 3) := by decide +kernel
theorem dX6_init_17 : decode cX6_init 17 = .ok (.dup, 1) := by decide +kernel
theorem dX6_init_18 : decode cX6_init 18 = .ok (.invokespecial 17, 3) := by decide +kernel
theorem dX6_init_21 : decode cX6_init 21 = .ok (.putfield 18, 3) := by decide +kernel
theorem dX6_init_24 : decode cX6_init 24 = .ok (.return_, 1) := by decide +kernel
theorem dX6_append_0 : decode cX6_append 0 = .ok (.aload_n 0, 1) := by decide +kernel
theorem dX6_append_1 : decode cX6_append 1 = .ok (.getfield 22, 3) := by decide +kernel
theorem dX6_append_4 : decode cX6_append 4 = .ok (.sipush 200, 3) := by decide +kernel
theorem dX6_append_7 : decode cX6_append 7 = .ok (.if_icmp .lt 5, 3) := by decide +kernel
theorem dX6_append_10 : decode cX6_append 10 = .ok (.iconst 0, 1) := by decide +kernel
theorem dX6_append_11 : decode cX6_append 11 = .ok (.ireturn, 1) := by decide +kernel
theorem dX6_append_12 : decode cX6_append 12 = .ok (.aload_n 0, 1) := by decide +kernel
theorem dX6_append_13 : decode cX6_append 13 = .ok (.getfield 9, 3) := by decide +kernel
theorem dX6_append_16 : decode cX6_append 16 = .ok (.aload_n 0, 1) := by decide +kernel
theorem dX6_append_17 : decode cX6_append 17 = .ok (.getfield 22, 3) := by decide +kernel
theorem dX6_append_20 : decode cX6_append 20 = .ok (.iload_n 1, 1) := by decide +kernel
theorem dX6_append_21 : decode cX6_append 21 = .ok (.iastore, 1) := by decide +kernel
theorem dX6_append_22 : decode cX6_append 22 = .ok (.aload_n 0, 1) := by decide +kernel
theorem dX6_append_23 : decode cX6_append 23 = .ok (.dup, 1) := by decide +kernel
theorem dX6_append_24 : decode cX6_append 24 = .ok (.getfield 22, 3) := by decide +kernel
theorem dX6_append_27 : decode cX6_append 27 = .ok (.iconst 1, 1) := by decide +kernel
theorem dX6_append_28 : decode cX6_append 28 = .ok (.iadd, 1) := by decide +kernel
theorem dX6_append_29 : decode cX6_append 29 = .ok (.putfield 22, 3) := by decide +kernel
theorem dX6_append_32 : decode cX6_append 32 = .ok (.iconst 1, 1) := by decide +kernel
theorem dX6_append_33 : decode cX6_append 33 = .ok (.ireturn, 1) := by decide +kernel
theorem dX6_read_0 : decode cX6_read 0 = .ok (.aload_n 0, 1) := by decide +kernel
theorem dX6_read_1 : decode cX6_read 1 = .ok (.getfield 18, 3) := by decide +kernel
theorem dX6_read_4 : decode cX6_read 4 = .ok (.invokevirtual 26, 3) := by decide +kernel
theorem dX6_read_7 : decode cX6_read 7 = .ok (.aload_n 0, 1) := by decide +kernel
theorem dX6_read_8 : decode cX6_read 8 = .ok (.iconst 0, 1) := by decide +kernel
theorem dX6_read_9 : decode cX6_read 9 = .ok (.putfield 29, 3) := by decide +kernel
theorem dX6_read_12 : decode cX6_read 12 = .ok (.aload_n 0, 1) := by decide +kernel
theorem dX6_read_13 : decode cX6_read 13 = .ok (.iconst 0, 1) := by decide +kernel
theorem dX6_read_14 : decode cX6_read 14 = .ok (.putfield 33, 3) := by decide +kernel
theorem dX6_read_17 : decode cX6_read 17 = .ok (.aload_n 0, 1) := by decide +kernel
theorem dX6_read_18 : decode cX6_read 18 = .ok (.iconst 0, 1) := by decide +kernel
theorem dX6_read_19 : decode cX6_read 19 = .ok (.putfield 36, 3) := by decide +kernel
theorem dX6_read_22 : decode cX6_read 22 = .ok (.iconst 0, 1) := by decide +kernel
theorem dX6_read_23 : decode cX6_read 23 = .ok (.istore_n 1, 1) := by decide +kernel
theorem dX6_read_24 : decode cX6_read 24 = .ok (.iload_n 1, 1) := by decide +kernel
theorem dX6_read_25 : decode cX6_read 25 = .ok (.bipush 9, 2) := by decide +kernel
theorem dX6_read_27 : decode cX6_read 27 = .ok (.if_icmp .gt 35, 3) := by decide +kernel
theorem dX6_read_30 : decode cX6_read 30 = .ok (.aload_n 0, 1) := by decide +kernel
theorem dX6_read_31 : decode cX6_read 31 = .ok (.invokevirtual 39, 3) := by decide +kernel
theorem dX6_read_34 : decode cX6_read 34 = .ok (.aload_n 0, 1) := by decide +kernel
theorem dX6_read_35 : decode cX6_read 35 = .ok (.getfield 42, 3) := by decide +kernel
theorem dX6_read_38 : decode cX6_read 38 = .ok (.sipush 257, 3) := by decide +kernel
theorem dX6_read_41 : decode cX6_read 41 = .ok (.if_icmp .ne 5, 3) := by decide +kernel
theorem dX6_read_44 : decode cX6_read 44 = .ok (.iload_n 1, 1) := by decide +kernel
theorem dX6_read_45 : decode cX6_read 45 = .ok (.ireturn, 1) := by decide +kernel
theorem dX6_read_46 : decode cX6_read 46 = .ok (.aload_n 0, 1) := by decide +kernel
theorem dX6_read_47 : decode cX6_read 47 = .ok (.invokevirtual 45, 3) := by decide +kernel
theorem dX6_read_50 : decode cX6_read 50 = .ok (.ifCond .ne 6, 3) := by decide +kernel
theorem dX6_read_53 : decode cX6_read 53 = .ok (.goto 9, 3) := by decide +kernel
theorem dX6_read_56 : decode cX6_read 56 = .ok (.iinc 1 1, 3) := by decide +kernel
theorem dX6_read_59 : decode cX6_read 59 = .ok (.goto (-35), 3) := by decide +kernel
theorem dX6_read_62 : decode cX6_read 62 = .ok (.bipush (-10), 2) := by decide +kernel
theorem dX6_read_64 : decode cX6_read 64 = .ok (.aload_n 0, 1) := by decide +kernel
theorem dX6_read_65 : decode cX6_read 65 = .ok (.getfield 49, 3) := by decide +kernel
theorem dX6_read_68 : decode cX6_read 68 = .ok (.isub, 1) := by decide +kernel
theorem dX6_read_69 : decode cX6_read 69 = .ok (.ireturn, 1) := by decide +kernel
theorem dX6_readItem_0 : decode cX6_readItem 0 = .ok (.iconst 0, 1) := by decide +kernel
theorem dX6_readItem_1 : decode cX6_readItem 1 = .ok (.istore_n 1, 1) := by decide +kernel
theorem dX6_readItem_2 : decode cX6_readItem 2 = .ok (.aload_n 0, 1) := by decide +kernel
theorem dX6_readItem_3 : decode cX6_readItem 3 = .ok (.getfield 42, 3) := by decide +kernel
theorem dX6_readItem_6 : decode cX6_readItem 6 = .ok (.bipush 112, 2) := by decide +kernel
theorem dX6_readItem_8 : decode cX6_readItem 8 = .ok (.if_icmp .ne 11, 3) := by decide +kernel
theorem dX6_readItem_11 : decode cX6_readItem 11 = .ok (.aload_n 0, 1) := by decide +kernel
theorem dX6_readItem_12 : decode cX6_readItem 12 = .ok (.invokevirtual 52, 3) := by decide +kernel
theorem dX6_readItem_15 : decode cX6_readItem 15 = .ok (.istore_n 1, 1) := by decide +kernel
theorem dX6_readItem_16 : decode cX6_readItem 16 = .ok (.goto 34, 3) := by decide +kernel
theorem dX6_readItem_19 : decode cX6_readItem 19 = .ok (.aload_n 0, 1) := by decide +kernel
theorem dX6_readItem_20 : decode cX6_readItem 20 = .ok (.getfield 42, 3) := by decide +kernel
theorem dX6_readItem_23 : decode cX6_readItem 23 = .ok (.bipush 108, 2) := by decide +kernel
theorem dX6_readItem_25 : decode cX6_readItem 25 = .ok (.if_icmp .ne 11, 3) := by decide +kernel
theorem dX6_readItem_28 : decode cX6_readItem 28 = .ok (.aload_n 0, 1) := by decide +kernel
theorem dX6_readItem_29 : decode cX6_readItem 29 = .ok (.invokevirtual 55, 3) := by decide +kernel
theorem dX6_readItem_32 : decode cX6_readItem 32 = .ok (.istore_n 1, 1) := by decide +kernel
theorem dX6_readItem_33 : decode cX6_readItem 33 = .ok (.goto 17, 3) := by decide +kernel
theorem dX6_readItem_36 : decode cX6_readItem 36 = .ok (.aload_n 0, 1) := by decide +kernel
theorem dX6_readItem_37 : decode cX6_readItem 37 = .ok (.getfield 42, 3) := by decide +kernel
theorem dX6_readItem_40 : decode cX6_readItem 40 = .ok (.bipush 115, 2) := by decide +kernel
theorem dX6_readItem_42 : decode cX6_readItem 42 = .ok (.if_icmp .ne 8, 3) := by decide +kernel
theorem dX6_readItem_45 : decode cX6_readItem 45 = .ok (.aload_n 0, 1) := by decide +kernel
theorem dX6_readItem_46 : decode cX6_readItem 46 = .ok (.invokevirtual 58, 3) := by decide +kernel
theorem dX6_readItem_49 : decode cX6_readItem 49 = .ok (.istore_n 1, 1) := by decide +kernel
theorem dX6_readItem_50 : decode cX6_readItem 50 = .ok (.iload_n 1, 1) := by decide +kernel
theorem dX6_readItem_51 : decode cX6_readItem 51 = .ok (.ifCond .ne 5, 3) := by decide +kernel
theorem dX6_readItem_54 : decode cX6_readItem 54 = .ok (.iconst 0, 1) := by decide +kernel
theorem dX6_readItem_55 : decode cX6_readItem 55 = .ok (.ireturn, 1) := by decide +kernel
theorem dX6_readItem_56 : decode cX6_readItem 56 = .ok (.aload_n 0, 1) := by decide +kernel
theorem dX6_readItem_57 : decode cX6_readItem 57 = .ok (.invokevirtual 39, 3) := by decide +kernel
theorem dX6_readItem_60 : decode cX6_readItem 60 = .ok (.aload_n 0, 1) := by decide +kernel
theorem dX6_readItem_61 : decode cX6_readItem 61 = .ok (.getfield 42, 3) := by decide +kernel
theorem dX6_readItem_64 : decode cX6_readItem 64 = .ok (.bipush 59, 2) := by decide +kernel
theorem dX6_readItem_66 : decode cX6_readItem 66 = .ok (.if_icmp .ne 7, 3) := by decide +kernel
theorem dX6_readItem_69 : decode cX6_readItem 69 = .ok (.iconst 1, 1) := by decide +kernel
theorem dX6_readItem_70 : decode cX6_readItem 70 = .ok (.goto 4, 3) := by decide +kernel
theorem dX6_readItem_73 : decode cX6_readItem 73 = .ok (.iconst 0, 1) := by decide +kernel
theorem dX6_readItem_74 : decode cX6_readItem 74 = .ok (.ireturn, 1) := by decide +kernel
theorem dX6_readPan_0 : decode cX6_readPan 0 = .ok (.aload_n 0, 1) := by decide +kernel
theorem dX6_readPan_1 : decode cX6_readPan 1 = .ok (.getfield 18, 3) := by decide +kernel
theorem dX6_readPan_4 : decode cX6_readPan 4 = .ok (.getfield 61, 3) := by decide +kernel
theorem dX6_readPan_7 : decode cX6_readPan 7 = .ok (.bipush 7, 2) := by decide +kernel
theorem dX6_readPan_9 : decode cX6_readPan 9 = .ok (.if_icmp .ge 13, 3) := by decide +kernel
theorem dX6_readPan_12 : decode cX6_readPan 12 = .ok (.aload_n 0, 1) := by decide +kernel
theorem dX6_readPan_13 : decode cX6_readPan 13 = .ok (.iconst 0, 1) := by decide +kernel
theorem dX6_readPan_14 : decode cX6_readPan 14 = .ok (.bipush 99, 2) := by decide +kernel
theorem dX6_readPan_16 : decode cX6_readPan 16 = .ok (.invokevirtual 64, 3) := by decide +kernel
theorem dX6_readPan_19 : decode cX6_readPan 19 = .ok (.ifCond .ne 5, 3) := by decide +kernel
theorem dX6_readPan_22 : decode cX6_readPan 22 = .ok (.iconst 0, 1) := by decide +kernel
theorem dX6_readPan_23 : decode cX6_readPan 23 = .ok (.ireturn, 1) := by decide +kernel
theorem dX6_readPan_24 : decode cX6_readPan 24 = .ok (.aload_n 0, 1) := by decide +kernel
theorem dX6_readPan_25 : decode cX6_readPan 25 = .ok (.getfield 68, 3) := by decide +kernel
theorem dX6_readPan_28 : decode cX6_readPan 28 = .ok (.istore_n 1, 1) := by decide +kernel
theorem dX6_readPan_29 : decode cX6_readPan 29 = .ok (.aload_n 0, 1) := by decide +kernel
theorem dX6_readPan_30 : decode cX6_readPan 30 = .ok (.iconst 0, 1) := by decide +kernel
theorem dX6_readPan_31 : decode cX6_readPan 31 = .ok (.bipush 60, 2) := by decide +kernel
theorem dX6_readPan_33 : decode cX6_readPan 33 = .ok (.invokevirtual 64, 3) := by decide +kernel
theorem dX6_readPan_36 : decode cX6_readPan 36 = .ok (.ifCond .ne 5, 3) := by decide +kernel
theorem dX6_readPan_39 : decode cX6_readPan 39 = .ok (.iconst 0, 1) := by decide +kernel
theorem dX6_readPan_40 : decode cX6_readPan 40 = .ok (.ireturn, 1) := by decide +kernel
theorem dX6_readPan_41 : decode cX6_readPan 41 = .ok (.aload_n 0, 1) := by decide +kernel
theorem dX6_readPan_42 : decode cX6_readPan 42 = .ok (.getfield 68, 3) := by decide +kernel
theorem dX6_readPan_45 : decode cX6_readPan 45 = .ok (.istore_n 2, 1) := by decide +kernel
theorem dX6_readPan_46 : decode cX6_readPan 46 = .ok (.aload_n 0, 1) := by decide +kernel
theorem dX6_readPan_47 : decode cX6_readPan 47 = .ok (.iconst 0, 1) := by decide +kernel
theorem dX6_readPan_48 : decode cX6_readPan 48 = .ok (.bipush 9, 2) := by decide +kernel
theorem dX6_readPan_50 : decode cX6_readPan 50 = .ok (.invokevirtual 64, 3) := by decide +kernel
theorem dX6_readPan_53 : decode cX6_readPan 53 = .ok (.ifCond .ne 5, 3) := by decide +kernel
theorem dX6_readPan_56 : decode cX6_readPan 56 = .ok (.iconst 0, 1) := by decide +kernel
theorem dX6_readPan_57 : decode cX6_readPan 57 = .ok (.ireturn, 1) := by decide +kernel
theorem dX6_readPan_58 : decode cX6_readPan 58 = .ok (.aload_n 0, 1) := by decide +kernel
theorem dX6_readPan_59 : decode cX6_readPan 59 = .ok (.getfield 68, 3) := by decide +kernel
theorem dX6_readPan_62 : decode cX6_readPan 62 = .ok (.istore_n 3, 1) := by decide +kernel
theorem dX6_readPan_63 : decode cX6_readPan 63 = .ok (.aload_n 0, 1) := by decide +kernel
theorem dX6_readPan_64 : decode cX6_readPan 64 = .ok (.iconst 0, 1) := by decide +kernel
theorem dX6_readPan_65 : decode cX6_readPan 65 = .ok (.iconst 2, 1) := by decide +kernel
theorem dX6_readPan_66 : decode cX6_readPan 66 = .ok (.invokevirtual 64, 3) := by decide +kernel
theorem dX6_readPan_69 : decode cX6_readPan 69 = .ok (.ifCond .eq 24, 3) := by decide +kernel
theorem dX6_readPan_72 : decode cX6_readPan 72 = .ok (.aload_n 0, 1) := by decide +kernel
theorem dX6_readPan_73 : decode cX6_readPan 73 = .ok (.getfield 18, 3) := by decide +kernel
theorem dX6_readPan_76 : decode cX6_readPan 76 = .ok (.iload_n 1, 1) := by decide +kernel
theorem dX6_readPan_77 : decode cX6_readPan 77 = .ok (.iload_n 2, 1) := by decide +kernel
theorem dX6_readPan_78 : decode cX6_readPan 78 = .ok (.iload_n 3, 1) := by decide +kernel
theorem dX6_readPan_79 : decode cX6_readPan 79 = .ok (.aload_n 0, 1) := by decide +kernel
theorem dX6_readPan_80 : decode cX6_readPan 80 = .ok (.getfield 68, 3) := by decide +kernel
theorem dX6_readPan_83 : decode cX6_readPan 83 = .ok (.invokevirtual 71, 3) := by decide +kernel
theorem dX6_readPan_86 : decode cX6_readPan 86 = .ok (.ifCond .eq 7, 3) := by decide +kernel
theorem dX6_readPan_89 : decode cX6_readPan 89 = .ok (.iconst 1, 1) := by decide +kernel
theorem dX6_readPan_90 : decode cX6_readPan 90 = .ok (.goto 4, 3) := by decide +kernel
theorem dX6_readPan_93 : decode cX6_readPan 93 = .ok (.iconst 0, 1) := by decide +kernel
theorem dX6_readPan_94 : decode cX6_readPan 94 = .ok (.ireturn, 1) := by decide +kernel
theorem dX6_readLeast_0 : decode cX6_readLeast 0 = .ok (.aload_n 0, 1) := by decide +kernel
theorem dX6_readLeast_1 : decode cX6_readLeast 1 = .ok (.getfield 29, 3) := by decide +kernel
theorem dX6_readLeast_4 : decode cX6_readLeast 4 = .ok (.ifCond .ne 13, 3) := by decide +kernel
theorem dX6_readLeast_7 : decode cX6_readLeast 7 = .ok (.aload_n 0, 1) := by decide +kernel
theorem dX6_readLeast_8 : decode cX6_readLeast 8 = .ok (.iconst 1, 1) := by decide +kernel
theorem dX6_readLeast_9 : decode cX6_readLeast 9 = .ok (.bipush 60, 2) := by decide +kernel
theorem dX6_readLeast_11 : decode cX6_readLeast 11 = .ok (.invokevirtual 64, 3) := by decide +kernel
theorem dX6_readLeast_14 : decode cX6_readLeast 14 = .ok (.ifCond .ne 5, 3) := by decide +kernel
theorem dX6_readLeast_17 : decode cX6_readLeast 17 = .ok (.iconst 0, 1) := by decide +kernel
theorem dX6_readLeast_18 : decode cX6_readLeast 18 = .ok (.ireturn, 1) := by decide +kernel
theorem dX6_readLeast_19 : decode cX6_readLeast 19 = .ok (.aload_n 0, 1) := by decide +kernel
theorem dX6_readLeast_20 : decode cX6_readLeast 20 = .ok (.iconst 1, 1) := by decide +kernel
theorem dX6_readLeast_21 : decode cX6_readLeast 21 = .ok (.putfield 29, 3) := by decide +kernel
theorem dX6_readLeast_24 : decode cX6_readLeast 24 = .ok (.aload_n 0, 1) := by decide +kernel
theorem dX6_readLeast_25 : decode cX6_readLeast 25 = .ok (.getfield 18, 3) := by decide +kernel
theorem dX6_readLeast_28 : decode cX6_readLeast 28 = .ok (.aload_n 0, 1) := by decide +kernel
theorem dX6_readLeast_29 : decode cX6_readLeast 29 = .ok (.getfield 68, 3) := by decide +kernel
theorem dX6_readLeast_32 : decode cX6_readLeast 32 = .ok (.putfield 75, 3) := by decide +kernel
theorem dX6_readLeast_35 : decode cX6_readLeast 35 = .ok (.iconst 1, 1) := by decide +kernel
theorem dX6_readLeast_36 : decode cX6_readLeast 36 = .ok (.ireturn, 1) := by decide +kernel
theorem dX6_readShelf_0 : decode cX6_readShelf 0 = .ok (.aload_n 0, 1) := by decide +kernel
theorem dX6_readShelf_1 : decode cX6_readShelf 1 = .ok (.getfield 33, 3) := by decide +kernel
theorem dX6_readShelf_4 : decode cX6_readShelf 4 = .ok (.ifCond .ne 14, 3) := by decide +kernel
theorem dX6_readShelf_7 : decode cX6_readShelf 7 = .ok (.aload_n 0, 1) := by decide +kernel
theorem dX6_readShelf_8 : decode cX6_readShelf 8 = .ok (.bipush 10, 2) := by decide +kernel
theorem dX6_readShelf_10 : decode cX6_readShelf 10 = .ok (.bipush 99, 2) := by decide +kernel
theorem dX6_readShelf_12 : decode cX6_readShelf 12 = .ok (.invokevirtual 64, 3) := by decide +kernel
theorem dX6_readShelf_15 : decode cX6_readShelf 15 = .ok (.ifCond .ne 5, 3) := by decide +kernel
theorem dX6_readShelf_18 : decode cX6_readShelf 18 = .ok (.iconst 0, 1) := by decide +kernel
theorem dX6_readShelf_19 : decode cX6_readShelf 19 = .ok (.ireturn, 1) := by decide +kernel
theorem dX6_readShelf_20 : decode cX6_readShelf 20 = .ok (.aload_n 0, 1) := by decide +kernel
theorem dX6_readShelf_21 : decode cX6_readShelf 21 = .ok (.iconst 1, 1) := by decide +kernel
theorem dX6_readShelf_22 : decode cX6_readShelf 22 = .ok (.putfield 33, 3) := by decide +kernel
theorem dX6_readShelf_25 : decode cX6_readShelf 25 = .ok (.aload_n 0, 1) := by decide +kernel
theorem dX6_readShelf_26 : decode cX6_readShelf 26 = .ok (.getfield 18, 3) := by decide +kernel
theorem dX6_readShelf_29 : decode cX6_readShelf 29 = .ok (.aload_n 0, 1) := by decide +kernel
theorem dX6_readShelf_30 : decode cX6_readShelf 30 = .ok (.getfield 68, 3) := by decide +kernel
theorem dX6_readShelf_33 : decode cX6_readShelf 33 = .ok (.putfield 78, 3) := by decide +kernel
theorem dX6_readShelf_36 : decode cX6_readShelf 36 = .ok (.iconst 1, 1) := by decide +kernel
theorem dX6_readShelf_37 : decode cX6_readShelf 37 = .ok (.ireturn, 1) := by decide +kernel
theorem dX6_readNumber_0 : decode cX6_readNumber 0 = .ok (.aload_n 0, 1) := by decide +kernel
theorem dX6_readNumber_1 : decode cX6_readNumber 1 = .ok (.invokevirtual 39, 3) := by decide +kernel
theorem dX6_readNumber_4 : decode cX6_readNumber 4 = .ok (.aload_n 0, 1) := by decide +kernel
theorem dX6_readNumber_5 : decode cX6_readNumber 5 = .ok (.getfield 42, 3) := by decide +kernel
theorem dX6_readNumber_8 : decode cX6_readNumber 8 = .ok (.sipush 256, 3) := by decide +kernel
theorem dX6_readNumber_11 : decode cX6_readNumber 11 = .ok (.if_icmp .ne 23, 3) := by decide +kernel
theorem dX6_readNumber_14 : decode cX6_readNumber 14 = .ok (.aload_n 0, 1) := by decide +kernel
theorem dX6_readNumber_15 : decode cX6_readNumber 15 = .ok (.getfield 68, 3) := by decide +kernel
theorem dX6_readNumber_18 : decode cX6_readNumber 18 = .ok (.iload_n 1, 1) := by decide +kernel
theorem dX6_readNumber_19 : decode cX6_readNumber 19 = .ok (.if_icmp .lt 15, 3) := by decide +kernel
theorem dX6_readNumber_22 : decode cX6_readNumber 22 = .ok (.aload_n 0, 1) := by decide +kernel
theorem dX6_readNumber_23 : decode cX6_readNumber 23 = .ok (.getfield 68, 3) := by decide +kernel
theorem dX6_readNumber_26 : decode cX6_readNumber 26 = .ok (.iload_n 2, 1) := by decide +kernel
theorem dX6_readNumber_27 : decode cX6_readNumber 27 = .ok (.if_icmp .gt 7, 3) := by decide +kernel
theorem dX6_readNumber_30 : decode cX6_readNumber 30 = .ok (.iconst 1, 1) := by decide +kernel
theorem dX6_readNumber_31 : decode cX6_readNumber 31 = .ok (.goto 4, 3) := by decide +kernel
theorem dX6_readNumber_34 : decode cX6_readNumber 34 = .ok (.iconst 0, 1) := by decide +kernel
theorem dX6_readNumber_35 : decode cX6_readNumber 35 = .ok (.ireturn, 1) := by decide +kernel
theorem dX6_step_0 : decode cX6_step 0 = .ok (.aload_n 0, 1) := by decide +kernel
theorem dX6_step_1 : decode cX6_step 1 = .ok (.getfield 36, 3) := by decide +kernel
theorem dX6_step_4 : decode cX6_step 4 = .ok (.aload_n 0, 1) := by decide +kernel
theorem dX6_step_5 : decode cX6_step 5 = .ok (.getfield 22, 3) := by decide +kernel
theorem dX6_step_8 : decode cX6_step 8 = .ok (.if_icmp .ge 30, 3) := by decide +kernel
theorem dX6_step_11 : decode cX6_step 11 = .ok (.aload_n 0, 1) := by decide +kernel
theorem dX6_step_12 : decode cX6_step 12 = .ok (.getfield 9, 3) := by decide +kernel
theorem dX6_step_15 : decode cX6_step 15 = .ok (.aload_n 0, 1) := by decide +kernel
theorem dX6_step_16 : decode cX6_step 16 = .ok (.getfield 36, 3) := by decide +kernel
theorem dX6_step_19 : decode cX6_step 19 = .ok (.iaload, 1) := by decide +kernel
theorem dX6_step_20 : decode cX6_step 20 = .ok (.bipush 32, 2) := by decide +kernel
theorem dX6_step_22 : decode cX6_step 22 = .ok (.if_icmp .ne 16, 3) := by decide +kernel
theorem dX6_step_25 : decode cX6_step 25 = .ok (.aload_n 0, 1) := by decide +kernel
theorem dX6_step_26 : decode cX6_step 26 = .ok (.dup, 1) := by decide +kernel
theorem dX6_step_27 : decode cX6_step 27 = .ok (.getfield 36, 3) := by decide +kernel
theorem dX6_step_30 : decode cX6_step 30 = .ok (.iconst 1, 1) := by decide +kernel
theorem dX6_step_31 : decode cX6_step 31 = .ok (.iadd, 1) := by decide +kernel
theorem dX6_step_32 : decode cX6_step 32 = .ok (.putfield 36, 3) := by decide +kernel
theorem dX6_step_35 : decode cX6_step 35 = .ok (.goto (-35), 3) := by decide +kernel
theorem dX6_step_38 : decode cX6_step 38 = .ok (.aload_n 0, 1) := by decide +kernel
theorem dX6_step_39 : decode cX6_step 39 = .ok (.aload_n 0, 1) := by decide +kernel
theorem dX6_step_40 : decode cX6_step 40 = .ok (.getfield 36, 3) := by decide +kernel
theorem dX6_step_43 : decode cX6_step 43 = .ok (.putfield 49, 3) := by decide +kernel
theorem dX6_step_46 : decode cX6_step 46 = .ok (.aload_n 0, 1) := by decide +kernel
theorem dX6_step_47 : decode cX6_step 47 = .ok (.getfield 36, 3) := by decide +kernel
theorem dX6_step_50 : decode cX6_step 50 = .ok (.aload_n 0, 1) := by decide +kernel
theorem dX6_step_51 : decode cX6_step 51 = .ok (.getfield 22, 3) := by decide +kernel
theorem dX6_step_54 : decode cX6_step 54 = .ok (.if_icmp .lt 13, 3) := by decide +kernel
theorem dX6_step_57 : decode cX6_step 57 = .ok (.aload_n 0, 1) := by decide +kernel
theorem dX6_step_58 : decode cX6_step 58 = .ok (.sipush 257, 3) := by decide +kernel
theorem dX6_step_61 : decode cX6_step 61 = .ok (.putfield 42, 3) := by decide +kernel
theorem dX6_step_64 : decode cX6_step 64 = .ok (.goto 59, 3) := by decide +kernel
theorem dX6_step_67 : decode cX6_step 67 = .ok (.aload_n 0, 1) := by decide +kernel
theorem dX6_step_68 : decode cX6_step 68 = .ok (.getfield 9, 3) := by decide +kernel
theorem dX6_step_71 : decode cX6_step 71 = .ok (.aload_n 0, 1) := by decide +kernel
theorem dX6_step_72 : decode cX6_step 72 = .ok (.getfield 36, 3) := by decide +kernel
theorem dX6_step_75 : decode cX6_step 75 = .ok (.iaload, 1) := by decide +kernel
theorem dX6_step_76 : decode cX6_step 76 = .ok (.invokestatic 81, 3) := by decide +kernel
theorem dX6_step_79 : decode cX6_step 79 = .ok (.ifCond .eq 21, 3) := by decide +kernel
theorem dX6_step_82 : decode cX6_step 82 = .ok (.aload_n 0, 1) := by decide +kernel
theorem dX6_step_83 : decode cX6_step 83 = .ok (.sipush 256, 3) := by decide +kernel
theorem dX6_step_86 : decode cX6_step 86 = .ok (.putfield 42, 3) := by decide +kernel
theorem dX6_step_89 : decode cX6_step 89 = .ok (.aload_n 0, 1) := by decide +kernel
theorem dX6_step_90 : decode cX6_step 90 = .ok (.aload_n 0, 1) := by decide +kernel
theorem dX6_step_91 : decode cX6_step 91 = .ok (.invokevirtual 85, 3) := by decide +kernel
theorem dX6_step_94 : decode cX6_step 94 = .ok (.putfield 68, 3) := by decide +kernel
theorem dX6_step_97 : decode cX6_step 97 = .ok (.goto 26, 3) := by decide +kernel
theorem dX6_step_100 : decode cX6_step 100 = .ok (.aload_n 0, 1) := by decide +kernel
theorem dX6_step_101 : decode cX6_step 101 = .ok (.aload_n 0, 1) := by decide +kernel
theorem dX6_step_102 : decode cX6_step 102 = .ok (.getfield 9, 3) := by decide +kernel
theorem dX6_step_105 : decode cX6_step 105 = .ok (.aload_n 0, 1) := by decide +kernel
theorem dX6_step_106 : decode cX6_step 106 = .ok (.getfield 36, 3) := by decide +kernel
theorem dX6_step_109 : decode cX6_step 109 = .ok (.iaload, 1) := by decide +kernel
theorem dX6_step_110 : decode cX6_step 110 = .ok (.putfield 42, 3) := by decide +kernel
theorem dX6_step_113 : decode cX6_step 113 = .ok (.aload_n 0, 1) := by decide +kernel
theorem dX6_step_114 : decode cX6_step 114 = .ok (.dup, 1) := by decide +kernel
theorem dX6_step_115 : decode cX6_step 115 = .ok (.getfield 36, 3) := by decide +kernel
theorem dX6_step_118 : decode cX6_step 118 = .ok (.iconst 1, 1) := by decide +kernel
theorem dX6_step_119 : decode cX6_step 119 = .ok (.iadd, 1) := by decide +kernel
theorem dX6_step_120 : decode cX6_step 120 = .ok (.putfield 36, 3) := by decide +kernel
theorem dX6_step_123 : decode cX6_step 123 = .ok (.return_, 1) := by decide +kernel
theorem dX6_digits_0 : decode cX6_digits 0 = .ok (.iconst 0, 1) := by decide +kernel
theorem dX6_digits_1 : decode cX6_digits 1 = .ok (.istore_n 1, 1) := by decide +kernel
theorem dX6_digits_2 : decode cX6_digits 2 = .ok (.iconst 0, 1) := by decide +kernel
theorem dX6_digits_3 : decode cX6_digits 3 = .ok (.istore_n 2, 1) := by decide +kernel
theorem dX6_digits_4 : decode cX6_digits 4 = .ok (.aload_n 0, 1) := by decide +kernel
theorem dX6_digits_5 : decode cX6_digits 5 = .ok (.getfield 36, 3) := by decide +kernel
theorem dX6_digits_8 : decode cX6_digits 8 = .ok (.aload_n 0, 1) := by decide +kernel
theorem dX6_digits_9 : decode cX6_digits 9 = .ok (.getfield 22, 3) := by decide +kernel
theorem dX6_digits_12 : decode cX6_digits 12 = .ok (.if_icmp .ge 79, 3) := by decide +kernel
theorem dX6_digits_15 : decode cX6_digits 15 = .ok (.aload_n 0, 1) := by decide +kernel
theorem dX6_digits_16 : decode cX6_digits 16 = .ok (.getfield 9, 3) := by decide +kernel
theorem dX6_digits_19 : decode cX6_digits 19 = .ok (.aload_n 0, 1) := by decide +kernel
theorem dX6_digits_20 : decode cX6_digits 20 = .ok (.getfield 36, 3) := by decide +kernel
theorem dX6_digits_23 : decode cX6_digits 23 = .ok (.iaload, 1) := by decide +kernel
theorem dX6_digits_24 : decode cX6_digits 24 = .ok (.invokestatic 81, 3) := by decide +kernel
theorem dX6_digits_27 : decode cX6_digits 27 = .ok (.ifCond .eq 64, 3) := by decide +kernel
theorem dX6_digits_30 : decode cX6_digits 30 = .ok (.iload_n 2, 1) := by decide +kernel
theorem dX6_digits_31 : decode cX6_digits 31 = .ok (.ifCond .ne 18, 3) := by decide +kernel
theorem dX6_digits_34 : decode cX6_digits 34 = .ok (.iload_n 1, 1) := by decide +kernel
theorem dX6_digits_35 : decode cX6_digits 35 = .ok (.ifCond .ne 18, 3) := by decide +kernel
theorem dX6_digits_38 : decode cX6_digits 38 = .ok (.aload_n 0, 1) := by decide +kernel
theorem dX6_digits_39 : decode cX6_digits 39 = .ok (.getfield 36, 3) := by decide +kernel
theorem dX6_digits_42 : decode cX6_digits 42 = .ok (.aload_n 0, 1) := by decide +kernel
theorem dX6_digits_43 : decode cX6_digits 43 = .ok (.getfield 49, 3) := by decide +kernel
theorem dX6_digits_46 : decode cX6_digits 46 = .ok (.if_icmp .le 7, 3) := by decide +kernel
theorem dX6_digits_49 : decode cX6_digits 49 = .ok (.iconst 1, 1) := by decide +kernel
theorem dX6_digits_50 : decode cX6_digits 50 = .ok (.goto 4, 3) := by decide +kernel
theorem dX6_digits_53 : decode cX6_digits 53 = .ok (.iconst 0, 1) := by decide +kernel
theorem dX6_digits_54 : decode cX6_digits 54 = .ok (.istore_n 2, 1) := by decide +kernel
theorem dX6_digits_55 : decode cX6_digits 55 = .ok (.bipush 100, 2) := by decide +kernel
theorem dX6_digits_57 : decode cX6_digits 57 = .ok (.iload_n 1, 1) := by decide +kernel
theorem dX6_digits_58 : decode cX6_digits 58 = .ok (.bipush 10, 2) := by decide +kernel
theorem dX6_digits_60 : decode cX6_digits 60 = .ok (.imul, 1) := by decide +kernel
theorem dX6_digits_61 : decode cX6_digits 61 = .ok (.aload_n 0, 1) := by decide +kernel
theorem dX6_digits_62 : decode cX6_digits 62 = .ok (.getfield 9, 3) := by decide +kernel
theorem dX6_digits_65 : decode cX6_digits 65 = .ok (.aload_n 0, 1) := by decide +kernel
theorem dX6_digits_66 : decode cX6_digits 66 = .ok (.getfield 36, 3) := by decide +kernel
theorem dX6_digits_69 : decode cX6_digits 69 = .ok (.iaload, 1) := by decide +kernel
theorem dX6_digits_70 : decode cX6_digits 70 = .ok (.iadd, 1) := by decide +kernel
theorem dX6_digits_71 : decode cX6_digits 71 = .ok (.bipush 48, 2) := by decide +kernel
theorem dX6_digits_73 : decode cX6_digits 73 = .ok (.isub, 1) := by decide +kernel
theorem dX6_digits_74 : decode cX6_digits 74 = .ok (.invokestatic 89, 3) := by decide +kernel
theorem dX6_digits_77 : decode cX6_digits 77 = .ok (.istore_n 1, 1) := by decide +kernel
theorem dX6_digits_78 : decode cX6_digits 78 = .ok (.aload_n 0, 1) := by decide +kernel
theorem dX6_digits_79 : decode cX6_digits 79 = .ok (.dup, 1) := by decide +kernel
theorem dX6_digits_80 : decode cX6_digits 80 = .ok (.getfield 36, 3) := by decide +kernel
theorem dX6_digits_83 : decode cX6_digits 83 = .ok (.iconst 1, 1) := by decide +kernel
theorem dX6_digits_84 : decode cX6_digits 84 = .ok (.iadd, 1) := by decide +kernel
theorem dX6_digits_85 : decode cX6_digits 85 = .ok (.putfield 36, 3) := by decide +kernel
theorem dX6_digits_88 : decode cX6_digits 88 = .ok (.goto (-84), 3) := by decide +kernel
theorem dX6_digits_91 : decode cX6_digits 91 = .ok (.iload_n 2, 1) := by decide +kernel
theorem dX6_digits_92 : decode cX6_digits 92 = .ok (.ifCond .eq 8, 3) := by decide +kernel
theorem dX6_digits_95 : decode cX6_digits 95 = .ok (.bipush 100, 2) := by decide +kernel
theorem dX6_digits_97 : decode cX6_digits 97 = .ok (.goto 4, 3) := by decide +kernel
theorem dX6_digits_100 : decode cX6_digits 100 = .ok (.iload_n 1, 1) := by decide +kernel
theorem dX6_digits_101 : decode cX6_digits 101 = .ok (.ireturn, 1) := by decide +kernel
theorem dX6_isDigit_0 : decode cX6_isDigit 0 = .ok (.iload_n 0, 1) := by decide +kernel
theorem dX6_isDigit_1 : decode cX6_isDigit 1 = .ok (.bipush 48, 2) := by decide +kernel
theorem dX6_isDigit_3 : decode cX6_isDigit 3 = .ok (.if_icmp .lt 13, 3) := by decide +kernel
theorem dX6_isDigit_6 : decode cX6_isDigit 6 = .ok (.iload_n 0, 1) := by decide +kernel
theorem dX6_isDigit_7 : decode cX6_isDigit 7 = .ok (.bipush 57, 2) := by decide +kernel
theorem dX6_isDigit_9 : decode cX6_isDigit 9 = .ok (.if_icmp .gt 7, 3) := by decide +kernel
theorem dX6_isDigit_12 : decode cX6_isDigit 12 = .ok (.iconst 1, 1) := by decide +kernel
theorem dX6_isDigit_13 : decode cX6_isDigit 13 = .ok (.goto 4, 3) := by decide +kernel
theorem dX6_isDigit_16 : decode cX6_isDigit 16 = .ok (.iconst 0, 1) := by decide +kernel
theorem dX6_isDigit_17 : decode cX6_isDigit 17 = .ok (.ireturn, 1) := by decide +kernel
theorem dJ6_bitCount_0f7a4_0 : decode cJ6_bitCount_0f7a4 0 = .ok (.iload_n 0, 1) := by decide +kernel
theorem dJ6_bitCount_0f7a4_1 : decode cJ6_bitCount_0f7a4 1 = .ok (.iload_n 0, 1) := by decide +kernel
theorem dJ6_bitCount_0f7a4_2 : decode cJ6_bitCount_0f7a4 2 = .ok (.iconst 1, 1) := by decide +kernel
theorem dJ6_bitCount_0f7a4_3 : decode cJ6_bitCount_0f7a4 3 = .ok (.iushr, 1) := by decide +kernel
theorem dJ6_bitCount_0f7a4_4 : decode cJ6_bitCount_0f7a4 4 = .ok (.ldc_w 265, 3) := by decide +kernel
theorem dJ6_bitCount_0f7a4_7 : decode cJ6_bitCount_0f7a4 7 = .ok (.iand, 1) := by decide +kernel
theorem dJ6_bitCount_0f7a4_8 : decode cJ6_bitCount_0f7a4 8 = .ok (.isub, 1) := by decide +kernel
theorem dJ6_bitCount_0f7a4_9 : decode cJ6_bitCount_0f7a4 9 = .ok (.istore_n 0, 1) := by decide +kernel
theorem dJ6_bitCount_0f7a4_10 : decode cJ6_bitCount_0f7a4 10 = .ok (.iload_n 0, 1) := by decide +kernel
theorem dJ6_bitCount_0f7a4_11 : decode cJ6_bitCount_0f7a4 11 = .ok (.ldc_w 266, 3) := by decide +kernel
theorem dJ6_bitCount_0f7a4_14 : decode cJ6_bitCount_0f7a4 14 = .ok (.iand, 1) := by decide +kernel
theorem dJ6_bitCount_0f7a4_15 : decode cJ6_bitCount_0f7a4 15 = .ok (.iload_n 0, 1) := by decide +kernel
theorem dJ6_bitCount_0f7a4_16 : decode cJ6_bitCount_0f7a4 16 = .ok (.iconst 2, 1) := by decide +kernel
theorem dJ6_bitCount_0f7a4_17 : decode cJ6_bitCount_0f7a4 17 = .ok (.iushr, 1) := by decide +kernel
theorem dJ6_bitCount_0f7a4_18 : decode cJ6_bitCount_0f7a4 18 = .ok (.ldc_w 266, 3) := by decide +kernel
theorem dJ6_bitCount_0f7a4_21 : decode cJ6_bitCount_0f7a4 21 = .ok (.iand, 1) := by decide +kernel
theorem dJ6_bitCount_0f7a4_22 : decode cJ6_bitCount_0f7a4 22 = .ok (.iadd, 1) := by decide +kernel
theorem dJ6_bitCount_0f7a4_23 : decode cJ6_bitCount_0f7a4 23 = .ok (.istore_n 0, 1) := by decide +kernel
theorem dJ6_bitCount_0f7a4_24 : decode cJ6_bitCount_0f7a4 24 = .ok (.iload_n 0, 1) := by decide +kernel
theorem dJ6_bitCount_0f7a4_25 : decode cJ6_bitCount_0f7a4 25 = .ok (.iload_n 0, 1) := by decide +kernel
theorem dJ6_bitCount_0f7a4_26 : decode cJ6_bitCount_0f7a4 26 = .ok (.iconst 4, 1) := by decide +kernel
theorem dJ6_bitCount_0f7a4_27 : decode cJ6_bitCount_0f7a4 27 = .ok (.iushr, 1) := by decide +kernel
theorem dJ6_bitCount_0f7a4_28 : decode cJ6_bitCount_0f7a4 28 = .ok (.iadd, 1) := by decide +kernel
theorem dJ6_bitCount_0f7a4_29 : decode cJ6_bitCount_0f7a4 29 = .ok (.ldc_w 267, 3) := by decide +kernel
theorem dJ6_bitCount_0f7a4_32 : decode cJ6_bitCount_0f7a4 32 = .ok (.iand, 1) := by decide +kernel
theorem dJ6_bitCount_0f7a4_33 : decode cJ6_bitCount_0f7a4 33 = .ok (.istore_n 0, 1) := by decide +kernel
theorem dJ6_bitCount_0f7a4_34 : decode cJ6_bitCount_0f7a4 34 = .ok (.iload_n 0, 1) := by decide +kernel
theorem dJ6_bitCount_0f7a4_35 : decode cJ6_bitCount_0f7a4 35 = .ok (.iload_n 0, 1) := by decide +kernel
theorem dJ6_bitCount_0f7a4_36 : decode cJ6_bitCount_0f7a4 36 = .ok (.bipush 8, 2) := by decide +kernel
theorem dJ6_bitCount_0f7a4_38 : decode cJ6_bitCount_0f7a4 38 = .ok (.iushr, 1) := by decide +kernel
theorem dJ6_bitCount_0f7a4_39 : decode cJ6_bitCount_0f7a4 39 = .ok (.iadd, 1) := by decide +kernel
theorem dJ6_bitCount_0f7a4_40 : decode cJ6_bitCount_0f7a4 40 = .ok (.istore_n 0, 1) := by decide +kernel
theorem dJ6_bitCount_0f7a4_41 : decode cJ6_bitCount_0f7a4 41 = .ok (.iload_n 0, 1) := by decide +kernel
theorem dJ6_bitCount_0f7a4_42 : decode cJ6_bitCount_0f7a4 42 = .ok (.iload_n 0, 1) := by decide +kernel
theorem dJ6_bitCount_0f7a4_43 : decode cJ6_bitCount_0f7a4 43 = .ok (.bipush 16, 2) := by decide +kernel
theorem dJ6_bitCount_0f7a4_45 : decode cJ6_bitCount_0f7a4 45 = .ok (.iushr, 1) := by decide +kernel
theorem dJ6_bitCount_0f7a4_46 : decode cJ6_bitCount_0f7a4 46 = .ok (.iadd, 1) := by decide +kernel
theorem dJ6_bitCount_0f7a4_47 : decode cJ6_bitCount_0f7a4 47 = .ok (.istore_n 0, 1) := by decide +kernel
theorem dJ6_bitCount_0f7a4_48 : decode cJ6_bitCount_0f7a4 48 = .ok (.iload_n 0, 1) := by decide +kernel
theorem dJ6_bitCount_0f7a4_49 : decode cJ6_bitCount_0f7a4 49 = .ok (.bipush 63, 2) := by decide +kernel
theorem dJ6_bitCount_0f7a4_51 : decode cJ6_bitCount_0f7a4 51 = .ok (.iand, 1) := by decide +kernel
theorem dJ6_bitCount_0f7a4_52 : decode cJ6_bitCount_0f7a4 52 = .ok (.ireturn, 1) := by decide +kernel
theorem dJ9_max_7cf53_0 : decode cJ9_max_7cf53 0 = .ok (.iload_n 0, 1) := by decide +kernel
theorem dJ9_max_7cf53_1 : decode cJ9_max_7cf53 1 = .ok (.iload_n 1, 1) := by decide +kernel
theorem dJ9_max_7cf53_2 : decode cJ9_max_7cf53 2 = .ok (.if_icmp .lt 7, 3) := by decide +kernel
theorem dJ9_max_7cf53_5 : decode cJ9_max_7cf53 5 = .ok (.iload_n 0, 1) := by decide +kernel
theorem dJ9_max_7cf53_6 : decode cJ9_max_7cf53 6 = .ok (.goto 4, 3) := by decide +kernel
theorem dJ9_max_7cf53_9 : decode cJ9_max_7cf53 9 = .ok (.iload_n 1, 1) := by decide +kernel
theorem dJ9_max_7cf53_10 : decode cJ9_max_7cf53 10 = .ok (.ireturn, 1) := by decide +kernel
theorem dJ9_min_7cf53_0 : decode cJ9_min_7cf53 0 = .ok (.iload_n 0, 1) := by decide +kernel
theorem dJ9_min_7cf53_1 : decode cJ9_min_7cf53 1 = .ok (.iload_n 1, 1) := by decide +kernel
theorem dJ9_min_7cf53_2 : decode cJ9_min_7cf53 2 = .ok (.if_icmp .gt 7, 3) := by decide +kernel
theorem dJ9_min_7cf53_5 : decode cJ9_min_7cf53 5 = .ok (.iload_n 0, 1) := by decide +kernel
theorem dJ9_min_7cf53_6 : decode cJ9_min_7cf53 6 = .ok (.goto 4, 3) := by decide +kernel
theorem dJ9_min_7cf53_9 : decode cJ9_min_7cf53 9 = .ok (.iload_n 1, 1) := by decide +kernel
theorem dJ9_min_7cf53_10 : decode cJ9_min_7cf53 10 = .ok (.ireturn, 1) := by decide +kernel
