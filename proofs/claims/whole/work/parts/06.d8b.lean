theorem dX8_undo_10 : decode cX8_undo 10 = .ok (.aload_n 0, 1) := by decide +kernel
theorem dX8_undo_11 : decode cX8_undo 11 = .ok (.dup, 1) := by decide +kernel
theorem dX8_undo_12 : decode cX8_undo 12 = .ok (.getfield 92, 3) := by decide +kernel
theorem dX8_undo_15 : decode cX8_undo 15 = .ok (.iconst 1, 1) := by decide +kernel
theorem dX8_undo_16 : decode cX8_undo 16 = .ok (.isub, 1) := by decide +kernel
theorem dX8_undo_17 : decode cX8_undo 17 = .ok (.putfield 92, 3) := by decide +kernel
theorem dX8_undo_20 : decode cX8_undo 20 = .ok (.iconst 0, 1) := by decide +kernel
theorem dX8_undo_21 : decode cX8_undo 21 = .ok (.istore_n 1, 1) := by decide +kernel
theorem dX8_undo_22 : decode cX8_undo 22 = .ok (.iload_n 1, 1) := by decide +kernel
theorem dX8_undo_23 : decode cX8_undo 23 = .ok (.bipush 51, 2) := by decide +kernel
theorem dX8_undo_25 : decode cX8_undo 25 = .ok (.if_icmp .ge 29, 3) := by decide +kernel
theorem dX8_undo_28 : decode cX8_undo 28 = .ok (.aload_n 0, 1) := by decide +kernel
theorem dX8_undo_29 : decode cX8_undo 29 = .ok (.getfield 19, 3) := by decide +kernel
theorem dX8_undo_32 : decode cX8_undo 32 = .ok (.iload_n 1, 1) := by decide +kernel
theorem dX8_undo_33 : decode cX8_undo 33 = .ok (.aload_n 0, 1) := by decide +kernel
theorem dX8_undo_34 : decode cX8_undo 34 = .ok (.getfield 22, 3) := by decide +kernel
theorem dX8_undo_37 : decode cX8_undo 37 = .ok (.bipush 51, 2) := by decide +kernel
theorem dX8_undo_39 : decode cX8_undo 39 = .ok (.aload_n 0, 1) := by decide +kernel
theorem dX8_undo_40 : decode cX8_undo 40 = .ok (.getfield 92, 3) := by decide +kernel
theorem dX8_undo_43 : decode cX8_undo 43 = .ok (.imul, 1) := by decide +kernel
theorem dX8_undo_44 : decode cX8_undo 44 = .ok (.iload_n 1, 1) := by decide +kernel
theorem dX8_undo_45 : decode cX8_undo 45 = .ok (.iadd, 1) := by decide +kernel
theorem dX8_undo_46 : decode cX8_undo 46 = .ok (.iaload, 1) := by decide +kernel
theorem dX8_undo_47 : decode cX8_undo 47 = .ok (.iastore, 1) := by decide +kernel
theorem dX8_undo_48 : decode cX8_undo 48 = .ok (.iinc 1 1, 3) := by decide +kernel
theorem dX8_undo_51 : decode cX8_undo 51 = .ok (.goto (-29), 3) := by decide +kernel
theorem dX8_undo_54 : decode cX8_undo 54 = .ok (.aload_n 0, 1) := by decide +kernel
theorem dX8_undo_55 : decode cX8_undo 55 = .ok (.getfield 92, 3) := by decide +kernel
theorem dX8_undo_58 : decode cX8_undo 58 = .ok (.ireturn, 1) := by decide +kernel
theorem dX8_remembers_0 : decode cX8_remembers 0 = .ok (.iconst 0, 1) := by decide +kernel
theorem dX8_remembers_1 : decode cX8_remembers 1 = .ok (.istore_n 1, 1) := by decide +kernel
theorem dX8_remembers_2 : decode cX8_remembers 2 = .ok (.iload_n 1, 1) := by decide +kernel
theorem dX8_remembers_3 : decode cX8_remembers 3 = .ok (.bipush 51, 2) := by decide +kernel
theorem dX8_remembers_5 : decode cX8_remembers 5 = .ok (.if_icmp .ge 21, 3) := by decide +kernel
theorem dX8_remembers_8 : decode cX8_remembers 8 = .ok (.aload_n 0, 1) := by decide +kernel
theorem dX8_remembers_9 : decode cX8_remembers 9 = .ok (.getfield 38, 3) := by decide +kernel
theorem dX8_remembers_12 : decode cX8_remembers 12 = .ok (.iload_n 1, 1) := by decide +kernel
theorem dX8_remembers_13 : decode cX8_remembers 13 = .ok (.aload_n 0, 1) := by decide +kernel
theorem dX8_remembers_14 : decode cX8_remembers 14 = .ok (.getfield 19, 3) := by decide +kernel
theorem dX8_remembers_17 : decode cX8_remembers 17 = .ok (.iload_n 1, 1) := by decide +kernel
theorem dX8_remembers_18 : decode cX8_remembers 18 = .ok (.iaload, 1) := by decide +kernel
theorem dX8_remembers_19 : decode cX8_remembers 19 = .ok (.iastore, 1) := by decide +kernel
theorem dX8_remembers_20 : decode cX8_remembers 20 = .ok (.iinc 1 1, 3) := by decide +kernel
theorem dX8_remembers_23 : decode cX8_remembers 23 = .ok (.goto (-21), 3) := by decide +kernel
theorem dX8_remembers_26 : decode cX8_remembers 26 = .ok (.return_, 1) := by decide +kernel
theorem dX8_lets_0 : decode cX8_lets 0 = .ok (.iconst 0, 1) := by decide +kernel
theorem dX8_lets_1 : decode cX8_lets 1 = .ok (.istore_n 1, 1) := by decide +kernel
theorem dX8_lets_2 : decode cX8_lets 2 = .ok (.iload_n 1, 1) := by decide +kernel
theorem dX8_lets_3 : decode cX8_lets 3 = .ok (.bipush 51, 2) := by decide +kernel
theorem dX8_lets_5 : decode cX8_lets 5 = .ok (.if_icmp .ge 21, 3) := by decide +kernel
theorem dX8_lets_8 : decode cX8_lets 8 = .ok (.aload_n 0, 1) := by decide +kernel
theorem dX8_lets_9 : decode cX8_lets 9 = .ok (.getfield 19, 3) := by decide +kernel
theorem dX8_lets_12 : decode cX8_lets 12 = .ok (.iload_n 1, 1) := by decide +kernel
theorem dX8_lets_13 : decode cX8_lets 13 = .ok (.aload_n 0, 1) := by decide +kernel
theorem dX8_lets_14 : decode cX8_lets 14 = .ok (.getfield 38, 3) := by decide +kernel
theorem dX8_lets_17 : decode cX8_lets 17 = .ok (.iload_n 1, 1) := by decide +kernel
theorem dX8_lets_18 : decode cX8_lets 18 = .ok (.iaload, 1) := by decide +kernel
theorem dX8_lets_19 : decode cX8_lets 19 = .ok (.iastore, 1) := by decide +kernel
theorem dX8_lets_20 : decode cX8_lets 20 = .ok (.iinc 1 1, 3) := by decide +kernel
theorem dX8_lets_23 : decode cX8_lets 23 = .ok (.goto (-21), 3) := by decide +kernel
theorem dX8_lets_26 : decode cX8_lets 26 = .ok (.return_, 1) := by decide +kernel
theorem dX8_lasts_0 : decode cX8_lasts 0 = .ok (.aload_n 0, 1) := by decide +kernel
theorem dX8_lasts_1 : decode cX8_lasts 1 = .ok (.iload_n 1, 1) := by decide +kernel
theorem dX8_lasts_2 : decode cX8_lasts 2 = .ok (.invokevirtual 104, 3) := by decide +kernel
theorem dX8_lasts_5 : decode cX8_lasts 5 = .ok (.ifCond .ne 5, 3) := by decide +kernel
theorem dX8_lasts_8 : decode cX8_lasts 8 = .ok (.iconst (-1), 1) := by decide +kernel
theorem dX8_lasts_9 : decode cX8_lasts 9 = .ok (.ireturn, 1) := by decide +kernel
theorem dX8_lasts_10 : decode cX8_lasts 10 = .ok (.aload_n 0, 1) := by decide +kernel
theorem dX8_lasts_11 : decode cX8_lasts 11 = .ok (.invokevirtual 130, 3) := by decide +kernel
theorem dX8_lasts_14 : decode cX8_lasts 14 = .ok (.bipush (-9), 2) := by decide +kernel
theorem dX8_lasts_16 : decode cX8_lasts 16 = .ok (.istore_n 2, 1) := by decide +kernel
theorem dX8_lasts_17 : decode cX8_lasts 17 = .ok (.iconst 0, 1) := by decide +kernel
theorem dX8_lasts_18 : decode cX8_lasts 18 = .ok (.istore_n 3, 1) := by decide +kernel
theorem dX8_lasts_19 : decode cX8_lasts 19 = .ok (.iload_n 3, 1) := by decide +kernel
theorem dX8_lasts_20 : decode cX8_lasts 20 = .ok (.sipush 401, 3) := by decide +kernel
theorem dX8_lasts_23 : decode cX8_lasts 23 = .ok (.if_icmp .ge 35, 3) := by decide +kernel
theorem dX8_lasts_26 : decode cX8_lasts 26 = .ok (.iload_n 2, 1) := by decide +kernel
theorem dX8_lasts_27 : decode cX8_lasts 27 = .ok (.bipush (-9), 2) := by decide +kernel
theorem dX8_lasts_29 : decode cX8_lasts 29 = .ok (.if_icmp .ne 29, 3) := by decide +kernel
theorem dX8_lasts_32 : decode cX8_lasts 32 = .ok (.aload_n 0, 1) := by decide +kernel
theorem dX8_lasts_33 : decode cX8_lasts 33 = .ok (.iload_n 1, 1) := by decide +kernel
theorem dX8_lasts_34 : decode cX8_lasts 34 = .ok (.invokevirtual 101, 3) := by decide +kernel
theorem dX8_lasts_37 : decode cX8_lasts 37 = .ok (.ifCond .eq 8, 3) := by decide +kernel
theorem dX8_lasts_40 : decode cX8_lasts 40 = .ok (.bipush (-9), 2) := by decide +kernel
theorem dX8_lasts_42 : decode cX8_lasts 42 = .ok (.goto 4, 3) := by decide +kernel
theorem dX8_lasts_45 : decode cX8_lasts 45 = .ok (.iload_n 3, 1) := by decide +kernel
theorem dX8_lasts_46 : decode cX8_lasts 46 = .ok (.istore_n 2, 1) := by decide +kernel
theorem dX8_lasts_47 : decode cX8_lasts 47 = .ok (.aload_n 0, 1) := by decide +kernel
theorem dX8_lasts_48 : decode cX8_lasts 48 = .ok (.invokevirtual 127, 3) := by decide +kernel
theorem dX8_lasts_51 : decode cX8_lasts 51 = .ok (.pop, 1) := by decide +kernel
theorem dX8_lasts_52 : decode cX8_lasts 52 = .ok (.iinc 3 1, 3) := by decide +kernel
theorem dX8_lasts_55 : decode cX8_lasts 55 = .ok (.goto (-36), 3) := by decide +kernel
theorem dX8_lasts_58 : decode cX8_lasts 58 = .ok (.aload_n 0, 1) := by decide +kernel
theorem dX8_lasts_59 : decode cX8_lasts 59 = .ok (.invokevirtual 133, 3) := by decide +kernel
theorem dX8_lasts_62 : decode cX8_lasts 62 = .ok (.iload_n 2, 1) := by decide +kernel
theorem dX8_lasts_63 : decode cX8_lasts 63 = .ok (.ireturn, 1) := by decide +kernel
theorem dX8_inSprings_0 : decode cX8_inSprings 0 = .ok (.iload_n 1, 1) := by decide +kernel
theorem dX8_inSprings_1 : decode cX8_inSprings 1 = .ok (.iconst 0, 1) := by decide +kernel
theorem dX8_inSprings_2 : decode cX8_inSprings 2 = .ok (.sipush 200, 3) := by decide +kernel
theorem dX8_inSprings_5 : decode cX8_inSprings 5 = .ok (.invokestatic 51, 3) := by decide +kernel
theorem dX8_inSprings_8 : decode cX8_inSprings 8 = .ok (.ifCond .eq 16, 3) := by decide +kernel
theorem dX8_inSprings_11 : decode cX8_inSprings 11 = .ok (.iload_n 2, 1) := by decide +kernel
theorem dX8_inSprings_12 : decode cX8_inSprings 12 = .ok (.iconst (-1), 1) := by decide +kernel
theorem dX8_inSprings_13 : decode cX8_inSprings 13 = .ok (.if_icmp .eq 13, 3) := by decide +kernel
theorem dX8_inSprings_16 : decode cX8_inSprings 16 = .ok (.aload_n 0, 1) := by decide +kernel
theorem dX8_inSprings_17 : decode cX8_inSprings 17 = .ok (.iload_n 2, 1) := by decide +kernel
theorem dX8_inSprings_18 : decode cX8_inSprings 18 = .ok (.invokevirtual 104, 3) := by decide +kernel
theorem dX8_inSprings_21 : decode cX8_inSprings 21 = .ok (.ifCond .ne 5, 3) := by decide +kernel
theorem dX8_inSprings_24 : decode cX8_inSprings 24 = .ok (.iconst (-1), 1) := by decide +kernel
theorem dX8_inSprings_25 : decode cX8_inSprings 25 = .ok (.ireturn, 1) := by decide +kernel
theorem dX8_inSprings_26 : decode cX8_inSprings 26 = .ok (.aload_n 0, 1) := by decide +kernel
theorem dX8_inSprings_27 : decode cX8_inSprings 27 = .ok (.invokevirtual 130, 3) := by decide +kernel
theorem dX8_inSprings_30 : decode cX8_inSprings 30 = .ok (.iconst 0, 1) := by decide +kernel
theorem dX8_inSprings_31 : decode cX8_inSprings 31 = .ok (.istore_n 3, 1) := by decide +kernel
theorem dX8_inSprings_32 : decode cX8_inSprings 32 = .ok (.iload_n 3, 1) := by decide +kernel
theorem dX8_inSprings_33 : decode cX8_inSprings 33 = .ok (.iload_n 1, 1) := by decide +kernel
theorem dX8_inSprings_34 : decode cX8_inSprings 34 = .ok (.if_icmp .ge 14, 3) := by decide +kernel
theorem dX8_inSprings_37 : decode cX8_inSprings 37 = .ok (.aload_n 0, 1) := by decide +kernel
theorem dX8_inSprings_38 : decode cX8_inSprings 38 = .ok (.invokevirtual 127, 3) := by decide +kernel
theorem dX8_inSprings_41 : decode cX8_inSprings 41 = .ok (.pop, 1) := by decide +kernel
theorem dX8_inSprings_42 : decode cX8_inSprings 42 = .ok (.iinc 3 1, 3) := by decide +kernel
theorem dX8_inSprings_45 : decode cX8_inSprings 45 = .ok (.goto (-13), 3) := by decide +kernel
theorem dX8_inSprings_48 : decode cX8_inSprings 48 = .ok (.iload_n 2, 1) := by decide +kernel
theorem dX8_inSprings_49 : decode cX8_inSprings 49 = .ok (.ifCond .ge 13, 3) := by decide +kernel
theorem dX8_inSprings_52 : decode cX8_inSprings 52 = .ok (.aload_n 0, 1) := by decide +kernel
theorem dX8_inSprings_53 : decode cX8_inSprings 53 = .ok (.invokevirtual 111, 3) := by decide +kernel
theorem dX8_inSprings_56 : decode cX8_inSprings 56 = .ok (.invokestatic 136, 3) := by decide +kernel
theorem dX8_inSprings_59 : decode cX8_inSprings 59 = .ok (.goto 8, 3) := by decide +kernel
theorem dX8_inSprings_62 : decode cX8_inSprings 62 = .ok (.aload_n 0, 1) := by decide +kernel
theorem dX8_inSprings_63 : decode cX8_inSprings 63 = .ok (.iload_n 2, 1) := by decide +kernel
theorem dX8_inSprings_64 : decode cX8_inSprings 64 = .ok (.invokevirtual 98, 3) := by decide +kernel
theorem dX8_inSprings_67 : decode cX8_inSprings 67 = .ok (.istore_n 3, 1) := by decide +kernel
theorem dX8_inSprings_68 : decode cX8_inSprings 68 = .ok (.aload_n 0, 1) := by decide +kernel
theorem dX8_inSprings_69 : decode cX8_inSprings 69 = .ok (.invokevirtual 133, 3) := by decide +kernel
theorem dX8_inSprings_72 : decode cX8_inSprings 72 = .ok (.iload_n 3, 1) := by decide +kernel
theorem dX8_inSprings_73 : decode cX8_inSprings 73 = .ok (.ireturn, 1) := by decide +kernel
theorem dX8_fire_0 : decode cX8_fire 0 = .ok (.iload_n 1, 1) := by decide +kernel
theorem dX8_fire_1 : decode cX8_fire 1 = .ok (.iconst 1, 1) := by decide +kernel
theorem dX8_fire_2 : decode cX8_fire 2 = .ok (.sipush 400, 3) := by decide +kernel
theorem dX8_fire_5 : decode cX8_fire 5 = .ok (.invokestatic 51, 3) := by decide +kernel
theorem dX8_fire_8 : decode cX8_fire 8 = .ok (.ifCond .eq 12, 3) := by decide +kernel
theorem dX8_fire_11 : decode cX8_fire 11 = .ok (.iload_n 2, 1) := by decide +kernel
theorem dX8_fire_12 : decode cX8_fire 12 = .ok (.iconst 0, 1) := by decide +kernel
theorem dX8_fire_13 : decode cX8_fire 13 = .ok (.iconst 1, 1) := by decide +kernel
theorem dX8_fire_14 : decode cX8_fire 14 = .ok (.invokestatic 51, 3) := by decide +kernel
theorem dX8_fire_17 : decode cX8_fire 17 = .ok (.ifCond .ne 5, 3) := by decide +kernel
theorem dX8_fire_20 : decode cX8_fire 20 = .ok (.iconst (-1), 1) := by decide +kernel
theorem dX8_fire_21 : decode cX8_fire 21 = .ok (.ireturn, 1) := by decide +kernel
theorem dX8_fire_22 : decode cX8_fire 22 = .ok (.bipush (-9), 2) := by decide +kernel
theorem dX8_fire_24 : decode cX8_fire 24 = .ok (.istore_n 3, 1) := by decide +kernel
theorem dX8_fire_25 : decode cX8_fire 25 = .ok (.bipush (-9), 2) := by decide +kernel
theorem dX8_fire_27 : decode cX8_fire 27 = .ok (.istore 4, 2) := by decide +kernel
theorem dX8_fire_29 : decode cX8_fire 29 = .ok (.iconst 0, 1) := by decide +kernel
theorem dX8_fire_30 : decode cX8_fire 30 = .ok (.istore 5, 2) := by decide +kernel
theorem dX8_fire_32 : decode cX8_fire 32 = .ok (.iconst 0, 1) := by decide +kernel
theorem dX8_fire_33 : decode cX8_fire 33 = .ok (.istore 6, 2) := by decide +kernel
theorem dX8_fire_35 : decode cX8_fire 35 = .ok (.iload 6, 2) := by decide +kernel
theorem dX8_fire_37 : decode cX8_fire 37 = .ok (.iconst 1, 1) := by decide +kernel
theorem dX8_fire_38 : decode cX8_fire 38 = .ok (.aload_n 0, 1) := by decide +kernel
theorem dX8_fire_39 : decode cX8_fire 39 = .ok (.getfield 13, 3) := by decide +kernel
theorem dX8_fire_42 : decode cX8_fire 42 = .ok (.iconst 0, 1) := by decide +kernel
theorem dX8_fire_43 : decode cX8_fire 43 = .ok (.iaload, 1) := by decide +kernel
theorem dX8_fire_44 : decode cX8_fire 44 = .ok (.ishl, 1) := by decide +kernel
theorem dX8_fire_45 : decode cX8_fire 45 = .ok (.if_icmp .ge 152, 3) := by decide +kernel
theorem dX8_fire_48 : decode cX8_fire 48 = .ok (.iconst 0, 1) := by decide +kernel
theorem dX8_fire_49 : decode cX8_fire 49 = .ok (.istore 7, 2) := by decide +kernel
theorem dX8_fire_51 : decode cX8_fire 51 = .ok (.iconst 0, 1) := by decide +kernel
theorem dX8_fire_52 : decode cX8_fire 52 = .ok (.istore 8, 2) := by decide +kernel
theorem dX8_fire_54 : decode cX8_fire 54 = .ok (.iload 8, 2) := by decide +kernel
theorem dX8_fire_56 : decode cX8_fire 56 = .ok (.aload_n 0, 1) := by decide +kernel
theorem dX8_fire_57 : decode cX8_fire 57 = .ok (.getfield 13, 3) := by decide +kernel
theorem dX8_fire_60 : decode cX8_fire 60 = .ok (.iconst 0, 1) := by decide +kernel
theorem dX8_fire_61 : decode cX8_fire 61 = .ok (.iaload, 1) := by decide +kernel
theorem dX8_fire_62 : decode cX8_fire 62 = .ok (.if_icmp .ge 35, 3) := by decide +kernel
theorem dX8_fire_65 : decode cX8_fire 65 = .ok (.iload 7, 2) := by decide +kernel
theorem dX8_fire_67 : decode cX8_fire 67 = .ok (.iload 6, 2) := by decide +kernel
theorem dX8_fire_69 : decode cX8_fire 69 = .ok (.iload 8, 2) := by decide +kernel
theorem dX8_fire_71 : decode cX8_fire 71 = .ok (.ishr, 1) := by decide +kernel
theorem dX8_fire_72 : decode cX8_fire 72 = .ok (.iconst 1, 1) := by decide +kernel
theorem dX8_fire_73 : decode cX8_fire 73 = .ok (.iand, 1) := by decide +kernel
theorem dX8_fire_74 : decode cX8_fire 74 = .ok (.iconst 1, 1) := by decide +kernel
theorem dX8_fire_75 : decode cX8_fire 75 = .ok (.if_icmp .ne 12, 3) := by decide +kernel
theorem dX8_fire_78 : decode cX8_fire 78 = .ok (.aload_n 0, 1) := by decide +kernel
theorem dX8_fire_79 : decode cX8_fire 79 = .ok (.iload 8, 2) := by decide +kernel
theorem dX8_fire_81 : decode cX8_fire 81 = .ok (.invokevirtual 98, 3) := by decide +kernel
theorem dX8_fire_84 : decode cX8_fire 84 = .ok (.goto 4, 3) := by decide +kernel
theorem dX8_fire_87 : decode cX8_fire 87 = .ok (.iconst 0, 1) := by decide +kernel
theorem dX8_fire_88 : decode cX8_fire 88 = .ok (.iadd, 1) := by decide +kernel
theorem dX8_fire_89 : decode cX8_fire 89 = .ok (.istore 7, 2) := by decide +kernel
theorem dX8_fire_91 : decode cX8_fire 91 = .ok (.iinc 8 1, 3) := by decide +kernel
theorem dX8_fire_94 : decode cX8_fire 94 = .ok (.goto (-40), 3) := by decide +kernel
theorem dX8_fire_97 : decode cX8_fire 97 = .ok (.aload_n 0, 1) := by decide +kernel
theorem dX8_fire_98 : decode cX8_fire 98 = .ok (.invokevirtual 111, 3) := by decide +kernel
theorem dX8_fire_101 : decode cX8_fire 101 = .ok (.iload 6, 2) := by decide +kernel
theorem dX8_fire_103 : decode cX8_fire 103 = .ok (.iconst (-1), 1) := by decide +kernel
theorem dX8_fire_104 : decode cX8_fire 104 = .ok (.ixor, 1) := by decide +kernel
theorem dX8_fire_105 : decode cX8_fire 105 = .ok (.iand, 1) := by decide +kernel
theorem dX8_fire_106 : decode cX8_fire 106 = .ok (.invokestatic 136, 3) := by decide +kernel
theorem dX8_fire_109 : decode cX8_fire 109 = .ok (.istore 8, 2) := by decide +kernel
theorem dX8_fire_111 : decode cX8_fire 111 = .ok (.iload 7, 2) := by decide +kernel
theorem dX8_fire_113 : decode cX8_fire 113 = .ok (.iload_n 1, 1) := by decide +kernel
theorem dX8_fire_114 : decode cX8_fire 114 = .ok (.if_icmp .lt 34, 3) := by decide +kernel
theorem dX8_fire_117 : decode cX8_fire 117 = .ok (.iload_n 3, 1) := by decide +kernel
theorem dX8_fire_118 : decode cX8_fire 118 = .ok (.bipush (-9), 2) := by decide +kernel
theorem dX8_fire_120 : decode cX8_fire 120 = .ok (.if_icmp .eq 24, 3) := by decide +kernel
theorem dX8_fire_123 : decode cX8_fire 123 = .ok (.iload 8, 2) := by decide +kernel
theorem dX8_fire_125 : decode cX8_fire 125 = .ok (.iload 4, 2) := by decide +kernel
theorem dX8_fire_127 : decode cX8_fire 127 = .ok (.if_icmp .gt 17, 3) := by decide +kernel
theorem dX8_fire_130 : decode cX8_fire 130 = .ok (.iload 8, 2) := by decide +kernel
theorem dX8_fire_132 : decode cX8_fire 132 = .ok (.iload 4, 2) := by decide +kernel
theorem dX8_fire_134 : decode cX8_fire 134 = .ok (.if_icmp .ne 14, 3) := by decide +kernel
theorem dX8_fire_137 : decode cX8_fire 137 = .ok (.iload 7, 2) := by decide +kernel
theorem dX8_fire_139 : decode cX8_fire 139 = .ok (.iload 5, 2) := by decide +kernel
theorem dX8_fire_141 : decode cX8_fire 141 = .ok (.if_icmp .ge 7, 3) := by decide +kernel
theorem dX8_fire_144 : decode cX8_fire 144 = .ok (.iconst 1, 1) := by decide +kernel
theorem dX8_fire_145 : decode cX8_fire 145 = .ok (.goto 4, 3) := by decide +kernel
theorem dX8_fire_148 : decode cX8_fire 148 = .ok (.iconst 0, 1) := by decide +kernel
theorem dX8_fire_149 : decode cX8_fire 149 = .ok (.istore 9, 2) := by decide +kernel
theorem dX8_fire_151 : decode cX8_fire 151 = .ok (.iload 9, 2) := by decide +kernel
theorem dX8_fire_153 : decode cX8_fire 153 = .ok (.ifCond .eq 8, 3) := by decide +kernel
theorem dX8_fire_156 : decode cX8_fire 156 = .ok (.iload 6, 2) := by decide +kernel
theorem dX8_fire_158 : decode cX8_fire 158 = .ok (.goto 4, 3) := by decide +kernel
theorem dX8_fire_161 : decode cX8_fire 161 = .ok (.iload_n 3, 1) := by decide +kernel
theorem dX8_fire_162 : decode cX8_fire 162 = .ok (.istore_n 3, 1) := by decide +kernel
theorem dX8_fire_163 : decode cX8_fire 163 = .ok (.iload 9, 2) := by decide +kernel
theorem dX8_fire_165 : decode cX8_fire 165 = .ok (.ifCond .eq 8, 3) := by decide +kernel
theorem dX8_fire_168 : decode cX8_fire 168 = .ok (.iload 8, 2) := by decide +kernel
theorem dX8_fire_170 : decode cX8_fire 170 = .ok (.goto 5, 3) := by decide +kernel
theorem dX8_fire_173 : decode cX8_fire 173 = .ok (.iload 4, 2) := by decide +kernel
theorem dX8_fire_175 : decode cX8_fire 175 = .ok (.istore 4, 2) := by decide +kernel
theorem dX8_fire_177 : decode cX8_fire 177 = .ok (.iload 9, 2) := by decide +kernel
theorem dX8_fire_179 : decode cX8_fire 179 = .ok (.ifCond .eq 8, 3) := by decide +kernel
theorem dX8_fire_182 : decode cX8_fire 182 = .ok (.iload 7, 2) := by decide +kernel
theorem dX8_fire_184 : decode cX8_fire 184 = .ok (.goto 5, 3) := by decide +kernel
theorem dX8_fire_187 : decode cX8_fire 187 = .ok (.iload 5, 2) := by decide +kernel
theorem dX8_fire_189 : decode cX8_fire 189 = .ok (.istore 5, 2) := by decide +kernel
theorem dX8_fire_191 : decode cX8_fire 191 = .ok (.iinc 6 1, 3) := by decide +kernel
theorem dX8_fire_194 : decode cX8_fire 194 = .ok (.goto (-159), 3) := by decide +kernel
theorem dX8_fire_197 : decode cX8_fire 197 = .ok (.iload_n 2, 1) := by decide +kernel
theorem dX8_fire_198 : decode cX8_fire 198 = .ok (.ifCond .ne 7, 3) := by decide +kernel
theorem dX8_fire_201 : decode cX8_fire 201 = .ok (.iload_n 3, 1) := by decide +kernel
theorem dX8_fire_202 : decode cX8_fire 202 = .ok (.goto 5, 3) := by decide +kernel
theorem dX8_fire_205 : decode cX8_fire 205 = .ok (.iload 4, 2) := by decide +kernel
theorem dX8_fire_207 : decode cX8_fire 207 = .ok (.ireturn, 1) := by decide +kernel
theorem dX8_spoil_0 : decode cX8_spoil 0 = .ok (.aload_n 0, 1) := by decide +kernel
theorem dX8_spoil_1 : decode cX8_spoil 1 = .ok (.iload_n 1, 1) := by decide +kernel
theorem dX8_spoil_2 : decode cX8_spoil 2 = .ok (.invokevirtual 104, 3) := by decide +kernel
theorem dX8_spoil_5 : decode cX8_spoil 5 = .ok (.ifCond .ne 7, 3) := by decide +kernel
theorem dX8_spoil_8 : decode cX8_spoil 8 = .ok (.iconst (-1), 1) := by decide +kernel
theorem dX8_spoil_9 : decode cX8_spoil 9 = .ok (.goto 33, 3) := by decide +kernel
theorem dX8_spoil_12 : decode cX8_spoil 12 = .ok (.aload_n 0, 1) := by decide +kernel
theorem dX8_spoil_13 : decode cX8_spoil 13 = .ok (.iload_n 1, 1) := by decide +kernel
theorem dX8_spoil_14 : decode cX8_spoil 14 = .ok (.invokevirtual 101, 3) := by decide +kernel
theorem dX8_spoil_17 : decode cX8_spoil 17 = .ok (.ifCond .eq 24, 3) := by decide +kernel
theorem dX8_spoil_20 : decode cX8_spoil 20 = .ok (.aload_n 0, 1) := by decide +kernel
theorem dX8_spoil_21 : decode cX8_spoil 21 = .ok (.getfield 19, 3) := by decide +kernel
theorem dX8_spoil_24 : decode cX8_spoil 24 = .ok (.bipush 8, 2) := by decide +kernel
theorem dX8_spoil_26 : decode cX8_spoil 26 = .ok (.iload_n 1, 1) := by decide +kernel
theorem dX8_spoil_27 : decode cX8_spoil 27 = .ok (.imul, 1) := by decide +kernel
theorem dX8_spoil_28 : decode cX8_spoil 28 = .ok (.iaload, 1) := by decide +kernel
theorem dX8_spoil_29 : decode cX8_spoil 29 = .ok (.aload_n 0, 1) := by decide +kernel
theorem dX8_spoil_30 : decode cX8_spoil 30 = .ok (.getfield 13, 3) := by decide +kernel
theorem dX8_spoil_33 : decode cX8_spoil 33 = .ok (.iconst 1, 1) := by decide +kernel
theorem dX8_spoil_34 : decode cX8_spoil 34 = .ok (.iaload, 1) := by decide +kernel
theorem dX8_spoil_35 : decode cX8_spoil 35 = .ok (.isub, 1) := by decide +kernel
theorem dX8_spoil_36 : decode cX8_spoil 36 = .ok (.iconst 1, 1) := by decide +kernel
theorem dX8_spoil_37 : decode cX8_spoil 37 = .ok (.iadd, 1) := by decide +kernel
theorem dX8_spoil_38 : decode cX8_spoil 38 = .ok (.goto 4, 3) := by decide +kernel
theorem dX8_spoil_41 : decode cX8_spoil 41 = .ok (.iconst 0, 1) := by decide +kernel
theorem dX8_spoil_42 : decode cX8_spoil 42 = .ok (.ireturn, 1) := by decide +kernel
theorem dX8_mix_0 : decode cX8_mix 0 = .ok (.iload_n 1, 1) := by decide +kernel
theorem dX8_mix_1 : decode cX8_mix 1 = .ok (.iconst 1, 1) := by decide +kernel
theorem dX8_mix_2 : decode cX8_mix 2 = .ok (.bipush 60, 2) := by decide +kernel
theorem dX8_mix_4 : decode cX8_mix 4 = .ok (.invokestatic 51, 3) := by decide +kernel
theorem dX8_mix_7 : decode cX8_mix 7 = .ok (.ifCond .eq 23, 3) := by decide +kernel
theorem dX8_mix_10 : decode cX8_mix 10 = .ok (.iload_n 2, 1) := by decide +kernel
theorem dX8_mix_11 : decode cX8_mix 11 = .ok (.iconst 0, 1) := by decide +kernel
theorem dX8_mix_12 : decode cX8_mix 12 = .ok (.sipush 5940, 3) := by decide +kernel
theorem dX8_mix_15 : decode cX8_mix 15 = .ok (.invokestatic 51, 3) := by decide +kernel
theorem dX8_mix_18 : decode cX8_mix 18 = .ok (.ifCond .eq 12, 3) := by decide +kernel
theorem dX8_mix_21 : decode cX8_mix 21 = .ok (.iload_n 3, 1) := by decide +kernel
theorem dX8_mix_22 : decode cX8_mix 22 = .ok (.iconst 0, 1) := by decide +kernel
theorem dX8_mix_23 : decode cX8_mix 23 = .ok (.iconst 1, 1) := by decide +kernel
theorem dX8_mix_24 : decode cX8_mix 24 = .ok (.invokestatic 51, 3) := by decide +kernel
theorem dX8_mix_27 : decode cX8_mix 27 = .ok (.ifCond .ne 5, 3) := by decide +kernel
theorem dX8_mix_30 : decode cX8_mix 30 = .ok (.iconst (-1), 1) := by decide +kernel
theorem dX8_mix_31 : decode cX8_mix 31 = .ok (.ireturn, 1) := by decide +kernel
theorem dX8_mix_32 : decode cX8_mix 32 = .ok (.iconst 0, 1) := by decide +kernel
theorem dX8_mix_33 : decode cX8_mix 33 = .ok (.istore 4, 2) := by decide +kernel
theorem dX8_mix_35 : decode cX8_mix 35 = .ok (.bipush (-9), 2) := by decide +kernel
theorem dX8_mix_37 : decode cX8_mix 37 = .ok (.istore 5, 2) := by decide +kernel
theorem dX8_mix_39 : decode cX8_mix 39 = .ok (.aload_n 0, 1) := by decide +kernel
theorem dX8_mix_40 : decode cX8_mix 40 = .ok (.getfield 13, 3) := by decide +kernel
theorem dX8_mix_43 : decode cX8_mix 43 = .ok (.iconst 0, 1) := by decide +kernel
theorem dX8_mix_44 : decode cX8_mix 44 = .ok (.iaload, 1) := by decide +kernel
theorem dX8_mix_45 : decode cX8_mix 45 = .ok (.iconst 1, 1) := by decide +kernel
theorem dX8_mix_46 : decode cX8_mix 46 = .ok (.isub, 1) := by decide +kernel
theorem dX8_mix_47 : decode cX8_mix 47 = .ok (.istore 6, 2) := by decide +kernel
theorem dX8_mix_49 : decode cX8_mix 49 = .ok (.iload 6, 2) := by decide +kernel
theorem dX8_mix_51 : decode cX8_mix 51 = .ok (.ifCond .lt 149, 3) := by decide +kernel
theorem dX8_mix_54 : decode cX8_mix 54 = .ok (.aload_n 0, 1) := by decide +kernel
theorem dX8_mix_55 : decode cX8_mix 55 = .ok (.getfield 13, 3) := by decide +kernel
theorem dX8_mix_58 : decode cX8_mix 58 = .ok (.iconst 0, 1) := by decide +kernel
theorem dX8_mix_59 : decode cX8_mix 59 = .ok (.iaload, 1) := by decide +kernel
theorem dX8_mix_60 : decode cX8_mix 60 = .ok (.iconst 1, 1) := by decide +kernel
theorem dX8_mix_61 : decode cX8_mix 61 = .ok (.isub, 1) := by decide +kernel
theorem dX8_mix_62 : decode cX8_mix 62 = .ok (.istore 7, 2) := by decide +kernel
theorem dX8_mix_64 : decode cX8_mix 64 = .ok (.iload 7, 2) := by decide +kernel
theorem dX8_mix_66 : decode cX8_mix 66 = .ok (.iload 6, 2) := by decide +kernel
theorem dX8_mix_68 : decode cX8_mix 68 = .ok (.if_icmp .le 126, 3) := by decide +kernel
theorem dX8_mix_71 : decode cX8_mix 71 = .ok (.iload_n 1, 1) := by decide +kernel
theorem dX8_mix_72 : decode cX8_mix 72 = .ok (.iconst 1, 1) := by decide +kernel
theorem dX8_mix_73 : decode cX8_mix 73 = .ok (.isub, 1) := by decide +kernel
theorem dX8_mix_74 : decode cX8_mix 74 = .ok (.istore 8, 2) := by decide +kernel
theorem dX8_mix_76 : decode cX8_mix 76 = .ok (.iload 8, 2) := by decide +kernel
theorem dX8_mix_78 : decode cX8_mix 78 = .ok (.ifCond .le 110, 3) := by decide +kernel
theorem dX8_mix_81 : decode cX8_mix 81 = .ok (.aload_n 0, 1) := by decide +kernel
theorem dX8_mix_82 : decode cX8_mix 82 = .ok (.getfield 13, 3) := by decide +kernel
theorem dX8_mix_85 : decode cX8_mix 85 = .ok (.iconst 5, 1) := by decide +kernel
theorem dX8_mix_86 : decode cX8_mix 86 = .ok (.iload 6, 2) := by decide +kernel
theorem dX8_mix_88 : decode cX8_mix 88 = .ok (.iadd, 1) := by decide +kernel
theorem dX8_mix_89 : decode cX8_mix 89 = .ok (.iaload, 1) := by decide +kernel
theorem dX8_mix_90 : decode cX8_mix 90 = .ok (.aload_n 0, 1) := by decide +kernel
theorem dX8_mix_91 : decode cX8_mix 91 = .ok (.getfield 13, 3) := by decide +kernel
theorem dX8_mix_94 : decode cX8_mix 94 = .ok (.iconst 5, 1) := by decide +kernel
theorem dX8_mix_95 : decode cX8_mix 95 = .ok (.iload 7, 2) := by decide +kernel
theorem dX8_mix_97 : decode cX8_mix 97 = .ok (.iadd, 1) := by decide +kernel
theorem dX8_mix_98 : decode cX8_mix 98 = .ok (.iaload, 1) := by decide +kernel
theorem dX8_mix_99 : decode cX8_mix 99 = .ok (.if_icmp .eq 38, 3) := by decide +kernel
theorem dX8_mix_102 : decode cX8_mix 102 = .ok (.iload 8, 2) := by decide +kernel
theorem dX8_mix_104 : decode cX8_mix 104 = .ok (.aload_n 0, 1) := by decide +kernel
theorem dX8_mix_105 : decode cX8_mix 105 = .ok (.getfield 13, 3) := by decide +kernel
theorem dX8_mix_108 : decode cX8_mix 108 = .ok (.iconst 5, 1) := by decide +kernel
theorem dX8_mix_109 : decode cX8_mix 109 = .ok (.iload 6, 2) := by decide +kernel
theorem dX8_mix_111 : decode cX8_mix 111 = .ok (.iadd, 1) := by decide +kernel
theorem dX8_mix_112 : decode cX8_mix 112 = .ok (.iaload, 1) := by decide +kernel
theorem dX8_mix_113 : decode cX8_mix 113 = .ok (.imul, 1) := by decide +kernel
theorem dX8_mix_114 : decode cX8_mix 114 = .ok (.iload_n 1, 1) := by decide +kernel
theorem dX8_mix_115 : decode cX8_mix 115 = .ok (.iload 8, 2) := by decide +kernel
theorem dX8_mix_117 : decode cX8_mix 117 = .ok (.isub, 1) := by decide +kernel
theorem dX8_mix_118 : decode cX8_mix 118 = .ok (.aload_n 0, 1) := by decide +kernel
theorem dX8_mix_119 : decode cX8_mix 119 = .ok (.getfield 13, 3) := by decide +kernel
theorem dX8_mix_122 : decode cX8_mix 122 = .ok (.iconst 5, 1) := by decide +kernel
theorem dX8_mix_123 : decode cX8_mix 123 = .ok (.iload 7, 2) := by decide +kernel
theorem dX8_mix_125 : decode cX8_mix 125 = .ok (.iadd, 1) := by decide +kernel
theorem dX8_mix_126 : decode cX8_mix 126 = .ok (.iaload, 1) := by decide +kernel
theorem dX8_mix_127 : decode cX8_mix 127 = .ok (.imul, 1) := by decide +kernel
theorem dX8_mix_128 : decode cX8_mix 128 = .ok (.iadd, 1) := by decide +kernel
theorem dX8_mix_129 : decode cX8_mix 129 = .ok (.iload_n 2, 1) := by decide +kernel
theorem dX8_mix_130 : decode cX8_mix 130 = .ok (.if_icmp .ne 7, 3) := by decide +kernel
theorem dX8_mix_133 : decode cX8_mix 133 = .ok (.iconst 1, 1) := by decide +kernel
theorem dX8_mix_134 : decode cX8_mix 134 = .ok (.goto 4, 3) := by decide +kernel
theorem dX8_mix_137 : decode cX8_mix 137 = .ok (.iconst 0, 1) := by decide +kernel
theorem dX8_mix_138 : decode cX8_mix 138 = .ok (.istore 9, 2) := by decide +kernel
theorem dX8_mix_140 : decode cX8_mix 140 = .ok (.iload 4, 2) := by decide +kernel
theorem dX8_mix_142 : decode cX8_mix 142 = .ok (.iload 9, 2) := by decide +kernel
theorem dX8_mix_144 : decode cX8_mix 144 = .ok (.ifCond .eq 7, 3) := by decide +kernel
theorem dX8_mix_147 : decode cX8_mix 147 = .ok (.iconst 1, 1) := by decide +kernel
theorem dX8_mix_148 : decode cX8_mix 148 = .ok (.goto 4, 3) := by decide +kernel
theorem dX8_mix_151 : decode cX8_mix 151 = .ok (.iconst 0, 1) := by decide +kernel
theorem dX8_mix_152 : decode cX8_mix 152 = .ok (.iadd, 1) := by decide +kernel
theorem dX8_mix_153 : decode cX8_mix 153 = .ok (.istore 4, 2) := by decide +kernel
theorem dX8_mix_155 : decode cX8_mix 155 = .ok (.iload 9, 2) := by decide +kernel
theorem dX8_mix_157 : decode cX8_mix 157 = .ok (.ifCond .eq 21, 3) := by decide +kernel
theorem dX8_mix_160 : decode cX8_mix 160 = .ok (.sipush 1000, 3) := by decide +kernel
theorem dX8_mix_163 : decode cX8_mix 163 = .ok (.iload 6, 2) := by decide +kernel
theorem dX8_mix_165 : decode cX8_mix 165 = .ok (.imul, 1) := by decide +kernel
theorem dX8_mix_166 : decode cX8_mix 166 = .ok (.bipush 100, 2) := by decide +kernel
theorem dX8_mix_168 : decode cX8_mix 168 = .ok (.iload 7, 2) := by decide +kernel
theorem dX8_mix_170 : decode cX8_mix 170 = .ok (.imul, 1) := by decide +kernel
theorem dX8_mix_171 : decode cX8_mix 171 = .ok (.iadd, 1) := by decide +kernel
theorem dX8_mix_172 : decode cX8_mix 172 = .ok (.iload 8, 2) := by decide +kernel
theorem dX8_mix_174 : decode cX8_mix 174 = .ok (.iadd, 1) := by decide +kernel
theorem dX8_mix_175 : decode cX8_mix 175 = .ok (.goto 5, 3) := by decide +kernel
theorem dX8_mix_178 : decode cX8_mix 178 = .ok (.iload 5, 2) := by decide +kernel
theorem dX8_mix_180 : decode cX8_mix 180 = .ok (.istore 5, 2) := by decide +kernel
theorem dX8_mix_182 : decode cX8_mix 182 = .ok (.iinc 8 (-1), 3) := by decide +kernel
theorem dX8_mix_185 : decode cX8_mix 185 = .ok (.goto (-109), 3) := by decide +kernel
theorem dX8_mix_188 : decode cX8_mix 188 = .ok (.iinc 7 (-1), 3) := by decide +kernel
theorem dX8_mix_191 : decode cX8_mix 191 = .ok (.goto (-127), 3) := by decide +kernel
theorem dX8_mix_194 : decode cX8_mix 194 = .ok (.iinc 6 (-1), 3) := by decide +kernel
theorem dX8_mix_197 : decode cX8_mix 197 = .ok (.goto (-148), 3) := by decide +kernel
theorem dX8_mix_200 : decode cX8_mix 200 = .ok (.iload_n 3, 1) := by decide +kernel
theorem dX8_mix_201 : decode cX8_mix 201 = .ok (.ifCond .ne 8, 3) := by decide +kernel
theorem dX8_mix_204 : decode cX8_mix 204 = .ok (.iload 4, 2) := by decide +kernel
theorem dX8_mix_206 : decode cX8_mix 206 = .ok (.goto 5, 3) := by decide +kernel
theorem dX8_mix_209 : decode cX8_mix 209 = .ok (.iload 5, 2) := by decide +kernel
theorem dX8_mix_211 : decode cX8_mix 211 = .ok (.ireturn, 1) := by decide +kernel
theorem dX8_levels_0 : decode cX8_levels 0 = .ok (.iload_n 1, 1) := by decide +kernel
theorem dX8_levels_1 : decode cX8_levels 1 = .ok (.iconst 0, 1) := by decide +kernel
theorem dX8_levels_2 : decode cX8_levels 2 = .ok (.bipush 60, 2) := by decide +kernel
theorem dX8_levels_4 : decode cX8_levels 4 = .ok (.invokestatic 51, 3) := by decide +kernel
theorem dX8_levels_7 : decode cX8_levels 7 = .ok (.ifCond .eq 22, 3) := by decide +kernel
theorem dX8_levels_10 : decode cX8_levels 10 = .ok (.aload_n 0, 1) := by decide +kernel
theorem dX8_levels_11 : decode cX8_levels 11 = .ok (.iload_n 2, 1) := by decide +kernel
theorem dX8_levels_12 : decode cX8_levels 12 = .ok (.invokevirtual 104, 3) := by decide +kernel
theorem dX8_levels_15 : decode cX8_levels 15 = .ok (.ifCond .eq 14, 3) := by decide +kernel
theorem dX8_levels_18 : decode cX8_levels 18 = .ok (.iload_n 3, 1) := by decide +kernel
theorem dX8_levels_19 : decode cX8_levels 19 = .ok (.iconst 0, 1) := by decide +kernel
theorem dX8_levels_20 : decode cX8_levels 20 = .ok (.sipush 420, 3) := by decide +kernel
theorem dX8_levels_23 : decode cX8_levels 23 = .ok (.invokestatic 51, 3) := by decide +kernel
theorem dX8_levels_26 : decode cX8_levels 26 = .ok (.ifCond .ne 5, 3) := by decide +kernel
theorem dX8_levels_29 : decode cX8_levels 29 = .ok (.iconst (-1), 1) := by decide +kernel
theorem dX8_levels_30 : decode cX8_levels 30 = .ok (.ireturn, 1) := by decide +kernel
theorem dX8_levels_31 : decode cX8_levels 31 = .ok (.aload_n 0, 1) := by decide +kernel
theorem dX8_levels_32 : decode cX8_levels 32 = .ok (.getfield 95, 3) := by decide +kernel
theorem dX8_levels_35 : decode cX8_levels 35 = .ok (.iconst 5, 1) := by decide +kernel
theorem dX8_levels_36 : decode cX8_levels 36 = .ok (.if_icmp .ne 6, 3) := by decide +kernel
theorem dX8_levels_39 : decode cX8_levels 39 = .ok (.bipush (-3), 2) := by decide +kernel
theorem dX8_levels_41 : decode cX8_levels 41 = .ok (.ireturn, 1) := by decide +kernel
theorem dX8_levels_42 : decode cX8_levels 42 = .ok (.aload_n 0, 1) := by decide +kernel
theorem dX8_levels_43 : decode cX8_levels 43 = .ok (.getfield 32, 3) := by decide +kernel
theorem dX8_levels_46 : decode cX8_levels 46 = .ok (.aload_n 0, 1) := by decide +kernel
theorem dX8_levels_47 : decode cX8_levels 47 = .ok (.getfield 95, 3) := by decide +kernel
theorem dX8_levels_50 : decode cX8_levels 50 = .ok (.bipush 10, 2) := by decide +kernel
theorem dX8_levels_52 : decode cX8_levels 52 = .ok (.iload_n 1, 1) := by decide +kernel
theorem dX8_levels_53 : decode cX8_levels 53 = .ok (.imul, 1) := by decide +kernel
theorem dX8_levels_54 : decode cX8_levels 54 = .ok (.iload_n 2, 1) := by decide +kernel
theorem dX8_levels_55 : decode cX8_levels 55 = .ok (.iadd, 1) := by decide +kernel
theorem dX8_levels_56 : decode cX8_levels 56 = .ok (.iastore, 1) := by decide +kernel
theorem dX8_levels_57 : decode cX8_levels 57 = .ok (.aload_n 0, 1) := by decide +kernel
theorem dX8_levels_58 : decode cX8_levels 58 = .ok (.getfield 35, 3) := by decide +kernel
theorem dX8_levels_61 : decode cX8_levels 61 = .ok (.aload_n 0, 1) := by decide +kernel
theorem dX8_levels_62 : decode cX8_levels 62 = .ok (.getfield 95, 3) := by decide +kernel
theorem dX8_levels_65 : decode cX8_levels 65 = .ok (.iload_n 3, 1) := by decide +kernel
theorem dX8_levels_66 : decode cX8_levels 66 = .ok (.iastore, 1) := by decide +kernel
theorem dX8_levels_67 : decode cX8_levels 67 = .ok (.aload_n 0, 1) := by decide +kernel
theorem dX8_levels_68 : decode cX8_levels 68 = .ok (.dup, 1) := by decide +kernel
theorem dX8_levels_69 : decode cX8_levels 69 = .ok (.getfield 95, 3) := by decide +kernel
theorem dX8_levels_72 : decode cX8_levels 72 = .ok (.iconst 1, 1) := by decide +kernel
theorem dX8_levels_73 : decode cX8_levels 73 = .ok (.iadd, 1) := by decide +kernel
theorem dX8_levels_74 : decode cX8_levels 74 = .ok (.putfield 95, 3) := by decide +kernel
theorem dX8_levels_77 : decode cX8_levels 77 = .ok (.aload_n 0, 1) := by decide +kernel
theorem dX8_levels_78 : decode cX8_levels 78 = .ok (.getfield 95, 3) := by decide +kernel
theorem dX8_levels_81 : decode cX8_levels 81 = .ok (.ireturn, 1) := by decide +kernel
theorem dX8_forget_0 : decode cX8_forget 0 = .ok (.aload_n 0, 1) := by decide +kernel
theorem dX8_forget_1 : decode cX8_forget 1 = .ok (.getfield 95, 3) := by decide +kernel
theorem dX8_forget_4 : decode cX8_forget 4 = .ok (.istore_n 1, 1) := by decide +kernel
theorem dX8_forget_5 : decode cX8_forget 5 = .ok (.aload_n 0, 1) := by decide +kernel
theorem dX8_forget_6 : decode cX8_forget 6 = .ok (.iconst 0, 1) := by decide +kernel
theorem dX8_forget_7 : decode cX8_forget 7 = .ok (.putfield 95, 3) := by decide +kernel
theorem dX8_forget_10 : decode cX8_forget 10 = .ok (.iload_n 1, 1) := by decide +kernel
theorem dX8_forget_11 : decode cX8_forget 11 = .ok (.ireturn, 1) := by decide +kernel
theorem dX8_isSo_0 : decode cX8_isSo 0 = .ok (.iconst 1, 1) := by decide +kernel
theorem dX8_isSo_1 : decode cX8_isSo 1 = .ok (.istore_n 1, 1) := by decide +kernel
theorem dX8_isSo_2 : decode cX8_isSo 2 = .ok (.iconst 0, 1) := by decide +kernel
theorem dX8_isSo_3 : decode cX8_isSo 3 = .ok (.istore_n 2, 1) := by decide +kernel
theorem dX8_isSo_4 : decode cX8_isSo 4 = .ok (.iload_n 2, 1) := by decide +kernel
theorem dX8_isSo_5 : decode cX8_isSo 5 = .ok (.aload_n 0, 1) := by decide +kernel
theorem dX8_isSo_6 : decode cX8_isSo 6 = .ok (.getfield 95, 3) := by decide +kernel
theorem dX8_isSo_9 : decode cX8_isSo 9 = .ok (.if_icmp .ge 76, 3) := by decide +kernel
theorem dX8_isSo_12 : decode cX8_isSo 12 = .ok (.aload_n 0, 1) := by decide +kernel
theorem dX8_isSo_13 : decode cX8_isSo 13 = .ok (.getfield 32, 3) := by decide +kernel
theorem dX8_isSo_16 : decode cX8_isSo 16 = .ok (.iload_n 2, 1) := by decide +kernel
theorem dX8_isSo_17 : decode cX8_isSo 17 = .ok (.iaload, 1) := by decide +kernel
theorem dX8_isSo_18 : decode cX8_isSo 18 = .ok (.bipush 10, 2) := by decide +kernel
theorem dX8_isSo_20 : decode cX8_isSo 20 = .ok (.irem, 1) := by decide +kernel
theorem dX8_isSo_21 : decode cX8_isSo 21 = .ok (.istore_n 3, 1) := by decide +kernel
theorem dX8_isSo_22 : decode cX8_isSo 22 = .ok (.aload_n 0, 1) := by decide +kernel
theorem dX8_isSo_23 : decode cX8_isSo 23 = .ok (.iload_n 3, 1) := by decide +kernel
theorem dX8_isSo_24 : decode cX8_isSo 24 = .ok (.invokevirtual 98, 3) := by decide +kernel
theorem dX8_isSo_27 : decode cX8_isSo 27 = .ok (.aload_n 0, 1) := by decide +kernel
theorem dX8_isSo_28 : decode cX8_isSo 28 = .ok (.getfield 32, 3) := by decide +kernel
theorem dX8_isSo_31 : decode cX8_isSo 31 = .ok (.iload_n 2, 1) := by decide +kernel
theorem dX8_isSo_32 : decode cX8_isSo 32 = .ok (.iaload, 1) := by decide +kernel
theorem dX8_isSo_33 : decode cX8_isSo 33 = .ok (.bipush 10, 2) := by decide +kernel
theorem dX8_isSo_35 : decode cX8_isSo 35 = .ok (.idiv, 1) := by decide +kernel
theorem dX8_isSo_36 : decode cX8_isSo 36 = .ok (.aload_n 0, 1) := by decide +kernel
theorem dX8_isSo_37 : decode cX8_isSo 37 = .ok (.getfield 13, 3) := by decide +kernel
theorem dX8_isSo_40 : decode cX8_isSo 40 = .ok (.bipush 19, 2) := by decide +kernel
theorem dX8_isSo_42 : decode cX8_isSo 42 = .ok (.iload_n 3, 1) := by decide +kernel
theorem dX8_isSo_43 : decode cX8_isSo 43 = .ok (.iadd, 1) := by decide +kernel
theorem dX8_isSo_44 : decode cX8_isSo 44 = .ok (.iaload, 1) := by decide +kernel
theorem dX8_isSo_45 : decode cX8_isSo 45 = .ok (.imul, 1) := by decide +kernel
theorem dX8_isSo_46 : decode cX8_isSo 46 = .ok (.isub, 1) := by decide +kernel
theorem dX8_isSo_47 : decode cX8_isSo 47 = .ok (.istore 4, 2) := by decide +kernel
theorem dX8_isSo_49 : decode cX8_isSo 49 = .ok (.iload_n 1, 1) := by decide +kernel
theorem dX8_isSo_50 : decode cX8_isSo 50 = .ok (.ifCond .eq 27, 3) := by decide +kernel
theorem dX8_isSo_53 : decode cX8_isSo 53 = .ok (.iload 4, 2) := by decide +kernel
theorem dX8_isSo_55 : decode cX8_isSo 55 = .ok (.ifCond .ge 7, 3) := by decide +kernel
theorem dX8_isSo_58 : decode cX8_isSo 58 = .ok (.iconst 0, 1) := by decide +kernel
theorem dX8_isSo_59 : decode cX8_isSo 59 = .ok (.goto 5, 3) := by decide +kernel
theorem dX8_isSo_62 : decode cX8_isSo 62 = .ok (.iload 4, 2) := by decide +kernel
theorem dX8_isSo_64 : decode cX8_isSo 64 = .ok (.aload_n 0, 1) := by decide +kernel
theorem dX8_isSo_65 : decode cX8_isSo 65 = .ok (.getfield 35, 3) := by decide +kernel
theorem dX8_isSo_68 : decode cX8_isSo 68 = .ok (.iload_n 2, 1) := by decide +kernel
theorem dX8_isSo_69 : decode cX8_isSo 69 = .ok (.iaload, 1) := by decide +kernel
theorem dX8_isSo_70 : decode cX8_isSo 70 = .ok (.if_icmp .ne 7, 3) := by decide +kernel
theorem dX8_isSo_73 : decode cX8_isSo 73 = .ok (.iconst 1, 1) := by decide +kernel
theorem dX8_isSo_74 : decode cX8_isSo 74 = .ok (.goto 4, 3) := by decide +kernel
theorem dX8_isSo_77 : decode cX8_isSo 77 = .ok (.iconst 0, 1) := by decide +kernel
theorem dX8_isSo_78 : decode cX8_isSo 78 = .ok (.istore_n 1, 1) := by decide +kernel
theorem dX8_isSo_79 : decode cX8_isSo 79 = .ok (.iinc 2 1, 3) := by decide +kernel
theorem dX8_isSo_82 : decode cX8_isSo 82 = .ok (.goto (-78), 3) := by decide +kernel
theorem dX8_isSo_85 : decode cX8_isSo 85 = .ok (.iload_n 1, 1) := by decide +kernel
theorem dX8_isSo_86 : decode cX8_isSo 86 = .ok (.ireturn, 1) := by decide +kernel
theorem dX8_theft_0 : decode cX8_theft 0 = .ok (.iload_n 1, 1) := by decide +kernel
theorem dX8_theft_1 : decode cX8_theft 1 = .ok (.iconst 0, 1) := by decide +kernel
theorem dX8_theft_2 : decode cX8_theft 2 = .ok (.iconst 2, 1) := by decide +kernel
theorem dX8_theft_3 : decode cX8_theft 3 = .ok (.invokestatic 51, 3) := by decide +kernel
theorem dX8_theft_6 : decode cX8_theft 6 = .ok (.ifCond .ne 5, 3) := by decide +kernel
theorem dX8_theft_9 : decode cX8_theft 9 = .ok (.iconst (-1), 1) := by decide +kernel
theorem dX8_theft_10 : decode cX8_theft 10 = .ok (.ireturn, 1) := by decide +kernel
theorem dX8_theft_11 : decode cX8_theft 11 = .ok (.iconst 0, 1) := by decide +kernel
theorem dX8_theft_12 : decode cX8_theft 12 = .ok (.istore_n 2, 1) := by decide +kernel
theorem dX8_theft_13 : decode cX8_theft 13 = .ok (.bipush (-9), 2) := by decide +kernel
theorem dX8_theft_15 : decode cX8_theft 15 = .ok (.istore_n 3, 1) := by decide +kernel
theorem dX8_theft_16 : decode cX8_theft 16 = .ok (.iconst 0, 1) := by decide +kernel
theorem dX8_theft_17 : decode cX8_theft 17 = .ok (.istore 4, 2) := by decide +kernel
theorem dX8_theft_19 : decode cX8_theft 19 = .ok (.aload_n 0, 1) := by decide +kernel
theorem dX8_theft_20 : decode cX8_theft 20 = .ok (.getfield 13, 3) := by decide +kernel
theorem dX8_theft_23 : decode cX8_theft 23 = .ok (.iconst 0, 1) := by decide +kernel
theorem dX8_theft_24 : decode cX8_theft 24 = .ok (.iaload, 1) := by decide +kernel
theorem dX8_theft_25 : decode cX8_theft 25 = .ok (.iconst 1, 1) := by decide +kernel
theorem dX8_theft_26 : decode cX8_theft 26 = .ok (.isub, 1) := by decide +kernel
theorem dX8_theft_27 : decode cX8_theft 27 = .ok (.istore 5, 2) := by decide +kernel
theorem dX8_theft_29 : decode cX8_theft 29 = .ok (.iload 5, 2) := by decide +kernel
theorem dX8_theft_31 : decode cX8_theft 31 = .ok (.ifCond .lt 112, 3) := by decide +kernel
theorem dX8_theft_34 : decode cX8_theft 34 = .ok (.aload_n 0, 1) := by decide +kernel
theorem dX8_theft_35 : decode cX8_theft 35 = .ok (.iload 5, 2) := by decide +kernel
theorem dX8_theft_37 : decode cX8_theft 37 = .ok (.invokevirtual 98, 3) := by decide +kernel
theorem dX8_theft_40 : decode cX8_theft 40 = .ok (.istore 6, 2) := by decide +kernel
theorem dX8_theft_42 : decode cX8_theft 42 = .ok (.bipush 20, 2) := by decide +kernel
theorem dX8_theft_44 : decode cX8_theft 44 = .ok (.istore 7, 2) := by decide +kernel
theorem dX8_theft_46 : decode cX8_theft 46 = .ok (.iload 7, 2) := by decide +kernel
theorem dX8_theft_48 : decode cX8_theft 48 = .ok (.ifCond .le 89, 3) := by decide +kernel
theorem dX8_theft_51 : decode cX8_theft 51 = .ok (.iload 7, 2) := by decide +kernel
theorem dX8_theft_53 : decode cX8_theft 53 = .ok (.iload 6, 2) := by decide +kernel
theorem dX8_theft_55 : decode cX8_theft 55 = .ok (.if_icmp .gt 76, 3) := by decide +kernel
theorem dX8_theft_58 : decode cX8_theft 58 = .ok (.aload_n 0, 1) := by decide +kernel
theorem dX8_theft_59 : decode cX8_theft 59 = .ok (.invokevirtual 130, 3) := by decide +kernel
theorem dX8_theft_62 : decode cX8_theft 62 = .ok (.aload_n 0, 1) := by decide +kernel
theorem dX8_theft_63 : decode cX8_theft 63 = .ok (.iload 5, 2) := by decide +kernel
theorem dX8_theft_65 : decode cX8_theft 65 = .ok (.iload 7, 2) := by decide +kernel
theorem dX8_theft_67 : decode cX8_theft 67 = .ok (.iconst (-1), 1) := by decide +kernel
theorem dX8_theft_68 : decode cX8_theft 68 = .ok (.invokevirtual 123, 3) := by decide +kernel
theorem dX8_theft_71 : decode cX8_theft 71 = .ok (.pop, 1) := by decide +kernel
theorem dX8_theft_72 : decode cX8_theft 72 = .ok (.aload_n 0, 1) := by decide +kernel
theorem dX8_theft_73 : decode cX8_theft 73 = .ok (.invokevirtual 139, 3) := by decide +kernel
theorem dX8_theft_76 : decode cX8_theft 76 = .ok (.istore 8, 2) := by decide +kernel
theorem dX8_theft_78 : decode cX8_theft 78 = .ok (.aload_n 0, 1) := by decide +kernel
theorem dX8_theft_79 : decode cX8_theft 79 = .ok (.invokevirtual 133, 3) := by decide +kernel
theorem dX8_theft_82 : decode cX8_theft 82 = .ok (.iload_n 2, 1) := by decide +kernel
theorem dX8_theft_83 : decode cX8_theft 83 = .ok (.iload 8, 2) := by decide +kernel
theorem dX8_theft_85 : decode cX8_theft 85 = .ok (.ifCond .eq 7, 3) := by decide +kernel
theorem dX8_theft_88 : decode cX8_theft 88 = .ok (.iconst 1, 1) := by decide +kernel
theorem dX8_theft_89 : decode cX8_theft 89 = .ok (.goto 4, 3) := by decide +kernel
theorem dX8_theft_92 : decode cX8_theft 92 = .ok (.iconst 0, 1) := by decide +kernel
theorem dX8_theft_93 : decode cX8_theft 93 = .ok (.iadd, 1) := by decide +kernel
theorem dX8_theft_94 : decode cX8_theft 94 = .ok (.istore_n 2, 1) := by decide +kernel
theorem dX8_theft_95 : decode cX8_theft 95 = .ok (.iload 8, 2) := by decide +kernel
theorem dX8_theft_97 : decode cX8_theft 97 = .ok (.ifCond .eq 14, 3) := by decide +kernel
theorem dX8_theft_100 : decode cX8_theft 100 = .ok (.bipush 100, 2) := by decide +kernel
theorem dX8_theft_102 : decode cX8_theft 102 = .ok (.iload 5, 2) := by decide +kernel
theorem dX8_theft_104 : decode cX8_theft 104 = .ok (.imul, 1) := by decide +kernel
theorem dX8_theft_105 : decode cX8_theft 105 = .ok (.iload 7, 2) := by decide +kernel
theorem dX8_theft_107 : decode cX8_theft 107 = .ok (.iadd, 1) := by decide +kernel
theorem dX8_theft_108 : decode cX8_theft 108 = .ok (.goto 4, 3) := by decide +kernel
theorem dX8_theft_111 : decode cX8_theft 111 = .ok (.iload_n 3, 1) := by decide +kernel
theorem dX8_theft_112 : decode cX8_theft 112 = .ok (.istore_n 3, 1) := by decide +kernel
theorem dX8_theft_113 : decode cX8_theft 113 = .ok (.iload 4, 2) := by decide +kernel
theorem dX8_theft_115 : decode cX8_theft 115 = .ok (.iload 8, 2) := by decide +kernel
theorem dX8_theft_117 : decode cX8_theft 117 = .ok (.ifCond .eq 10, 3) := by decide +kernel
theorem dX8_theft_120 : decode cX8_theft 120 = .ok (.iconst 1, 1) := by decide +kernel
theorem dX8_theft_121 : decode cX8_theft 121 = .ok (.iload 5, 2) := by decide +kernel
theorem dX8_theft_123 : decode cX8_theft 123 = .ok (.ishl, 1) := by decide +kernel
theorem dX8_theft_124 : decode cX8_theft 124 = .ok (.goto 4, 3) := by decide +kernel
theorem dX8_theft_127 : decode cX8_theft 127 = .ok (.iconst 0, 1) := by decide +kernel
theorem dX8_theft_128 : decode cX8_theft 128 = .ok (.ior, 1) := by decide +kernel
theorem dX8_theft_129 : decode cX8_theft 129 = .ok (.istore 4, 2) := by decide +kernel
theorem dX8_theft_131 : decode cX8_theft 131 = .ok (.iinc 7 (-1), 3) := by decide +kernel
theorem dX8_theft_134 : decode cX8_theft 134 = .ok (.goto (-88), 3) := by decide +kernel
theorem dX8_theft_137 : decode cX8_theft 137 = .ok (.iinc 5 (-1), 3) := by decide +kernel
theorem dX8_theft_140 : decode cX8_theft 140 = .ok (.goto (-111), 3) := by decide +kernel
theorem dX8_theft_143 : decode cX8_theft 143 = .ok (.iload_n 1, 1) := by decide +kernel
theorem dX8_theft_144 : decode cX8_theft 144 = .ok (.ifCond .ne 7, 3) := by decide +kernel
theorem dX8_theft_147 : decode cX8_theft 147 = .ok (.iload_n 2, 1) := by decide +kernel
theorem dX8_theft_148 : decode cX8_theft 148 = .ok (.goto 14, 3) := by decide +kernel
theorem dX8_theft_151 : decode cX8_theft 151 = .ok (.iload_n 1, 1) := by decide +kernel
theorem dX8_theft_152 : decode cX8_theft 152 = .ok (.iconst 1, 1) := by decide +kernel
theorem dX8_theft_153 : decode cX8_theft 153 = .ok (.if_icmp .ne 7, 3) := by decide +kernel
theorem dX8_theft_156 : decode cX8_theft 156 = .ok (.iload_n 3, 1) := by decide +kernel
theorem dX8_theft_157 : decode cX8_theft 157 = .ok (.goto 5, 3) := by decide +kernel
theorem dX8_theft_160 : decode cX8_theft 160 = .ok (.iload 4, 2) := by decide +kernel
theorem dX8_theft_162 : decode cX8_theft 162 = .ok (.ireturn, 1) := by decide +kernel
theorem dX8_isHail_0 : decode cX8_isHail 0 = .ok (.aload_n 0, 1) := by decide +kernel
theorem dX8_isHail_1 : decode cX8_isHail 1 = .ok (.getfield 13, 3) := by decide +kernel
theorem dX8_isHail_4 : decode cX8_isHail 4 = .ok (.bipush 26, 2) := by decide +kernel
theorem dX8_isHail_6 : decode cX8_isHail 6 = .ok (.iload_n 1, 1) := by decide +kernel
theorem dX8_isHail_7 : decode cX8_isHail 7 = .ok (.iadd, 1) := by decide +kernel
theorem dX8_isHail_8 : decode cX8_isHail 8 = .ok (.iaload, 1) := by decide +kernel
theorem dX8_isHail_9 : decode cX8_isHail 9 = .ok (.iconst 2, 1) := by decide +kernel
theorem dX8_isHail_10 : decode cX8_isHail 10 = .ok (.if_icmp .ne 7, 3) := by decide +kernel
theorem dX8_isHail_13 : decode cX8_isHail 13 = .ok (.iconst 1, 1) := by decide +kernel
theorem dX8_isHail_14 : decode cX8_isHail 14 = .ok (.goto 4, 3) := by decide +kernel
theorem dX8_isHail_17 : decode cX8_isHail 17 = .ok (.iconst 0, 1) := by decide +kernel
theorem dX8_isHail_18 : decode cX8_isHail 18 = .ok (.ireturn, 1) := by decide +kernel
theorem dX8_stand_0 : decode cX8_stand 0 = .ok (.iconst 0, 1) := by decide +kernel
theorem dX8_stand_1 : decode cX8_stand 1 = .ok (.istore_n 2, 1) := by decide +kernel
theorem dX8_stand_2 : decode cX8_stand 2 = .ok (.iconst 0, 1) := by decide +kernel
theorem dX8_stand_3 : decode cX8_stand 3 = .ok (.istore_n 3, 1) := by decide +kernel
theorem dX8_stand_4 : decode cX8_stand 4 = .ok (.iconst 0, 1) := by decide +kernel
theorem dX8_stand_5 : decode cX8_stand 5 = .ok (.istore 4, 2) := by decide +kernel
theorem dX8_stand_7 : decode cX8_stand 7 = .ok (.iload 4, 2) := by decide +kernel
theorem dX8_stand_9 : decode cX8_stand 9 = .ok (.aload_n 0, 1) := by decide +kernel
theorem dX8_stand_10 : decode cX8_stand 10 = .ok (.getfield 13, 3) := by decide +kernel
theorem dX8_stand_13 : decode cX8_stand 13 = .ok (.iconst 0, 1) := by decide +kernel
theorem dX8_stand_14 : decode cX8_stand 14 = .ok (.iaload, 1) := by decide +kernel
theorem dX8_stand_15 : decode cX8_stand 15 = .ok (.if_icmp .ge 45, 3) := by decide +kernel
theorem dX8_stand_18 : decode cX8_stand 18 = .ok (.iload_n 1, 1) := by decide +kernel
theorem dX8_stand_19 : decode cX8_stand 19 = .ok (.iload 4, 2) := by decide +kernel
theorem dX8_stand_21 : decode cX8_stand 21 = .ok (.ishr, 1) := by decide +kernel
theorem dX8_stand_22 : decode cX8_stand 22 = .ok (.iconst 1, 1) := by decide +kernel
theorem dX8_stand_23 : decode cX8_stand 23 = .ok (.iand, 1) := by decide +kernel
theorem dX8_stand_24 : decode cX8_stand 24 = .ok (.iconst 1, 1) := by decide +kernel
theorem dX8_stand_25 : decode cX8_stand 25 = .ok (.if_icmp .ne 29, 3) := by decide +kernel
theorem dX8_stand_28 : decode cX8_stand 28 = .ok (.iload_n 2, 1) := by decide +kernel
theorem dX8_stand_29 : decode cX8_stand 29 = .ok (.aload_n 0, 1) := by decide +kernel
theorem dX8_stand_30 : decode cX8_stand 30 = .ok (.iload 4, 2) := by decide +kernel
theorem dX8_stand_32 : decode cX8_stand 32 = .ok (.invokevirtual 98, 3) := by decide +kernel
theorem dX8_stand_35 : decode cX8_stand 35 = .ok (.iadd, 1) := by decide +kernel
theorem dX8_stand_36 : decode cX8_stand 36 = .ok (.istore_n 2, 1) := by decide +kernel
theorem dX8_stand_37 : decode cX8_stand 37 = .ok (.iload_n 3, 1) := by decide +kernel
theorem dX8_stand_38 : decode cX8_stand 38 = .ok (.aload_n 0, 1) := by decide +kernel
theorem dX8_stand_39 : decode cX8_stand 39 = .ok (.iload 4, 2) := by decide +kernel
theorem dX8_stand_41 : decode cX8_stand 41 = .ok (.invokevirtual 142, 3) := by decide +kernel
theorem dX8_stand_44 : decode cX8_stand 44 = .ok (.ifCond .eq 7, 3) := by decide +kernel
theorem dX8_stand_47 : decode cX8_stand 47 = .ok (.iconst 2, 1) := by decide +kernel
theorem dX8_stand_48 : decode cX8_stand 48 = .ok (.goto 4, 3) := by decide +kernel
theorem dX8_stand_51 : decode cX8_stand 51 = .ok (.iconst 1, 1) := by decide +kernel
theorem dX8_stand_52 : decode cX8_stand 52 = .ok (.ior, 1) := by decide +kernel
theorem dX8_stand_53 : decode cX8_stand 53 = .ok (.istore_n 3, 1) := by decide +kernel
theorem dX8_stand_54 : decode cX8_stand 54 = .ok (.iinc 4 1, 3) := by decide +kernel
theorem dX8_stand_57 : decode cX8_stand 57 = .ok (.goto (-50), 3) := by decide +kernel
theorem dX8_stand_60 : decode cX8_stand 60 = .ok (.iload_n 2, 1) := by decide +kernel
theorem dX8_stand_61 : decode cX8_stand 61 = .ok (.aload_n 0, 1) := by decide +kernel
theorem dX8_stand_62 : decode cX8_stand 62 = .ok (.getfield 13, 3) := by decide +kernel
theorem dX8_stand_65 : decode cX8_stand 65 = .ok (.iconst 2, 1) := by decide +kernel
theorem dX8_stand_66 : decode cX8_stand 66 = .ok (.iaload, 1) := by decide +kernel
theorem dX8_stand_67 : decode cX8_stand 67 = .ok (.if_icmp .gt 12, 3) := by decide +kernel
theorem dX8_stand_70 : decode cX8_stand 70 = .ok (.iload_n 3, 1) := by decide +kernel
theorem dX8_stand_71 : decode cX8_stand 71 = .ok (.iconst 3, 1) := by decide +kernel
theorem dX8_stand_72 : decode cX8_stand 72 = .ok (.if_icmp .eq 7, 3) := by decide +kernel
theorem dX8_stand_75 : decode cX8_stand 75 = .ok (.iconst 1, 1) := by decide +kernel
theorem dX8_stand_76 : decode cX8_stand 76 = .ok (.goto 4, 3) := by decide +kernel
theorem dX8_stand_79 : decode cX8_stand 79 = .ok (.iconst 0, 1) := by decide +kernel
theorem dX8_stand_80 : decode cX8_stand 80 = .ok (.ireturn, 1) := by decide +kernel
theorem dX8_shelves_0 : decode cX8_shelves 0 = .ok (.iconst 0, 1) := by decide +kernel
theorem dX8_shelves_1 : decode cX8_shelves 1 = .ok (.istore_n 1, 1) := by decide +kernel
theorem dX8_shelves_2 : decode cX8_shelves 2 = .ok (.iconst 0, 1) := by decide +kernel
theorem dX8_shelves_3 : decode cX8_shelves 3 = .ok (.istore_n 2, 1) := by decide +kernel
theorem dX8_shelves_4 : decode cX8_shelves 4 = .ok (.iload_n 2, 1) := by decide +kernel
theorem dX8_shelves_5 : decode cX8_shelves 5 = .ok (.aload_n 0, 1) := by decide +kernel
theorem dX8_shelves_6 : decode cX8_shelves 6 = .ok (.getfield 13, 3) := by decide +kernel
theorem dX8_shelves_9 : decode cX8_shelves 9 = .ok (.iconst 0, 1) := by decide +kernel
theorem dX8_shelves_10 : decode cX8_shelves 10 = .ok (.iaload, 1) := by decide +kernel
theorem dX8_shelves_11 : decode cX8_shelves 11 = .ok (.if_icmp .ge 27, 3) := by decide +kernel
theorem dX8_shelves_14 : decode cX8_shelves 14 = .ok (.iload_n 1, 1) := by decide +kernel
theorem dX8_shelves_15 : decode cX8_shelves 15 = .ok (.aload_n 0, 1) := by decide +kernel
theorem dX8_shelves_16 : decode cX8_shelves 16 = .ok (.iload_n 2, 1) := by decide +kernel
theorem dX8_shelves_17 : decode cX8_shelves 17 = .ok (.invokevirtual 98, 3) := by decide +kernel
theorem dX8_shelves_20 : decode cX8_shelves 20 = .ok (.ifCond .le 9, 3) := by decide +kernel
theorem dX8_shelves_23 : decode cX8_shelves 23 = .ok (.iconst 1, 1) := by decide +kernel
theorem dX8_shelves_24 : decode cX8_shelves 24 = .ok (.iload_n 2, 1) := by decide +kernel
theorem dX8_shelves_25 : decode cX8_shelves 25 = .ok (.ishl, 1) := by decide +kernel
theorem dX8_shelves_26 : decode cX8_shelves 26 = .ok (.goto 4, 3) := by decide +kernel
theorem dX8_shelves_29 : decode cX8_shelves 29 = .ok (.iconst 0, 1) := by decide +kernel
theorem dX8_shelves_30 : decode cX8_shelves 30 = .ok (.ior, 1) := by decide +kernel
theorem dX8_shelves_31 : decode cX8_shelves 31 = .ok (.istore_n 1, 1) := by decide +kernel
theorem dX8_shelves_32 : decode cX8_shelves 32 = .ok (.iinc 2 1, 3) := by decide +kernel
theorem dX8_shelves_35 : decode cX8_shelves 35 = .ok (.goto (-31), 3) := by decide +kernel
theorem dX8_shelves_38 : decode cX8_shelves 38 = .ok (.iconst 0, 1) := by decide +kernel
theorem dX8_shelves_39 : decode cX8_shelves 39 = .ok (.istore_n 2, 1) := by decide +kernel
theorem dX8_shelves_40 : decode cX8_shelves 40 = .ok (.iload_n 2, 1) := by decide +kernel
theorem dX8_shelves_41 : decode cX8_shelves 41 = .ok (.iconst 1, 1) := by decide +kernel
theorem dX8_shelves_42 : decode cX8_shelves 42 = .ok (.aload_n 0, 1) := by decide +kernel
theorem dX8_shelves_43 : decode cX8_shelves 43 = .ok (.getfield 13, 3) := by decide +kernel
theorem dX8_shelves_46 : decode cX8_shelves 46 = .ok (.iconst 0, 1) := by decide +kernel
theorem dX8_shelves_47 : decode cX8_shelves 47 = .ok (.iaload, 1) := by decide +kernel
theorem dX8_shelves_48 : decode cX8_shelves 48 = .ok (.ishl, 1) := by decide +kernel
theorem dX8_shelves_49 : decode cX8_shelves 49 = .ok (.if_icmp .ge 129, 3) := by decide +kernel
theorem dX8_shelves_52 : decode cX8_shelves 52 = .ok (.aload_n 0, 1) := by decide +kernel
theorem dX8_shelves_53 : decode cX8_shelves 53 = .ok (.getfield 41, 3) := by decide +kernel
theorem dX8_shelves_56 : decode cX8_shelves 56 = .ok (.iload_n 2, 1) := by decide +kernel
theorem dX8_shelves_57 : decode cX8_shelves 57 = .ok (.iload_n 2, 1) := by decide +kernel
theorem dX8_shelves_58 : decode cX8_shelves 58 = .ok (.ifCond .ne 7, 3) := by decide +kernel
theorem dX8_shelves_61 : decode cX8_shelves 61 = .ok (.iconst 0, 1) := by decide +kernel
theorem dX8_shelves_62 : decode cX8_shelves 62 = .ok (.goto 5, 3) := by decide +kernel
theorem dX8_shelves_65 : decode cX8_shelves 65 = .ok (.bipush 99, 2) := by decide +kernel
theorem dX8_shelves_67 : decode cX8_shelves 67 = .ok (.iastore, 1) := by decide +kernel
theorem dX8_shelves_68 : decode cX8_shelves 68 = .ok (.iconst 1, 1) := by decide +kernel
theorem dX8_shelves_69 : decode cX8_shelves 69 = .ok (.istore_n 3, 1) := by decide +kernel
theorem dX8_shelves_70 : decode cX8_shelves 70 = .ok (.iload_n 3, 1) := by decide +kernel
theorem dX8_shelves_71 : decode cX8_shelves 71 = .ok (.iload_n 2, 1) := by decide +kernel
theorem dX8_shelves_72 : decode cX8_shelves 72 = .ok (.if_icmp .gt 100, 3) := by decide +kernel
theorem dX8_shelves_75 : decode cX8_shelves 75 = .ok (.iload_n 3, 1) := by decide +kernel
theorem dX8_shelves_76 : decode cX8_shelves 76 = .ok (.iload_n 2, 1) := by decide +kernel
theorem dX8_shelves_77 : decode cX8_shelves 77 = .ok (.iconst (-1), 1) := by decide +kernel
theorem dX8_shelves_78 : decode cX8_shelves 78 = .ok (.ixor, 1) := by decide +kernel
theorem dX8_shelves_79 : decode cX8_shelves 79 = .ok (.iand, 1) := by decide +kernel
theorem dX8_shelves_80 : decode cX8_shelves 80 = .ok (.ifCond .ne 30, 3) := by decide +kernel
theorem dX8_shelves_83 : decode cX8_shelves 83 = .ok (.aload_n 0, 1) := by decide +kernel
theorem dX8_shelves_84 : decode cX8_shelves 84 = .ok (.getfield 41, 3) := by decide +kernel
theorem dX8_shelves_87 : decode cX8_shelves 87 = .ok (.iload_n 2, 1) := by decide +kernel
theorem dX8_shelves_88 : decode cX8_shelves 88 = .ok (.iload_n 3, 1) := by decide +kernel
theorem dX8_shelves_89 : decode cX8_shelves 89 = .ok (.iconst (-1), 1) := by decide +kernel
theorem dX8_shelves_90 : decode cX8_shelves 90 = .ok (.ixor, 1) := by decide +kernel
theorem dX8_shelves_91 : decode cX8_shelves 91 = .ok (.iand, 1) := by decide +kernel
theorem dX8_shelves_92 : decode cX8_shelves 92 = .ok (.iaload, 1) := by decide +kernel
theorem dX8_shelves_93 : decode cX8_shelves 93 = .ok (.bipush 99, 2) := by decide +kernel
theorem dX8_shelves_95 : decode cX8_shelves 95 = .ok (.if_icmp .ge 15, 3) := by decide +kernel
theorem dX8_shelves_98 : decode cX8_shelves 98 = .ok (.aload_n 0, 1) := by decide +kernel
theorem dX8_shelves_99 : decode cX8_shelves 99 = .ok (.iload_n 3, 1) := by decide +kernel
theorem dX8_shelves_100 : decode cX8_shelves 100 = .ok (.invokevirtual 145, 3) := by decide +kernel
theorem dX8_shelves_103 : decode cX8_shelves 103 = .ok (.ifCond .eq 7, 3) := by decide +kernel
theorem dX8_shelves_106 : decode cX8_shelves 106 = .ok (.iconst 1, 1) := by decide +kernel
theorem dX8_shelves_107 : decode cX8_shelves 107 = .ok (.goto 4, 3) := by decide +kernel
theorem dX8_shelves_110 : decode cX8_shelves 110 = .ok (.iconst 0, 1) := by decide +kernel
theorem dX8_shelves_111 : decode cX8_shelves 111 = .ok (.istore 4, 2) := by decide +kernel
theorem dX8_shelves_113 : decode cX8_shelves 113 = .ok (.aload_n 0, 1) := by decide +kernel
theorem dX8_shelves_114 : decode cX8_shelves 114 = .ok (.getfield 41, 3) := by decide +kernel
theorem dX8_shelves_117 : decode cX8_shelves 117 = .ok (.iload_n 2, 1) := by decide +kernel
theorem dX8_shelves_118 : decode cX8_shelves 118 = .ok (.iload 4, 2) := by decide +kernel
theorem dX8_shelves_120 : decode cX8_shelves 120 = .ok (.ifCond .eq 39, 3) := by decide +kernel
theorem dX8_shelves_123 : decode cX8_shelves 123 = .ok (.aload_n 0, 1) := by decide +kernel
theorem dX8_shelves_124 : decode cX8_shelves 124 = .ok (.getfield 41, 3) := by decide +kernel
theorem dX8_shelves_127 : decode cX8_shelves 127 = .ok (.iload_n 2, 1) := by decide +kernel
theorem dX8_shelves_128 : decode cX8_shelves 128 = .ok (.iload_n 3, 1) := by decide +kernel
theorem dX8_shelves_129 : decode cX8_shelves 129 = .ok (.iconst (-1), 1) := by decide +kernel
theorem dX8_shelves_130 : decode cX8_shelves 130 = .ok (.ixor, 1) := by decide +kernel
theorem dX8_shelves_131 : decode cX8_shelves 131 = .ok (.iand, 1) := by decide +kernel
theorem dX8_shelves_132 : decode cX8_shelves 132 = .ok (.iaload, 1) := by decide +kernel
theorem dX8_shelves_133 : decode cX8_shelves 133 = .ok (.iconst 1, 1) := by decide +kernel
theorem dX8_shelves_134 : decode cX8_shelves 134 = .ok (.iadd, 1) := by decide +kernel
theorem dX8_shelves_135 : decode cX8_shelves 135 = .ok (.aload_n 0, 1) := by decide +kernel
theorem dX8_shelves_136 : decode cX8_shelves 136 = .ok (.getfield 41, 3) := by decide +kernel
theorem dX8_shelves_139 : decode cX8_shelves 139 = .ok (.iload_n 2, 1) := by decide +kernel
theorem dX8_shelves_140 : decode cX8_shelves 140 = .ok (.iaload, 1) := by decide +kernel
theorem dX8_shelves_141 : decode cX8_shelves 141 = .ok (.if_icmp .ge 18, 3) := by decide +kernel
theorem dX8_shelves_144 : decode cX8_shelves 144 = .ok (.aload_n 0, 1) := by decide +kernel
theorem dX8_shelves_145 : decode cX8_shelves 145 = .ok (.getfield 41, 3) := by decide +kernel
theorem dX8_shelves_148 : decode cX8_shelves 148 = .ok (.iload_n 2, 1) := by decide +kernel
theorem dX8_shelves_149 : decode cX8_shelves 149 = .ok (.iload_n 3, 1) := by decide +kernel
theorem dX8_shelves_150 : decode cX8_shelves 150 = .ok (.iconst (-1), 1) := by decide +kernel
theorem dX8_shelves_151 : decode cX8_shelves 151 = .ok (.ixor, 1) := by decide +kernel
theorem dX8_shelves_152 : decode cX8_shelves 152 = .ok (.iand, 1) := by decide +kernel
theorem dX8_shelves_153 : decode cX8_shelves 153 = .ok (.iaload, 1) := by decide +kernel
theorem dX8_shelves_154 : decode cX8_shelves 154 = .ok (.iconst 1, 1) := by decide +kernel
theorem dX8_shelves_155 : decode cX8_shelves 155 = .ok (.iadd, 1) := by decide +kernel
theorem dX8_shelves_156 : decode cX8_shelves 156 = .ok (.goto 9, 3) := by decide +kernel
theorem dX8_shelves_159 : decode cX8_shelves 159 = .ok (.aload_n 0, 1) := by decide +kernel
theorem dX8_shelves_160 : decode cX8_shelves 160 = .ok (.getfield 41, 3) := by decide +kernel
theorem dX8_shelves_163 : decode cX8_shelves 163 = .ok (.iload_n 2, 1) := by decide +kernel
theorem dX8_shelves_164 : decode cX8_shelves 164 = .ok (.iaload, 1) := by decide +kernel
theorem dX8_shelves_165 : decode cX8_shelves 165 = .ok (.iastore, 1) := by decide +kernel
theorem dX8_shelves_166 : decode cX8_shelves 166 = .ok (.iinc 3 1, 3) := by decide +kernel
theorem dX8_shelves_169 : decode cX8_shelves 169 = .ok (.goto (-99), 3) := by decide +kernel
theorem dX8_shelves_172 : decode cX8_shelves 172 = .ok (.iinc 2 1, 3) := by decide +kernel
theorem dX8_shelves_175 : decode cX8_shelves 175 = .ok (.goto (-135), 3) := by decide +kernel
theorem dX8_shelves_178 : decode cX8_shelves 178 = .ok (.aload_n 0, 1) := by decide +kernel
theorem dX8_shelves_179 : decode cX8_shelves 179 = .ok (.getfield 41, 3) := by decide +kernel
theorem dX8_shelves_182 : decode cX8_shelves 182 = .ok (.iload_n 1, 1) := by decide +kernel
theorem dX8_shelves_183 : decode cX8_shelves 183 = .ok (.iaload, 1) := by decide +kernel
theorem dX8_shelves_184 : decode cX8_shelves 184 = .ok (.bipush 99, 2) := by decide +kernel
theorem dX8_shelves_186 : decode cX8_shelves 186 = .ok (.if_icmp .ne 8, 3) := by decide +kernel
theorem dX8_shelves_189 : decode cX8_shelves 189 = .ok (.bipush (-9), 2) := by decide +kernel
theorem dX8_shelves_191 : decode cX8_shelves 191 = .ok (.goto 9, 3) := by decide +kernel
theorem dX8_shelves_194 : decode cX8_shelves 194 = .ok (.aload_n 0, 1) := by decide +kernel
theorem dX8_shelves_195 : decode cX8_shelves 195 = .ok (.getfield 41, 3) := by decide +kernel
theorem dX8_shelves_198 : decode cX8_shelves 198 = .ok (.iload_n 1, 1) := by decide +kernel
theorem dX8_shelves_199 : decode cX8_shelves 199 = .ok (.iaload, 1) := by decide +kernel
theorem dX8_shelves_200 : decode cX8_shelves 200 = .ok (.ireturn, 1) := by decide +kernel
theorem dX8_beside_0 : decode cX8_beside 0 = .ok (.aload_n 0, 1) := by decide +kernel
theorem dX8_beside_1 : decode cX8_beside 1 = .ok (.iload_n 1, 1) := by decide +kernel
theorem dX8_beside_2 : decode cX8_beside 2 = .ok (.invokevirtual 104, 3) := by decide +kernel
theorem dX8_beside_5 : decode cX8_beside 5 = .ok (.ifCond .ne 5, 3) := by decide +kernel
theorem dX8_beside_8 : decode cX8_beside 8 = .ok (.iconst (-1), 1) := by decide +kernel
theorem dX8_beside_9 : decode cX8_beside 9 = .ok (.ireturn, 1) := by decide +kernel
theorem dX8_beside_10 : decode cX8_beside 10 = .ok (.bipush (-9), 2) := by decide +kernel
theorem dX8_beside_12 : decode cX8_beside 12 = .ok (.istore_n 2, 1) := by decide +kernel
theorem dX8_beside_13 : decode cX8_beside 13 = .ok (.iconst 0, 1) := by decide +kernel
theorem dX8_beside_14 : decode cX8_beside 14 = .ok (.istore_n 3, 1) := by decide +kernel
theorem dX8_beside_15 : decode cX8_beside 15 = .ok (.iload_n 3, 1) := by decide +kernel
theorem dX8_beside_16 : decode cX8_beside 16 = .ok (.iconst 1, 1) := by decide +kernel
theorem dX8_beside_17 : decode cX8_beside 17 = .ok (.aload_n 0, 1) := by decide +kernel
theorem dX8_beside_18 : decode cX8_beside 18 = .ok (.getfield 13, 3) := by decide +kernel
theorem dX8_beside_21 : decode cX8_beside 21 = .ok (.iconst 0, 1) := by decide +kernel
theorem dX8_beside_22 : decode cX8_beside 22 = .ok (.iaload, 1) := by decide +kernel
theorem dX8_beside_23 : decode cX8_beside 23 = .ok (.ishl, 1) := by decide +kernel
theorem dX8_beside_24 : decode cX8_beside 24 = .ok (.if_icmp .ge 109, 3) := by decide +kernel
theorem dX8_beside_27 : decode cX8_beside 27 = .ok (.iload_n 3, 1) := by decide +kernel
theorem dX8_beside_28 : decode cX8_beside 28 = .ok (.iload_n 1, 1) := by decide +kernel
theorem dX8_beside_29 : decode cX8_beside 29 = .ok (.ishr, 1) := by decide +kernel
theorem dX8_beside_30 : decode cX8_beside 30 = .ok (.iconst 1, 1) := by decide +kernel
theorem dX8_beside_31 : decode cX8_beside 31 = .ok (.iand, 1) := by decide +kernel
theorem dX8_beside_32 : decode cX8_beside 32 = .ok (.iconst 1, 1) := by decide +kernel
theorem dX8_beside_33 : decode cX8_beside 33 = .ok (.if_icmp .ne 15, 3) := by decide +kernel
theorem dX8_beside_36 : decode cX8_beside 36 = .ok (.aload_n 0, 1) := by decide +kernel
theorem dX8_beside_37 : decode cX8_beside 37 = .ok (.iload_n 3, 1) := by decide +kernel
theorem dX8_beside_38 : decode cX8_beside 38 = .ok (.invokevirtual 145, 3) := by decide +kernel
theorem dX8_beside_41 : decode cX8_beside 41 = .ok (.ifCond .eq 7, 3) := by decide +kernel
theorem dX8_beside_44 : decode cX8_beside 44 = .ok (.iconst 1, 1) := by decide +kernel
theorem dX8_beside_45 : decode cX8_beside 45 = .ok (.goto 4, 3) := by decide +kernel
theorem dX8_beside_48 : decode cX8_beside 48 = .ok (.iconst 0, 1) := by decide +kernel
theorem dX8_beside_49 : decode cX8_beside 49 = .ok (.istore 4, 2) := by decide +kernel
theorem dX8_beside_51 : decode cX8_beside 51 = .ok (.iconst 0, 1) := by decide +kernel
theorem dX8_beside_52 : decode cX8_beside 52 = .ok (.istore 5, 2) := by decide +kernel
theorem dX8_beside_54 : decode cX8_beside 54 = .ok (.iload 5, 2) := by decide +kernel
theorem dX8_beside_56 : decode cX8_beside 56 = .ok (.aload_n 0, 1) := by decide +kernel
theorem dX8_beside_57 : decode cX8_beside 57 = .ok (.getfield 13, 3) := by decide +kernel
theorem dX8_beside_60 : decode cX8_beside 60 = .ok (.iconst 0, 1) := by decide +kernel
theorem dX8_beside_61 : decode cX8_beside 61 = .ok (.iaload, 1) := by decide +kernel
theorem dX8_beside_62 : decode cX8_beside 62 = .ok (.if_icmp .ge 39, 3) := by decide +kernel
theorem dX8_beside_65 : decode cX8_beside 65 = .ok (.iload 4, 2) := by decide +kernel
theorem dX8_beside_67 : decode cX8_beside 67 = .ok (.ifCond .eq 25, 3) := by decide +kernel
theorem dX8_beside_70 : decode cX8_beside 70 = .ok (.iload_n 3, 1) := by decide +kernel
theorem dX8_beside_71 : decode cX8_beside 71 = .ok (.iload 5, 2) := by decide +kernel
theorem dX8_beside_73 : decode cX8_beside 73 = .ok (.ishr, 1) := by decide +kernel
theorem dX8_beside_74 : decode cX8_beside 74 = .ok (.iconst 1, 1) := by decide +kernel
theorem dX8_beside_75 : decode cX8_beside 75 = .ok (.iand, 1) := by decide +kernel
theorem dX8_beside_76 : decode cX8_beside 76 = .ok (.ifCond .eq 12, 3) := by decide +kernel
theorem dX8_beside_79 : decode cX8_beside 79 = .ok (.aload_n 0, 1) := by decide +kernel
theorem dX8_beside_80 : decode cX8_beside 80 = .ok (.iload 5, 2) := by decide +kernel
theorem dX8_beside_82 : decode cX8_beside 82 = .ok (.invokevirtual 98, 3) := by decide +kernel
theorem dX8_beside_85 : decode cX8_beside 85 = .ok (.ifCond .le 7, 3) := by decide +kernel
theorem dX8_beside_88 : decode cX8_beside 88 = .ok (.iconst 1, 1) := by decide +kernel
theorem dX8_beside_89 : decode cX8_beside 89 = .ok (.goto 4, 3) := by decide +kernel
theorem dX8_beside_92 : decode cX8_beside 92 = .ok (.iconst 0, 1) := by decide +kernel
theorem dX8_beside_93 : decode cX8_beside 93 = .ok (.istore 4, 2) := by decide +kernel
theorem dX8_beside_95 : decode cX8_beside 95 = .ok (.iinc 5 1, 3) := by decide +kernel
theorem dX8_beside_98 : decode cX8_beside 98 = .ok (.goto (-44), 3) := by decide +kernel
theorem dX8_beside_101 : decode cX8_beside 101 = .ok (.iload 4, 2) := by decide +kernel
theorem dX8_beside_103 : decode cX8_beside 103 = .ok (.ifCond .eq 22, 3) := by decide +kernel
theorem dX8_beside_106 : decode cX8_beside 106 = .ok (.iload_n 3, 1) := by decide +kernel
theorem dX8_beside_107 : decode cX8_beside 107 = .ok (.invokestatic 136, 3) := by decide +kernel
theorem dX8_beside_110 : decode cX8_beside 110 = .ok (.iconst 1, 1) := by decide +kernel
theorem dX8_beside_111 : decode cX8_beside 111 = .ok (.isub, 1) := by decide +kernel
theorem dX8_beside_112 : decode cX8_beside 112 = .ok (.iload_n 2, 1) := by decide +kernel
theorem dX8_beside_113 : decode cX8_beside 113 = .ok (.if_icmp .le 12, 3) := by decide +kernel
theorem dX8_beside_116 : decode cX8_beside 116 = .ok (.iload_n 3, 1) := by decide +kernel
theorem dX8_beside_117 : decode cX8_beside 117 = .ok (.invokestatic 136, 3) := by decide +kernel
theorem dX8_beside_120 : decode cX8_beside 120 = .ok (.iconst 1, 1) := by decide +kernel
theorem dX8_beside_121 : decode cX8_beside 121 = .ok (.isub, 1) := by decide +kernel
theorem dX8_beside_122 : decode cX8_beside 122 = .ok (.goto 4, 3) := by decide +kernel
theorem dX8_beside_125 : decode cX8_beside 125 = .ok (.iload_n 2, 1) := by decide +kernel
theorem dX8_beside_126 : decode cX8_beside 126 = .ok (.istore_n 2, 1) := by decide +kernel
theorem dX8_beside_127 : decode cX8_beside 127 = .ok (.iinc 3 1, 3) := by decide +kernel
theorem dX8_beside_130 : decode cX8_beside 130 = .ok (.goto (-115), 3) := by decide +kernel
theorem dX8_beside_133 : decode cX8_beside 133 = .ok (.iload_n 2, 1) := by decide +kernel
theorem dX8_beside_134 : decode cX8_beside 134 = .ok (.ireturn, 1) := by decide +kernel
theorem dX8_odds_0 : decode cX8_odds 0 = .ok (.iload_n 1, 1) := by decide +kernel
theorem dX8_odds_1 : decode cX8_odds 1 = .ok (.iconst 0, 1) := by decide +kernel
theorem dX8_odds_2 : decode cX8_odds 2 = .ok (.bipush 10, 2) := by decide +kernel
theorem dX8_odds_4 : decode cX8_odds 4 = .ok (.invokestatic 51, 3) := by decide +kernel
theorem dX8_odds_7 : decode cX8_odds 7 = .ok (.ifCond .eq 22, 3) := by decide +kernel
theorem dX8_odds_10 : decode cX8_odds 10 = .ok (.iload_n 2, 1) := by decide +kernel
theorem dX8_odds_11 : decode cX8_odds 11 = .ok (.iconst 0, 1) := by decide +kernel
theorem dX8_odds_12 : decode cX8_odds 12 = .ok (.bipush 7, 2) := by decide +kernel
theorem dX8_odds_14 : decode cX8_odds 14 = .ok (.invokestatic 51, 3) := by decide +kernel
theorem dX8_odds_17 : decode cX8_odds 17 = .ok (.ifCond .eq 12, 3) := by decide +kernel
theorem dX8_odds_20 : decode cX8_odds 20 = .ok (.iload_n 3, 1) := by decide +kernel
theorem dX8_odds_21 : decode cX8_odds 21 = .ok (.iconst 0, 1) := by decide +kernel
theorem dX8_odds_22 : decode cX8_odds 22 = .ok (.iconst 1, 1) := by decide +kernel
theorem dX8_odds_23 : decode cX8_odds 23 = .ok (.invokestatic 51, 3) := by decide +kernel
theorem dX8_odds_26 : decode cX8_odds 26 = .ok (.ifCond .ne 5, 3) := by decide +kernel
theorem dX8_odds_29 : decode cX8_odds 29 = .ok (.iconst (-1), 1) := by decide +kernel
theorem dX8_odds_30 : decode cX8_odds 30 = .ok (.ireturn, 1) := by decide +kernel
theorem dX8_odds_31 : decode cX8_odds 31 = .ok (.aload_n 0, 1) := by decide +kernel
theorem dX8_odds_32 : decode cX8_odds 32 = .ok (.invokevirtual 111, 3) := by decide +kernel
theorem dX8_odds_35 : decode cX8_odds 35 = .ok (.invokestatic 136, 3) := by decide +kernel
theorem dX8_odds_38 : decode cX8_odds 38 = .ok (.istore 4, 2) := by decide +kernel
theorem dX8_odds_40 : decode cX8_odds 40 = .ok (.iconst 0, 1) := by decide +kernel
theorem dX8_odds_41 : decode cX8_odds 41 = .ok (.istore 5, 2) := by decide +kernel
theorem dX8_odds_43 : decode cX8_odds 43 = .ok (.iconst 1, 1) := by decide +kernel
theorem dX8_odds_44 : decode cX8_odds 44 = .ok (.istore 6, 2) := by decide +kernel
theorem dX8_odds_46 : decode cX8_odds 46 = .ok (.iconst 0, 1) := by decide +kernel
theorem dX8_odds_47 : decode cX8_odds 47 = .ok (.istore 7, 2) := by decide +kernel
theorem dX8_odds_49 : decode cX8_odds 49 = .ok (.iload 7, 2) := by decide +kernel
theorem dX8_odds_51 : decode cX8_odds 51 = .ok (.iload 4, 2) := by decide +kernel
theorem dX8_odds_53 : decode cX8_odds 53 = .ok (.if_icmp .ge 16, 3) := by decide +kernel
theorem dX8_odds_56 : decode cX8_odds 56 = .ok (.iload 6, 2) := by decide +kernel
theorem dX8_odds_58 : decode cX8_odds 58 = .ok (.bipush 10, 2) := by decide +kernel
theorem dX8_odds_60 : decode cX8_odds 60 = .ok (.imul, 1) := by decide +kernel
theorem dX8_odds_61 : decode cX8_odds 61 = .ok (.istore 6, 2) := by decide +kernel
theorem dX8_odds_63 : decode cX8_odds 63 = .ok (.iinc 7 1, 3) := by decide +kernel
theorem dX8_odds_66 : decode cX8_odds 66 = .ok (.goto (-17), 3) := by decide +kernel
theorem dX8_odds_69 : decode cX8_odds 69 = .ok (.iconst 0, 1) := by decide +kernel
theorem dX8_odds_70 : decode cX8_odds 70 = .ok (.istore 7, 2) := by decide +kernel
theorem dX8_odds_72 : decode cX8_odds 72 = .ok (.iload 7, 2) := by decide +kernel
theorem dX8_odds_74 : decode cX8_odds 74 = .ok (.iconst 1, 1) := by decide +kernel
theorem dX8_odds_75 : decode cX8_odds 75 = .ok (.iload 4, 2) := by decide +kernel
theorem dX8_odds_77 : decode cX8_odds 77 = .ok (.ishl, 1) := by decide +kernel
theorem dX8_odds_78 : decode cX8_odds 78 = .ok (.if_icmp .ge 72, 3) := by decide +kernel
theorem dX8_odds_81 : decode cX8_odds 81 = .ok (.iconst 1, 1) := by decide +kernel
theorem dX8_odds_82 : decode cX8_odds 82 = .ok (.istore 8, 2) := by decide +kernel
theorem dX8_odds_84 : decode cX8_odds 84 = .ok (.iconst 0, 1) := by decide +kernel
theorem dX8_odds_85 : decode cX8_odds 85 = .ok (.istore 9, 2) := by decide +kernel
theorem dX8_odds_87 : decode cX8_odds 87 = .ok (.iload 9, 2) := by decide +kernel
theorem dX8_odds_89 : decode cX8_odds 89 = .ok (.iload 4, 2) := by decide +kernel
theorem dX8_odds_91 : decode cX8_odds 91 = .ok (.if_icmp .ge 33, 3) := by decide +kernel
theorem dX8_odds_94 : decode cX8_odds 94 = .ok (.iload 8, 2) := by decide +kernel
theorem dX8_odds_96 : decode cX8_odds 96 = .ok (.iload 7, 2) := by decide +kernel
theorem dX8_odds_98 : decode cX8_odds 98 = .ok (.iload 9, 2) := by decide +kernel
theorem dX8_odds_100 : decode cX8_odds 100 = .ok (.ishr, 1) := by decide +kernel
theorem dX8_odds_101 : decode cX8_odds 101 = .ok (.iconst 1, 1) := by decide +kernel
theorem dX8_odds_102 : decode cX8_odds 102 = .ok (.iand, 1) := by decide +kernel
theorem dX8_odds_103 : decode cX8_odds 103 = .ok (.iconst 1, 1) := by decide +kernel
theorem dX8_odds_104 : decode cX8_odds 104 = .ok (.if_icmp .ne 10, 3) := by decide +kernel
theorem dX8_odds_107 : decode cX8_odds 107 = .ok (.bipush 10, 2) := by decide +kernel
theorem dX8_odds_109 : decode cX8_odds 109 = .ok (.iload_n 1, 1) := by decide +kernel
theorem dX8_odds_110 : decode cX8_odds 110 = .ok (.isub, 1) := by decide +kernel
theorem dX8_odds_111 : decode cX8_odds 111 = .ok (.goto 4, 3) := by decide +kernel
theorem dX8_odds_114 : decode cX8_odds 114 = .ok (.iload_n 1, 1) := by decide +kernel
theorem dX8_odds_115 : decode cX8_odds 115 = .ok (.imul, 1) := by decide +kernel
theorem dX8_odds_116 : decode cX8_odds 116 = .ok (.istore 8, 2) := by decide +kernel
theorem dX8_odds_118 : decode cX8_odds 118 = .ok (.iinc 9 1, 3) := by decide +kernel
theorem dX8_odds_121 : decode cX8_odds 121 = .ok (.goto (-34), 3) := by decide +kernel
theorem dX8_odds_124 : decode cX8_odds 124 = .ok (.iload 5, 2) := by decide +kernel
theorem dX8_odds_126 : decode cX8_odds 126 = .ok (.iload 7, 2) := by decide +kernel
theorem dX8_odds_128 : decode cX8_odds 128 = .ok (.invokestatic 136, 3) := by decide +kernel
theorem dX8_odds_131 : decode cX8_odds 131 = .ok (.iload_n 2, 1) := by decide +kernel
theorem dX8_odds_132 : decode cX8_odds 132 = .ok (.if_icmp .lt 8, 3) := by decide +kernel
theorem dX8_odds_135 : decode cX8_odds 135 = .ok (.iload 8, 2) := by decide +kernel
theorem dX8_odds_137 : decode cX8_odds 137 = .ok (.goto 4, 3) := by decide +kernel
theorem dX8_odds_140 : decode cX8_odds 140 = .ok (.iconst 0, 1) := by decide +kernel
theorem dX8_odds_141 : decode cX8_odds 141 = .ok (.iadd, 1) := by decide +kernel
theorem dX8_odds_142 : decode cX8_odds 142 = .ok (.istore 5, 2) := by decide +kernel
theorem dX8_odds_144 : decode cX8_odds 144 = .ok (.iinc 7 1, 3) := by decide +kernel
theorem dX8_odds_147 : decode cX8_odds 147 = .ok (.goto (-75), 3) := by decide +kernel
theorem dX8_odds_150 : decode cX8_odds 150 = .ok (.iload 5, 2) := by decide +kernel
theorem dX8_odds_152 : decode cX8_odds 152 = .ok (.istore 7, 2) := by decide +kernel
theorem dX8_odds_154 : decode cX8_odds 154 = .ok (.iload 6, 2) := by decide +kernel
theorem dX8_odds_156 : decode cX8_odds 156 = .ok (.istore 8, 2) := by decide +kernel
theorem dX8_odds_158 : decode cX8_odds 158 = .ok (.iload 8, 2) := by decide +kernel
theorem dX8_odds_160 : decode cX8_odds 160 = .ok (.ifCond .le 21, 3) := by decide +kernel
theorem dX8_odds_163 : decode cX8_odds 163 = .ok (.iload 7, 2) := by decide +kernel
theorem dX8_odds_165 : decode cX8_odds 165 = .ok (.iload 8, 2) := by decide +kernel
theorem dX8_odds_167 : decode cX8_odds 167 = .ok (.irem, 1) := by decide +kernel
theorem dX8_odds_168 : decode cX8_odds 168 = .ok (.istore 9, 2) := by decide +kernel
theorem dX8_odds_170 : decode cX8_odds 170 = .ok (.iload 8, 2) := by decide +kernel
theorem dX8_odds_172 : decode cX8_odds 172 = .ok (.istore 7, 2) := by decide +kernel
theorem dX8_odds_174 : decode cX8_odds 174 = .ok (.iload 9, 2) := by decide +kernel
theorem dX8_odds_176 : decode cX8_odds 176 = .ok (.istore 8, 2) := by decide +kernel
theorem dX8_odds_178 : decode cX8_odds 178 = .ok (.goto (-20), 3) := by decide +kernel
theorem dX8_odds_181 : decode cX8_odds 181 = .ok (.iload_n 3, 1) := by decide +kernel
theorem dX8_odds_182 : decode cX8_odds 182 = .ok (.ifCond .ne 11, 3) := by decide +kernel
theorem dX8_odds_185 : decode cX8_odds 185 = .ok (.iload 5, 2) := by decide +kernel
theorem dX8_odds_187 : decode cX8_odds 187 = .ok (.iload 7, 2) := by decide +kernel
theorem dX8_odds_189 : decode cX8_odds 189 = .ok (.idiv, 1) := by decide +kernel
theorem dX8_odds_190 : decode cX8_odds 190 = .ok (.goto 8, 3) := by decide +kernel
theorem dX8_odds_193 : decode cX8_odds 193 = .ok (.iload 6, 2) := by decide +kernel
theorem dX8_odds_195 : decode cX8_odds 195 = .ok (.iload 7, 2) := by decide +kernel
theorem dX8_odds_197 : decode cX8_odds 197 = .ok (.idiv, 1) := by decide +kernel
theorem dX8_odds_198 : decode cX8_odds 198 = .ok (.ireturn, 1) := by decide +kernel
theorem dX8_rate_0 : decode cX8_rate 0 = .ok (.iload_n 1, 1) := by decide +kernel
theorem dX8_rate_1 : decode cX8_rate 1 = .ok (.iconst 0, 1) := by decide +kernel
theorem dX8_rate_2 : decode cX8_rate 2 = .ok (.iconst 5, 1) := by decide +kernel
theorem dX8_rate_3 : decode cX8_rate 3 = .ok (.invokestatic 51, 3) := by decide +kernel
theorem dX8_rate_6 : decode cX8_rate 6 = .ok (.ifCond .eq 11, 3) := by decide +kernel
theorem dX8_rate_9 : decode cX8_rate 9 = .ok (.aload_n 0, 1) := by decide +kernel
theorem dX8_rate_10 : decode cX8_rate 10 = .ok (.iload_n 2, 1) := by decide +kernel
theorem dX8_rate_11 : decode cX8_rate 11 = .ok (.invokevirtual 104, 3) := by decide +kernel
theorem dX8_rate_14 : decode cX8_rate 14 = .ok (.ifCond .ne 6, 3) := by decide +kernel
theorem dX8_rate_17 : decode cX8_rate 17 = .ok (.ldc 148, 2) := by decide +kernel
theorem dX8_rate_19 : decode cX8_rate 19 = .ok (.ireturn, 1) := by decide +kernel
theorem dX8_rate_20 : decode cX8_rate 20 = .ok (.aload_n 0, 1) := by decide +kernel
theorem dX8_rate_21 : decode cX8_rate 21 = .ok (.dup, 1) := by decide +kernel
theorem dX8_rate_22 : decode cX8_rate 22 = .ok (.getfield 149, 3) := by decide +kernel
theorem dX8_rate_25 : decode cX8_rate 25 = .ok (.iload_n 1, 1) := by decide +kernel
theorem dX8_rate_26 : decode cX8_rate 26 = .ok (.ifCond .ne 7, 3) := by decide +kernel
theorem dX8_rate_29 : decode cX8_rate 29 = .ok (.lconst 1, 1) := by decide +kernel
theorem dX8_rate_30 : decode cX8_rate 30 = .ok (.goto 50, 3) := by decide +kernel
theorem dX8_rate_33 : decode cX8_rate 33 = .ok (.iload_n 1, 1) := by decide +kernel
theorem dX8_rate_34 : decode cX8_rate 34 = .ok (.iconst 1, 1) := by decide +kernel
theorem dX8_rate_35 : decode cX8_rate 35 = .ok (.if_icmp .ne 9, 3) := by decide +kernel
theorem dX8_rate_38 : decode cX8_rate 38 = .ok (.ldc2_w 153, 3) := by decide +kernel
theorem dX8_rate_41 : decode cX8_rate 41 = .ok (.goto 39, 3) := by decide +kernel
theorem dX8_rate_44 : decode cX8_rate 44 = .ok (.iload_n 1, 1) := by decide +kernel
theorem dX8_rate_45 : decode cX8_rate 45 = .ok (.iconst 2, 1) := by decide +kernel
theorem dX8_rate_46 : decode cX8_rate 46 = .ok (.if_icmp .ne 9, 3) := by decide +kernel
theorem dX8_rate_49 : decode cX8_rate 49 = .ok (.ldc2_w 155, 3) := by decide +kernel
theorem dX8_rate_52 : decode cX8_rate 52 = .ok (.goto 28, 3) := by decide +kernel
theorem dX8_rate_55 : decode cX8_rate 55 = .ok (.iload_n 1, 1) := by decide +kernel
theorem dX8_rate_56 : decode cX8_rate 56 = .ok (.iconst 3, 1) := by decide +kernel
theorem dX8_rate_57 : decode cX8_rate 57 = .ok (.if_icmp .ne 9, 3) := by decide +kernel
theorem dX8_rate_60 : decode cX8_rate 60 = .ok (.ldc2_w 157, 3) := by decide +kernel
theorem dX8_rate_63 : decode cX8_rate 63 = .ok (.goto 17, 3) := by decide +kernel
theorem dX8_rate_66 : decode cX8_rate 66 = .ok (.iload_n 1, 1) := by decide +kernel
theorem dX8_rate_67 : decode cX8_rate 67 = .ok (.iconst 4, 1) := by decide +kernel
theorem dX8_rate_68 : decode cX8_rate 68 = .ok (.if_icmp .ne 9, 3) := by decide +kernel
theorem dX8_rate_71 : decode cX8_rate 71 = .ok (.ldc2_w 159, 3) := by decide +kernel
theorem dX8_rate_74 : decode cX8_rate 74 = .ok (.goto 6, 3) := by decide +kernel
theorem dX8_rate_77 : decode cX8_rate 77 = .ok (.ldc2_w 161, 3) := by decide +kernel
theorem dX8_rate_80 : decode cX8_rate 80 = .ok (.ladd, 1) := by decide +kernel
theorem dX8_rate_81 : decode cX8_rate 81 = .ok (.putfield 149, 3) := by decide +kernel
theorem dX8_rate_84 : decode cX8_rate 84 = .ok (.aload_n 0, 1) := by decide +kernel
theorem dX8_rate_85 : decode cX8_rate 85 = .ok (.iload_n 2, 1) := by decide +kernel
theorem dX8_rate_86 : decode cX8_rate 86 = .ok (.invokevirtual 98, 3) := by decide +kernel
theorem dX8_rate_89 : decode cX8_rate 89 = .ok (.istore_n 3, 1) := by decide +kernel
theorem dX8_rate_90 : decode cX8_rate 90 = .ok (.iload_n 3, 1) := by decide +kernel
theorem dX8_rate_91 : decode cX8_rate 91 = .ok (.aload_n 0, 1) := by decide +kernel
theorem dX8_rate_92 : decode cX8_rate 92 = .ok (.getfield 13, 3) := by decide +kernel
theorem dX8_rate_95 : decode cX8_rate 95 = .ok (.bipush 19, 2) := by decide +kernel
theorem dX8_rate_97 : decode cX8_rate 97 = .ok (.iload_n 2, 1) := by decide +kernel
theorem dX8_rate_98 : decode cX8_rate 98 = .ok (.iadd, 1) := by decide +kernel
theorem dX8_rate_99 : decode cX8_rate 99 = .ok (.iaload, 1) := by decide +kernel
theorem dX8_rate_100 : decode cX8_rate 100 = .ok (.iadd, 1) := by decide +kernel
theorem dX8_rate_101 : decode cX8_rate 101 = .ok (.istore 4, 2) := by decide +kernel
theorem dX8_rate_103 : decode cX8_rate 103 = .ok (.iload_n 3, 1) := by decide +kernel
theorem dX8_rate_104 : decode cX8_rate 104 = .ok (.aload_n 0, 1) := by decide +kernel
theorem dX8_rate_105 : decode cX8_rate 105 = .ok (.getfield 13, 3) := by decide +kernel
theorem dX8_rate_108 : decode cX8_rate 108 = .ok (.iconst 5, 1) := by decide +kernel
theorem dX8_rate_109 : decode cX8_rate 109 = .ok (.iload_n 2, 1) := by decide +kernel
theorem dX8_rate_110 : decode cX8_rate 110 = .ok (.iadd, 1) := by decide +kernel
theorem dX8_rate_111 : decode cX8_rate 111 = .ok (.iaload, 1) := by decide +kernel
theorem dX8_rate_112 : decode cX8_rate 112 = .ok (.isub, 1) := by decide +kernel
theorem dX8_rate_113 : decode cX8_rate 113 = .ok (.istore 5, 2) := by decide +kernel
theorem dX8_rate_115 : decode cX8_rate 115 = .ok (.iload_n 1, 1) := by decide +kernel
theorem dX8_rate_116 : decode cX8_rate 116 = .ok (.ifCond .ne 7, 3) := by decide +kernel
theorem dX8_rate_119 : decode cX8_rate 119 = .ok (.iload_n 3, 1) := by decide +kernel
theorem dX8_rate_120 : decode cX8_rate 120 = .ok (.goto 56, 3) := by decide +kernel
theorem dX8_rate_123 : decode cX8_rate 123 = .ok (.iload_n 1, 1) := by decide +kernel
theorem dX8_rate_124 : decode cX8_rate 124 = .ok (.iconst 1, 1) := by decide +kernel
theorem dX8_rate_125 : decode cX8_rate 125 = .ok (.if_icmp .ne 8, 3) := by decide +kernel
theorem dX8_rate_128 : decode cX8_rate 128 = .ok (.iload 4, 2) := by decide +kernel
theorem dX8_rate_130 : decode cX8_rate 130 = .ok (.goto 46, 3) := by decide +kernel
theorem dX8_rate_133 : decode cX8_rate 133 = .ok (.iload_n 1, 1) := by decide +kernel
theorem dX8_rate_134 : decode cX8_rate 134 = .ok (.iconst 2, 1) := by decide +kernel
theorem dX8_rate_135 : decode cX8_rate 135 = .ok (.if_icmp .ne 8, 3) := by decide +kernel
theorem dX8_rate_138 : decode cX8_rate 138 = .ok (.iload 5, 2) := by decide +kernel
theorem dX8_rate_140 : decode cX8_rate 140 = .ok (.goto 36, 3) := by decide +kernel
theorem dX8_rate_143 : decode cX8_rate 143 = .ok (.iload_n 1, 1) := by decide +kernel
theorem dX8_rate_144 : decode cX8_rate 144 = .ok (.iconst 3, 1) := by decide +kernel
theorem dX8_rate_145 : decode cX8_rate 145 = .ok (.if_icmp .ne 10, 3) := by decide +kernel
theorem dX8_rate_148 : decode cX8_rate 148 = .ok (.iconst 2, 1) := by decide +kernel
theorem dX8_rate_149 : decode cX8_rate 149 = .ok (.iload 4, 2) := by decide +kernel
theorem dX8_rate_151 : decode cX8_rate 151 = .ok (.imul, 1) := by decide +kernel
theorem dX8_rate_152 : decode cX8_rate 152 = .ok (.goto 24, 3) := by decide +kernel
theorem dX8_rate_155 : decode cX8_rate 155 = .ok (.iload_n 1, 1) := by decide +kernel
theorem dX8_rate_156 : decode cX8_rate 156 = .ok (.iconst 4, 1) := by decide +kernel
theorem dX8_rate_157 : decode cX8_rate 157 = .ok (.if_icmp .ne 10, 3) := by decide +kernel
theorem dX8_rate_160 : decode cX8_rate 160 = .ok (.iload 5, 2) := by decide +kernel
theorem dX8_rate_162 : decode cX8_rate 162 = .ok (.iload_n 2, 1) := by decide +kernel
theorem dX8_rate_163 : decode cX8_rate 163 = .ok (.iadd, 1) := by decide +kernel
theorem dX8_rate_164 : decode cX8_rate 164 = .ok (.goto 12, 3) := by decide +kernel
theorem dX8_rate_167 : decode cX8_rate 167 = .ok (.iload_n 3, 1) := by decide +kernel
theorem dX8_rate_168 : decode cX8_rate 168 = .ok (.aload_n 0, 1) := by decide +kernel
theorem dX8_rate_169 : decode cX8_rate 169 = .ok (.getfield 19, 3) := by decide +kernel
theorem dX8_rate_172 : decode cX8_rate 172 = .ok (.bipush 49, 2) := by decide +kernel
theorem dX8_rate_174 : decode cX8_rate 174 = .ok (.iaload, 1) := by decide +kernel
theorem dX8_rate_175 : decode cX8_rate 175 = .ok (.iadd, 1) := by decide +kernel
theorem dX8_rate_176 : decode cX8_rate 176 = .ok (.ireturn, 1) := by decide +kernel
theorem dX8_keep_0 : decode cX8_keep 0 = .ok (.iload_n 1, 1) := by decide +kernel
theorem dX8_keep_1 : decode cX8_keep 1 = .ok (.iconst 0, 1) := by decide +kernel
theorem dX8_keep_2 : decode cX8_keep 2 = .ok (.iconst 1, 1) := by decide +kernel
theorem dX8_keep_3 : decode cX8_keep 3 = .ok (.invokestatic 51, 3) := by decide +kernel
theorem dX8_keep_6 : decode cX8_keep 6 = .ok (.ifCond .ne 5, 3) := by decide +kernel
theorem dX8_keep_9 : decode cX8_keep 9 = .ok (.iconst (-1), 1) := by decide +kernel
theorem dX8_keep_10 : decode cX8_keep 10 = .ok (.ireturn, 1) := by decide +kernel
theorem dX8_keep_11 : decode cX8_keep 11 = .ok (.iconst 0, 1) := by decide +kernel
theorem dX8_keep_12 : decode cX8_keep 12 = .ok (.istore_n 2, 1) := by decide +kernel
theorem dX8_keep_13 : decode cX8_keep 13 = .ok (.iload_n 2, 1) := by decide +kernel
theorem dX8_keep_14 : decode cX8_keep 14 = .ok (.bipush 51, 2) := by decide +kernel
theorem dX8_keep_16 : decode cX8_keep 16 = .ok (.if_icmp .ge 26, 3) := by decide +kernel
theorem dX8_keep_19 : decode cX8_keep 19 = .ok (.aload_n 0, 1) := by decide +kernel
theorem dX8_keep_20 : decode cX8_keep 20 = .ok (.getfield 25, 3) := by decide +kernel
theorem dX8_keep_23 : decode cX8_keep 23 = .ok (.bipush 51, 2) := by decide +kernel
theorem dX8_keep_25 : decode cX8_keep 25 = .ok (.iload_n 1, 1) := by decide +kernel
theorem dX8_keep_26 : decode cX8_keep 26 = .ok (.imul, 1) := by decide +kernel
theorem dX8_keep_27 : decode cX8_keep 27 = .ok (.iload_n 2, 1) := by decide +kernel
theorem dX8_keep_28 : decode cX8_keep 28 = .ok (.iadd, 1) := by decide +kernel
theorem dX8_keep_29 : decode cX8_keep 29 = .ok (.aload_n 0, 1) := by decide +kernel
theorem dX8_keep_30 : decode cX8_keep 30 = .ok (.getfield 19, 3) := by decide +kernel
theorem dX8_keep_33 : decode cX8_keep 33 = .ok (.iload_n 2, 1) := by decide +kernel
theorem dX8_keep_34 : decode cX8_keep 34 = .ok (.iaload, 1) := by decide +kernel
theorem dX8_keep_35 : decode cX8_keep 35 = .ok (.iastore, 1) := by decide +kernel
theorem dX8_keep_36 : decode cX8_keep 36 = .ok (.iinc 2 1, 3) := by decide +kernel
theorem dX8_keep_39 : decode cX8_keep 39 = .ok (.goto (-26), 3) := by decide +kernel
theorem dX8_keep_42 : decode cX8_keep 42 = .ok (.aload_n 0, 1) := by decide +kernel
theorem dX8_keep_43 : decode cX8_keep 43 = .ok (.getfield 28, 3) := by decide +kernel
theorem dX8_keep_46 : decode cX8_keep 46 = .ok (.iload_n 1, 1) := by decide +kernel
theorem dX8_keep_47 : decode cX8_keep 47 = .ok (.iconst 1, 1) := by decide +kernel
theorem dX8_keep_48 : decode cX8_keep 48 = .ok (.bastore, 1) := by decide +kernel
theorem dX8_keep_49 : decode cX8_keep 49 = .ok (.aload_n 0, 1) := by decide +kernel
theorem dX8_keep_50 : decode cX8_keep 50 = .ok (.getfield 19, 3) := by decide +kernel
theorem dX8_keep_53 : decode cX8_keep 53 = .ok (.bipush 49, 2) := by decide +kernel
theorem dX8_keep_55 : decode cX8_keep 55 = .ok (.iaload, 1) := by decide +kernel
theorem dX8_keep_56 : decode cX8_keep 56 = .ok (.ireturn, 1) := by decide +kernel
theorem dX8_back_0 : decode cX8_back 0 = .ok (.iload_n 1, 1) := by decide +kernel
theorem dX8_back_1 : decode cX8_back 1 = .ok (.iconst 0, 1) := by decide +kernel
theorem dX8_back_2 : decode cX8_back 2 = .ok (.iconst 1, 1) := by decide +kernel
theorem dX8_back_3 : decode cX8_back 3 = .ok (.invokestatic 51, 3) := by decide +kernel
theorem dX8_back_6 : decode cX8_back 6 = .ok (.ifCond .ne 5, 3) := by decide +kernel
theorem dX8_back_9 : decode cX8_back 9 = .ok (.iconst (-1), 1) := by decide +kernel
theorem dX8_back_10 : decode cX8_back 10 = .ok (.ireturn, 1) := by decide +kernel
theorem dX8_back_11 : decode cX8_back 11 = .ok (.aload_n 0, 1) := by decide +kernel
theorem dX8_back_12 : decode cX8_back 12 = .ok (.getfield 28, 3) := by decide +kernel
theorem dX8_back_15 : decode cX8_back 15 = .ok (.iload_n 1, 1) := by decide +kernel
theorem dX8_back_16 : decode cX8_back 16 = .ok (.baload, 1) := by decide +kernel
theorem dX8_back_17 : decode cX8_back 17 = .ok (.ifCond .ne 6, 3) := by decide +kernel
theorem dX8_back_20 : decode cX8_back 20 = .ok (.bipush (-2), 2) := by decide +kernel
theorem dX8_back_22 : decode cX8_back 22 = .ok (.ireturn, 1) := by decide +kernel
theorem dX8_back_23 : decode cX8_back 23 = .ok (.iconst 0, 1) := by decide +kernel
theorem dX8_back_24 : decode cX8_back 24 = .ok (.istore_n 2, 1) := by decide +kernel
theorem dX8_back_25 : decode cX8_back 25 = .ok (.iload_n 2, 1) := by decide +kernel
theorem dX8_back_26 : decode cX8_back 26 = .ok (.bipush 51, 2) := by decide +kernel
theorem dX8_back_28 : decode cX8_back 28 = .ok (.if_icmp .ge 26, 3) := by decide +kernel
theorem dX8_back_31 : decode cX8_back 31 = .ok (.aload_n 0, 1) := by decide +kernel
theorem dX8_back_32 : decode cX8_back 32 = .ok (.getfield 19, 3) := by decide +kernel
theorem dX8_back_35 : decode cX8_back 35 = .ok (.iload_n 2, 1) := by decide +kernel
theorem dX8_back_36 : decode cX8_back 36 = .ok (.aload_n 0, 1) := by decide +kernel
theorem dX8_back_37 : decode cX8_back 37 = .ok (.getfield 25, 3) := by decide +kernel
theorem dX8_back_40 : decode cX8_back 40 = .ok (.bipush 51, 2) := by decide +kernel
theorem dX8_back_42 : decode cX8_back 42 = .ok (.iload_n 1, 1) := by decide +kernel
theorem dX8_back_43 : decode cX8_back 43 = .ok (.imul, 1) := by decide +kernel
theorem dX8_back_44 : decode cX8_back 44 = .ok (.iload_n 2, 1) := by decide +kernel
theorem dX8_back_45 : decode cX8_back 45 = .ok (.iadd, 1) := by decide +kernel
theorem dX8_back_46 : decode cX8_back 46 = .ok (.iaload, 1) := by decide +kernel
theorem dX8_back_47 : decode cX8_back 47 = .ok (.iastore, 1) := by decide +kernel
theorem dX8_back_48 : decode cX8_back 48 = .ok (.iinc 2 1, 3) := by decide +kernel
theorem dX8_back_51 : decode cX8_back 51 = .ok (.goto (-26), 3) := by decide +kernel
theorem dX8_back_54 : decode cX8_back 54 = .ok (.aload_n 0, 1) := by decide +kernel
theorem dX8_back_55 : decode cX8_back 55 = .ok (.iconst 0, 1) := by decide +kernel
theorem dX8_back_56 : decode cX8_back 56 = .ok (.putfield 92, 3) := by decide +kernel
theorem dX8_back_59 : decode cX8_back 59 = .ok (.aload_n 0, 1) := by decide +kernel
theorem dX8_back_60 : decode cX8_back 60 = .ok (.getfield 19, 3) := by decide +kernel
theorem dX8_back_63 : decode cX8_back 63 = .ok (.bipush 49, 2) := by decide +kernel
theorem dX8_back_65 : decode cX8_back 65 = .ok (.iaload, 1) := by decide +kernel
theorem dX8_back_66 : decode cX8_back 66 = .ok (.ireturn, 1) := by decide +kernel
theorem dX8_count_0 : decode cX8_count 0 = .ok (.iload_n 1, 1) := by decide +kernel
theorem dX8_count_1 : decode cX8_count 1 = .ok (.tableswitch 66 0 4 #[35, 42, 49, 56, 61], 35) := by decide +kernel
theorem dX8_count_36 : decode cX8_count 36 = .ok (.aload_n 0, 1) := by decide +kernel
theorem dX8_count_37 : decode cX8_count 37 = .ok (.getfield 13, 3) := by decide +kernel
theorem dX8_count_40 : decode cX8_count 40 = .ok (.iconst 0, 1) := by decide +kernel
theorem dX8_count_41 : decode cX8_count 41 = .ok (.iaload, 1) := by decide +kernel
theorem dX8_count_42 : decode cX8_count 42 = .ok (.ireturn, 1) := by decide +kernel
theorem dX8_count_43 : decode cX8_count 43 = .ok (.aload_n 0, 1) := by decide +kernel
theorem dX8_count_44 : decode cX8_count 44 = .ok (.getfield 13, 3) := by decide +kernel
theorem dX8_count_47 : decode cX8_count 47 = .ok (.iconst 1, 1) := by decide +kernel
theorem dX8_count_48 : decode cX8_count 48 = .ok (.iaload, 1) := by decide +kernel
theorem dX8_count_49 : decode cX8_count 49 = .ok (.ireturn, 1) := by decide +kernel
theorem dX8_count_50 : decode cX8_count 50 = .ok (.aload_n 0, 1) := by decide +kernel
theorem dX8_count_51 : decode cX8_count 51 = .ok (.getfield 13, 3) := by decide +kernel
theorem dX8_count_54 : decode cX8_count 54 = .ok (.iconst 2, 1) := by decide +kernel
theorem dX8_count_55 : decode cX8_count 55 = .ok (.iaload, 1) := by decide +kernel
theorem dX8_count_56 : decode cX8_count 56 = .ok (.ireturn, 1) := by decide +kernel
theorem dX8_count_57 : decode cX8_count 57 = .ok (.aload_n 0, 1) := by decide +kernel
theorem dX8_count_58 : decode cX8_count 58 = .ok (.getfield 95, 3) := by decide +kernel
theorem dX8_count_61 : decode cX8_count 61 = .ok (.ireturn, 1) := by decide +kernel
theorem dX8_count_62 : decode cX8_count 62 = .ok (.aload_n 0, 1) := by decide +kernel
theorem dX8_count_63 : decode cX8_count 63 = .ok (.getfield 55, 3) := by decide +kernel
theorem dX8_count_66 : decode cX8_count 66 = .ok (.ireturn, 1) := by decide +kernel
theorem dX8_count_67 : decode cX8_count 67 = .ok (.iconst (-1), 1) := by decide +kernel
theorem dX8_count_68 : decode cX8_count 68 = .ok (.ireturn, 1) := by decide +kernel
theorem dX8_trace_0 : decode cX8_trace 0 = .ok (.aload_n 0, 1) := by decide +kernel
theorem dX8_trace_1 : decode cX8_trace 1 = .ok (.getfield 149, 3) := by decide +kernel
theorem dX8_trace_4 : decode cX8_trace 4 = .ok (.lreturn, 1) := by decide +kernel
