theorem dX12_personOf_70 : decode cX12_personOf 70 = .ok (.aload_n 0, 1) := by decide +kernel
theorem dX12_personOf_71 : decode cX12_personOf 71 = .ok (.getfield 16, 3) := by decide +kernel
theorem dX12_personOf_74 : decode cX12_personOf 74 = .ok (.iload_n 1, 1) := by decide +kernel
theorem dX12_personOf_75 : decode cX12_personOf 75 = .ok (.iaload, 1) := by decide +kernel
theorem dX12_personOf_76 : decode cX12_personOf 76 = .ok (.ireturn, 1) := by decide +kernel
theorem dX12_personOf_77 : decode cX12_personOf 77 = .ok (.aload_n 0, 1) := by decide +kernel
theorem dX12_personOf_78 : decode cX12_personOf 78 = .ok (.iload_n 1, 1) := by decide +kernel
theorem dX12_personOf_79 : decode cX12_personOf 79 = .ok (.invokevirtual 236, 3) := by decide +kernel
theorem dX12_personOf_82 : decode cX12_personOf 82 = .ok (.ireturn, 1) := by decide +kernel
theorem dX12_personOf_83 : decode cX12_personOf 83 = .ok (.aload_n 0, 1) := by decide +kernel
theorem dX12_personOf_84 : decode cX12_personOf 84 = .ok (.getfield 25, 3) := by decide +kernel
theorem dX12_personOf_87 : decode cX12_personOf 87 = .ok (.iload_n 1, 1) := by decide +kernel
theorem dX12_personOf_88 : decode cX12_personOf 88 = .ok (.iaload, 1) := by decide +kernel
theorem dX12_personOf_89 : decode cX12_personOf 89 = .ok (.ireturn, 1) := by decide +kernel
theorem dX12_personOf_90 : decode cX12_personOf 90 = .ok (.aload_n 0, 1) := by decide +kernel
theorem dX12_personOf_91 : decode cX12_personOf 91 = .ok (.getfield 22, 3) := by decide +kernel
theorem dX12_personOf_94 : decode cX12_personOf 94 = .ok (.iload_n 1, 1) := by decide +kernel
theorem dX12_personOf_95 : decode cX12_personOf 95 = .ok (.iaload, 1) := by decide +kernel
theorem dX12_personOf_96 : decode cX12_personOf 96 = .ok (.ireturn, 1) := by decide +kernel
theorem dX12_personOf_97 : decode cX12_personOf 97 = .ok (.aload_n 0, 1) := by decide +kernel
theorem dX12_personOf_98 : decode cX12_personOf 98 = .ok (.getfield 224, 3) := by decide +kernel
theorem dX12_personOf_101 : decode cX12_personOf 101 = .ok (.iload_n 1, 1) := by decide +kernel
theorem dX12_personOf_102 : decode cX12_personOf 102 = .ok (.ishr, 1) := by decide +kernel
theorem dX12_personOf_103 : decode cX12_personOf 103 = .ok (.iconst 1, 1) := by decide +kernel
theorem dX12_personOf_104 : decode cX12_personOf 104 = .ok (.iand, 1) := by decide +kernel
theorem dX12_personOf_105 : decode cX12_personOf 105 = .ok (.ireturn, 1) := by decide +kernel
theorem dX12_personOf_106 : decode cX12_personOf 106 = .ok (.ldc 239, 2) := by decide +kernel
theorem dX12_personOf_108 : decode cX12_personOf 108 = .ok (.aload_n 0, 1) := by decide +kernel
theorem dX12_personOf_109 : decode cX12_personOf 109 = .ok (.getfield 19, 3) := by decide +kernel
theorem dX12_personOf_112 : decode cX12_personOf 112 = .ok (.iload_n 1, 1) := by decide +kernel
theorem dX12_personOf_113 : decode cX12_personOf 113 = .ok (.iaload, 1) := by decide +kernel
theorem dX12_personOf_114 : decode cX12_personOf 114 = .ok (.iadd, 1) := by decide +kernel
theorem dX12_personOf_115 : decode cX12_personOf 115 = .ok (.ireturn, 1) := by decide +kernel
theorem dX12_personOf_116 : decode cX12_personOf 116 = .ok (.iconst (-1), 1) := by decide +kernel
theorem dX12_personOf_117 : decode cX12_personOf 117 = .ok (.ireturn, 1) := by decide +kernel
theorem dX12_voice_0 : decode cX12_voice 0 = .ok (.aload_n 0, 1) := by decide +kernel
theorem dX12_voice_1 : decode cX12_voice 1 = .ok (.iload_n 1, 1) := by decide +kernel
theorem dX12_voice_2 : decode cX12_voice 2 = .ok (.invokevirtual 233, 3) := by decide +kernel
theorem dX12_voice_5 : decode cX12_voice 5 = .ok (.ifCond .eq 14, 3) := by decide +kernel
theorem dX12_voice_8 : decode cX12_voice 8 = .ok (.iload_n 2, 1) := by decide +kernel
theorem dX12_voice_9 : decode cX12_voice 9 = .ok (.iconst 0, 1) := by decide +kernel
theorem dX12_voice_10 : decode cX12_voice 10 = .ok (.sipush 200, 3) := by decide +kernel
theorem dX12_voice_13 : decode cX12_voice 13 = .ok (.invokestatic 108, 3) := by decide +kernel
theorem dX12_voice_16 : decode cX12_voice 16 = .ok (.ifCond .ne 5, 3) := by decide +kernel
theorem dX12_voice_19 : decode cX12_voice 19 = .ok (.iconst (-1), 1) := by decide +kernel
theorem dX12_voice_20 : decode cX12_voice 20 = .ok (.ireturn, 1) := by decide +kernel
theorem dX12_voice_21 : decode cX12_voice 21 = .ok (.aload_n 0, 1) := by decide +kernel
theorem dX12_voice_22 : decode cX12_voice 22 = .ok (.getfield 16, 3) := by decide +kernel
theorem dX12_voice_25 : decode cX12_voice 25 = .ok (.iload_n 1, 1) := by decide +kernel
theorem dX12_voice_26 : decode cX12_voice 26 = .ok (.iaload, 1) := by decide +kernel
theorem dX12_voice_27 : decode cX12_voice 27 = .ok (.istore_n 3, 1) := by decide +kernel
theorem dX12_voice_28 : decode cX12_voice 28 = .ok (.aload_n 0, 1) := by decide +kernel
theorem dX12_voice_29 : decode cX12_voice 29 = .ok (.getfield 16, 3) := by decide +kernel
theorem dX12_voice_32 : decode cX12_voice 32 = .ok (.iload_n 1, 1) := by decide +kernel
theorem dX12_voice_33 : decode cX12_voice 33 = .ok (.iload_n 2, 1) := by decide +kernel
theorem dX12_voice_34 : decode cX12_voice 34 = .ok (.iastore, 1) := by decide +kernel
theorem dX12_voice_35 : decode cX12_voice 35 = .ok (.iload_n 3, 1) := by decide +kernel
theorem dX12_voice_36 : decode cX12_voice 36 = .ok (.ireturn, 1) := by decide +kernel
theorem dX12_purse_0 : decode cX12_purse 0 = .ok (.aload_n 0, 1) := by decide +kernel
theorem dX12_purse_1 : decode cX12_purse 1 = .ok (.iload_n 1, 1) := by decide +kernel
theorem dX12_purse_2 : decode cX12_purse 2 = .ok (.invokevirtual 233, 3) := by decide +kernel
theorem dX12_purse_5 : decode cX12_purse 5 = .ok (.ifCond .eq 16, 3) := by decide +kernel
theorem dX12_purse_8 : decode cX12_purse 8 = .ok (.iload_n 2, 1) := by decide +kernel
theorem dX12_purse_9 : decode cX12_purse 9 = .ok (.sipush (-9999), 3) := by decide +kernel
theorem dX12_purse_12 : decode cX12_purse 12 = .ok (.sipush 9999, 3) := by decide +kernel
theorem dX12_purse_15 : decode cX12_purse 15 = .ok (.invokestatic 108, 3) := by decide +kernel
theorem dX12_purse_18 : decode cX12_purse 18 = .ok (.ifCond .ne 5, 3) := by decide +kernel
theorem dX12_purse_21 : decode cX12_purse 21 = .ok (.iconst (-1), 1) := by decide +kernel
theorem dX12_purse_22 : decode cX12_purse 22 = .ok (.ireturn, 1) := by decide +kernel
theorem dX12_purse_23 : decode cX12_purse 23 = .ok (.aload_n 0, 1) := by decide +kernel
theorem dX12_purse_24 : decode cX12_purse 24 = .ok (.getfield 19, 3) := by decide +kernel
theorem dX12_purse_27 : decode cX12_purse 27 = .ok (.iload_n 1, 1) := by decide +kernel
theorem dX12_purse_28 : decode cX12_purse 28 = .ok (.iaload, 1) := by decide +kernel
theorem dX12_purse_29 : decode cX12_purse 29 = .ok (.istore_n 3, 1) := by decide +kernel
theorem dX12_purse_30 : decode cX12_purse 30 = .ok (.aload_n 0, 1) := by decide +kernel
theorem dX12_purse_31 : decode cX12_purse 31 = .ok (.getfield 19, 3) := by decide +kernel
theorem dX12_purse_34 : decode cX12_purse 34 = .ok (.iload_n 1, 1) := by decide +kernel
theorem dX12_purse_35 : decode cX12_purse 35 = .ok (.iload_n 2, 1) := by decide +kernel
theorem dX12_purse_36 : decode cX12_purse 36 = .ok (.iastore, 1) := by decide +kernel
theorem dX12_purse_37 : decode cX12_purse 37 = .ok (.ldc 239, 2) := by decide +kernel
theorem dX12_purse_39 : decode cX12_purse 39 = .ok (.iload_n 3, 1) := by decide +kernel
theorem dX12_purse_40 : decode cX12_purse 40 = .ok (.iadd, 1) := by decide +kernel
theorem dX12_purse_41 : decode cX12_purse 41 = .ok (.ireturn, 1) := by decide +kernel
theorem dX12_turn_0 : decode cX12_turn 0 = .ok (.aload_n 0, 1) := by decide +kernel
theorem dX12_turn_1 : decode cX12_turn 1 = .ok (.iload_n 1, 1) := by decide +kernel
theorem dX12_turn_2 : decode cX12_turn 2 = .ok (.invokevirtual 233, 3) := by decide +kernel
theorem dX12_turn_5 : decode cX12_turn 5 = .ok (.ifCond .eq 12, 3) := by decide +kernel
theorem dX12_turn_8 : decode cX12_turn 8 = .ok (.iload_n 2, 1) := by decide +kernel
theorem dX12_turn_9 : decode cX12_turn 9 = .ok (.iconst 0, 1) := by decide +kernel
theorem dX12_turn_10 : decode cX12_turn 10 = .ok (.iconst 5, 1) := by decide +kernel
theorem dX12_turn_11 : decode cX12_turn 11 = .ok (.invokestatic 108, 3) := by decide +kernel
theorem dX12_turn_14 : decode cX12_turn 14 = .ok (.ifCond .ne 5, 3) := by decide +kernel
theorem dX12_turn_17 : decode cX12_turn 17 = .ok (.iconst (-1), 1) := by decide +kernel
theorem dX12_turn_18 : decode cX12_turn 18 = .ok (.ireturn, 1) := by decide +kernel
theorem dX12_turn_19 : decode cX12_turn 19 = .ok (.aload_n 0, 1) := by decide +kernel
theorem dX12_turn_20 : decode cX12_turn 20 = .ok (.getfield 7, 3) := by decide +kernel
theorem dX12_turn_23 : decode cX12_turn 23 = .ok (.iload_n 1, 1) := by decide +kernel
theorem dX12_turn_24 : decode cX12_turn 24 = .ok (.iaload, 1) := by decide +kernel
theorem dX12_turn_25 : decode cX12_turn 25 = .ok (.istore_n 3, 1) := by decide +kernel
theorem dX12_turn_26 : decode cX12_turn 26 = .ok (.aload_n 0, 1) := by decide +kernel
theorem dX12_turn_27 : decode cX12_turn 27 = .ok (.getfield 7, 3) := by decide +kernel
theorem dX12_turn_30 : decode cX12_turn 30 = .ok (.iload_n 1, 1) := by decide +kernel
theorem dX12_turn_31 : decode cX12_turn 31 = .ok (.iload_n 2, 1) := by decide +kernel
theorem dX12_turn_32 : decode cX12_turn 32 = .ok (.iastore, 1) := by decide +kernel
theorem dX12_turn_33 : decode cX12_turn 33 = .ok (.iload_n 3, 1) := by decide +kernel
theorem dX12_turn_34 : decode cX12_turn 34 = .ok (.ireturn, 1) := by decide +kernel
theorem dX12_older_0 : decode cX12_older 0 = .ok (.iconst 0, 1) := by decide +kernel
theorem dX12_older_1 : decode cX12_older 1 = .ok (.istore_n 1, 1) := by decide +kernel
theorem dX12_older_2 : decode cX12_older 2 = .ok (.iconst 0, 1) := by decide +kernel
theorem dX12_older_3 : decode cX12_older 3 = .ok (.istore_n 2, 1) := by decide +kernel
theorem dX12_older_4 : decode cX12_older 4 = .ok (.iload_n 2, 1) := by decide +kernel
theorem dX12_older_5 : decode cX12_older 5 = .ok (.aload_n 0, 1) := by decide +kernel
theorem dX12_older_6 : decode cX12_older 6 = .ok (.getfield 105, 3) := by decide +kernel
theorem dX12_older_9 : decode cX12_older 9 = .ok (.if_icmp .ge 43, 3) := by decide +kernel
theorem dX12_older_12 : decode cX12_older 12 = .ok (.aload_n 0, 1) := by decide +kernel
theorem dX12_older_13 : decode cX12_older 13 = .ok (.getfield 13, 3) := by decide +kernel
theorem dX12_older_16 : decode cX12_older 16 = .ok (.iload_n 2, 1) := by decide +kernel
theorem dX12_older_17 : decode cX12_older 17 = .ok (.dup2, 1) := by decide +kernel
theorem dX12_older_18 : decode cX12_older 18 = .ok (.iaload, 1) := by decide +kernel
theorem dX12_older_19 : decode cX12_older 19 = .ok (.aload_n 0, 1) := by decide +kernel
theorem dX12_older_20 : decode cX12_older 20 = .ok (.getfield 13, 3) := by decide +kernel
theorem dX12_older_23 : decode cX12_older 23 = .ok (.iload_n 2, 1) := by decide +kernel
theorem dX12_older_24 : decode cX12_older 24 = .ok (.iaload, 1) := by decide +kernel
theorem dX12_older_25 : decode cX12_older 25 = .ok (.bipush 90, 2) := by decide +kernel
theorem dX12_older_27 : decode cX12_older 27 = .ok (.if_icmp .ge 7, 3) := by decide +kernel
theorem dX12_older_30 : decode cX12_older 30 = .ok (.iconst 1, 1) := by decide +kernel
theorem dX12_older_31 : decode cX12_older 31 = .ok (.goto 4, 3) := by decide +kernel
theorem dX12_older_34 : decode cX12_older 34 = .ok (.iconst 0, 1) := by decide +kernel
theorem dX12_older_35 : decode cX12_older 35 = .ok (.iadd, 1) := by decide +kernel
theorem dX12_older_36 : decode cX12_older 36 = .ok (.iastore, 1) := by decide +kernel
theorem dX12_older_37 : decode cX12_older 37 = .ok (.iload_n 1, 1) := by decide +kernel
theorem dX12_older_38 : decode cX12_older 38 = .ok (.aload_n 0, 1) := by decide +kernel
theorem dX12_older_39 : decode cX12_older 39 = .ok (.getfield 13, 3) := by decide +kernel
theorem dX12_older_42 : decode cX12_older 42 = .ok (.iload_n 2, 1) := by decide +kernel
theorem dX12_older_43 : decode cX12_older 43 = .ok (.iaload, 1) := by decide +kernel
theorem dX12_older_44 : decode cX12_older 44 = .ok (.iadd, 1) := by decide +kernel
theorem dX12_older_45 : decode cX12_older 45 = .ok (.istore_n 1, 1) := by decide +kernel
theorem dX12_older_46 : decode cX12_older 46 = .ok (.iinc 2 1, 3) := by decide +kernel
theorem dX12_older_49 : decode cX12_older 49 = .ok (.goto (-45), 3) := by decide +kernel
theorem dX12_older_52 : decode cX12_older 52 = .ok (.iload_n 1, 1) := by decide +kernel
theorem dX12_older_53 : decode cX12_older 53 = .ok (.ireturn, 1) := by decide +kernel
theorem dX12_lasts_0 : decode cX12_lasts 0 = .ok (.aload_n 0, 1) := by decide +kernel
theorem dX12_lasts_1 : decode cX12_lasts 1 = .ok (.iload_n 1, 1) := by decide +kernel
theorem dX12_lasts_2 : decode cX12_lasts 2 = .ok (.invokevirtual 233, 3) := by decide +kernel
theorem dX12_lasts_5 : decode cX12_lasts 5 = .ok (.ifCond .eq 14, 3) := by decide +kernel
theorem dX12_lasts_8 : decode cX12_lasts 8 = .ok (.iload_n 2, 1) := by decide +kernel
theorem dX12_lasts_9 : decode cX12_lasts 9 = .ok (.iconst 0, 1) := by decide +kernel
theorem dX12_lasts_10 : decode cX12_lasts 10 = .ok (.sipush 999, 3) := by decide +kernel
theorem dX12_lasts_13 : decode cX12_lasts 13 = .ok (.invokestatic 108, 3) := by decide +kernel
theorem dX12_lasts_16 : decode cX12_lasts 16 = .ok (.ifCond .ne 5, 3) := by decide +kernel
theorem dX12_lasts_19 : decode cX12_lasts 19 = .ok (.iconst (-1), 1) := by decide +kernel
theorem dX12_lasts_20 : decode cX12_lasts 20 = .ok (.ireturn, 1) := by decide +kernel
theorem dX12_lasts_21 : decode cX12_lasts 21 = .ok (.aload_n 0, 1) := by decide +kernel
theorem dX12_lasts_22 : decode cX12_lasts 22 = .ok (.getfield 22, 3) := by decide +kernel
theorem dX12_lasts_25 : decode cX12_lasts 25 = .ok (.iload_n 1, 1) := by decide +kernel
theorem dX12_lasts_26 : decode cX12_lasts 26 = .ok (.iaload, 1) := by decide +kernel
theorem dX12_lasts_27 : decode cX12_lasts 27 = .ok (.istore_n 3, 1) := by decide +kernel
theorem dX12_lasts_28 : decode cX12_lasts 28 = .ok (.aload_n 0, 1) := by decide +kernel
theorem dX12_lasts_29 : decode cX12_lasts 29 = .ok (.getfield 22, 3) := by decide +kernel
theorem dX12_lasts_32 : decode cX12_lasts 32 = .ok (.iload_n 1, 1) := by decide +kernel
theorem dX12_lasts_33 : decode cX12_lasts 33 = .ok (.iload_n 2, 1) := by decide +kernel
theorem dX12_lasts_34 : decode cX12_lasts 34 = .ok (.iastore, 1) := by decide +kernel
theorem dX12_lasts_35 : decode cX12_lasts 35 = .ok (.iload_n 3, 1) := by decide +kernel
theorem dX12_lasts_36 : decode cX12_lasts 36 = .ok (.ireturn, 1) := by decide +kernel
theorem dX12_lengthOf_0 : decode cX12_lengthOf 0 = .ok (.iconst 0, 1) := by decide +kernel
theorem dX12_lengthOf_1 : decode cX12_lengthOf 1 = .ok (.istore_n 2, 1) := by decide +kernel
theorem dX12_lengthOf_2 : decode cX12_lengthOf 2 = .ok (.iconst 0, 1) := by decide +kernel
theorem dX12_lengthOf_3 : decode cX12_lengthOf 3 = .ok (.istore_n 3, 1) := by decide +kernel
theorem dX12_lengthOf_4 : decode cX12_lengthOf 4 = .ok (.iconst 0, 1) := by decide +kernel
theorem dX12_lengthOf_5 : decode cX12_lengthOf 5 = .ok (.istore 4, 2) := by decide +kernel
theorem dX12_lengthOf_7 : decode cX12_lengthOf 7 = .ok (.iload 4, 2) := by decide +kernel
theorem dX12_lengthOf_9 : decode cX12_lengthOf 9 = .ok (.aload_n 0, 1) := by decide +kernel
theorem dX12_lengthOf_10 : decode cX12_lengthOf 10 = .ok (.getfield 105, 3) := by decide +kernel
theorem dX12_lengthOf_13 : decode cX12_lengthOf 13 = .ok (.if_icmp .ge 60, 3) := by decide +kernel
theorem dX12_lengthOf_16 : decode cX12_lengthOf 16 = .ok (.iload_n 1, 1) := by decide +kernel
theorem dX12_lengthOf_17 : decode cX12_lengthOf 17 = .ok (.iload 4, 2) := by decide +kernel
theorem dX12_lengthOf_19 : decode cX12_lengthOf 19 = .ok (.invokestatic 196, 3) := by decide +kernel
theorem dX12_lengthOf_22 : decode cX12_lengthOf 22 = .ok (.ifCond .eq 45, 3) := by decide +kernel
theorem dX12_lengthOf_25 : decode cX12_lengthOf 25 = .ok (.aload_n 0, 1) := by decide +kernel
theorem dX12_lengthOf_26 : decode cX12_lengthOf 26 = .ok (.iload 4, 2) := by decide +kernel
theorem dX12_lengthOf_28 : decode cX12_lengthOf 28 = .ok (.invokevirtual 236, 3) := by decide +kernel
theorem dX12_lengthOf_31 : decode cX12_lengthOf 31 = .ok (.iload_n 2, 1) := by decide +kernel
theorem dX12_lengthOf_32 : decode cX12_lengthOf 32 = .ok (.if_icmp .le 12, 3) := by decide +kernel
theorem dX12_lengthOf_35 : decode cX12_lengthOf 35 = .ok (.aload_n 0, 1) := by decide +kernel
theorem dX12_lengthOf_36 : decode cX12_lengthOf 36 = .ok (.iload 4, 2) := by decide +kernel
theorem dX12_lengthOf_38 : decode cX12_lengthOf 38 = .ok (.invokevirtual 236, 3) := by decide +kernel
theorem dX12_lengthOf_41 : decode cX12_lengthOf 41 = .ok (.goto 4, 3) := by decide +kernel
theorem dX12_lengthOf_44 : decode cX12_lengthOf 44 = .ok (.iload_n 2, 1) := by decide +kernel
theorem dX12_lengthOf_45 : decode cX12_lengthOf 45 = .ok (.istore_n 2, 1) := by decide +kernel
theorem dX12_lengthOf_46 : decode cX12_lengthOf 46 = .ok (.iload_n 3, 1) := by decide +kernel
theorem dX12_lengthOf_47 : decode cX12_lengthOf 47 = .ok (.ifCond .ne 14, 3) := by decide +kernel
theorem dX12_lengthOf_50 : decode cX12_lengthOf 50 = .ok (.aload_n 0, 1) := by decide +kernel
theorem dX12_lengthOf_51 : decode cX12_lengthOf 51 = .ok (.getfield 7, 3) := by decide +kernel
theorem dX12_lengthOf_54 : decode cX12_lengthOf 54 = .ok (.iload 4, 2) := by decide +kernel
theorem dX12_lengthOf_56 : decode cX12_lengthOf 56 = .ok (.iaload, 1) := by decide +kernel
theorem dX12_lengthOf_57 : decode cX12_lengthOf 57 = .ok (.iconst 4, 1) := by decide +kernel
theorem dX12_lengthOf_58 : decode cX12_lengthOf 58 = .ok (.if_icmp .ne 7, 3) := by decide +kernel
theorem dX12_lengthOf_61 : decode cX12_lengthOf 61 = .ok (.iconst 1, 1) := by decide +kernel
theorem dX12_lengthOf_62 : decode cX12_lengthOf 62 = .ok (.goto 4, 3) := by decide +kernel
theorem dX12_lengthOf_65 : decode cX12_lengthOf 65 = .ok (.iconst 0, 1) := by decide +kernel
theorem dX12_lengthOf_66 : decode cX12_lengthOf 66 = .ok (.istore_n 3, 1) := by decide +kernel
theorem dX12_lengthOf_67 : decode cX12_lengthOf 67 = .ok (.iinc 4 1, 3) := by decide +kernel
theorem dX12_lengthOf_70 : decode cX12_lengthOf 70 = .ok (.goto (-63), 3) := by decide +kernel
theorem dX12_lengthOf_73 : decode cX12_lengthOf 73 = .ok (.iload_n 1, 1) := by decide +kernel
theorem dX12_lengthOf_74 : decode cX12_lengthOf 74 = .ok (.ifCond .eq 23, 3) := by decide +kernel
theorem dX12_lengthOf_77 : decode cX12_lengthOf 77 = .ok (.iload_n 1, 1) := by decide +kernel
theorem dX12_lengthOf_78 : decode cX12_lengthOf 78 = .ok (.invokestatic 200, 3) := by decide +kernel
theorem dX12_lengthOf_81 : decode cX12_lengthOf 81 = .ok (.iconst 3, 1) := by decide +kernel
theorem dX12_lengthOf_82 : decode cX12_lengthOf 82 = .ok (.if_icmp .gt 15, 3) := by decide +kernel
theorem dX12_lengthOf_85 : decode cX12_lengthOf 85 = .ok (.iload_n 3, 1) := by decide +kernel
theorem dX12_lengthOf_86 : decode cX12_lengthOf 86 = .ok (.ifCond .eq 15, 3) := by decide +kernel
theorem dX12_lengthOf_89 : decode cX12_lengthOf 89 = .ok (.iload_n 1, 1) := by decide +kernel
theorem dX12_lengthOf_90 : decode cX12_lengthOf 90 = .ok (.invokestatic 200, 3) := by decide +kernel
theorem dX12_lengthOf_93 : decode cX12_lengthOf 93 = .ok (.iconst 1, 1) := by decide +kernel
theorem dX12_lengthOf_94 : decode cX12_lengthOf 94 = .ok (.if_icmp .le 7, 3) := by decide +kernel
theorem dX12_lengthOf_97 : decode cX12_lengthOf 97 = .ok (.iconst (-1), 1) := by decide +kernel
theorem dX12_lengthOf_98 : decode cX12_lengthOf 98 = .ok (.goto 4, 3) := by decide +kernel
theorem dX12_lengthOf_101 : decode cX12_lengthOf 101 = .ok (.iload_n 2, 1) := by decide +kernel
theorem dX12_lengthOf_102 : decode cX12_lengthOf 102 = .ok (.ireturn, 1) := by decide +kernel
theorem dX12_isAsk_0 : decode cX12_isAsk 0 = .ok (.aload_n 0, 1) := by decide +kernel
theorem dX12_isAsk_1 : decode cX12_isAsk 1 = .ok (.iload_n 1, 1) := by decide +kernel
theorem dX12_isAsk_2 : decode cX12_isAsk 2 = .ok (.invokevirtual 233, 3) := by decide +kernel
theorem dX12_isAsk_5 : decode cX12_isAsk 5 = .ok (.ifCond .eq 31, 3) := by decide +kernel
theorem dX12_isAsk_8 : decode cX12_isAsk 8 = .ok (.iload_n 2, 1) := by decide +kernel
theorem dX12_isAsk_9 : decode cX12_isAsk 9 = .ok (.iconst 1, 1) := by decide +kernel
theorem dX12_isAsk_10 : decode cX12_isAsk 10 = .ok (.iconst 1, 1) := by decide +kernel
theorem dX12_isAsk_11 : decode cX12_isAsk 11 = .ok (.aload_n 0, 1) := by decide +kernel
theorem dX12_isAsk_12 : decode cX12_isAsk 12 = .ok (.getfield 105, 3) := by decide +kernel
theorem dX12_isAsk_15 : decode cX12_isAsk 15 = .ok (.ishl, 1) := by decide +kernel
theorem dX12_isAsk_16 : decode cX12_isAsk 16 = .ok (.iconst 1, 1) := by decide +kernel
theorem dX12_isAsk_17 : decode cX12_isAsk 17 = .ok (.isub, 1) := by decide +kernel
theorem dX12_isAsk_18 : decode cX12_isAsk 18 = .ok (.invokestatic 108, 3) := by decide +kernel
theorem dX12_isAsk_21 : decode cX12_isAsk 21 = .ok (.ifCond .eq 15, 3) := by decide +kernel
theorem dX12_isAsk_24 : decode cX12_isAsk 24 = .ok (.iload_n 2, 1) := by decide +kernel
theorem dX12_isAsk_25 : decode cX12_isAsk 25 = .ok (.invokestatic 200, 3) := by decide +kernel
theorem dX12_isAsk_28 : decode cX12_isAsk 28 = .ok (.iconst 3, 1) := by decide +kernel
theorem dX12_isAsk_29 : decode cX12_isAsk 29 = .ok (.if_icmp .gt 7, 3) := by decide +kernel
theorem dX12_isAsk_32 : decode cX12_isAsk 32 = .ok (.iconst 1, 1) := by decide +kernel
theorem dX12_isAsk_33 : decode cX12_isAsk 33 = .ok (.goto 4, 3) := by decide +kernel
theorem dX12_isAsk_36 : decode cX12_isAsk 36 = .ok (.iconst 0, 1) := by decide +kernel
theorem dX12_isAsk_37 : decode cX12_isAsk 37 = .ok (.ireturn, 1) := by decide +kernel
theorem dX12_canBe_0 : decode cX12_canBe 0 = .ok (.aload_n 0, 1) := by decide +kernel
theorem dX12_canBe_1 : decode cX12_canBe 1 = .ok (.iload_n 2, 1) := by decide +kernel
theorem dX12_canBe_2 : decode cX12_canBe 2 = .ok (.invokevirtual 240, 3) := by decide +kernel
theorem dX12_canBe_5 : decode cX12_canBe 5 = .ok (.istore 4, 2) := by decide +kernel
theorem dX12_canBe_7 : decode cX12_canBe 7 = .ok (.iload_n 3, 1) := by decide +kernel
theorem dX12_canBe_8 : decode cX12_canBe 8 = .ok (.iload_n 1, 1) := by decide +kernel
theorem dX12_canBe_9 : decode cX12_canBe 9 = .ok (.invokestatic 196, 3) := by decide +kernel
theorem dX12_canBe_12 : decode cX12_canBe 12 = .ok (.ifCond .eq 39, 3) := by decide +kernel
theorem dX12_canBe_15 : decode cX12_canBe 15 = .ok (.iload_n 2, 1) := by decide +kernel
theorem dX12_canBe_16 : decode cX12_canBe 16 = .ok (.iload_n 1, 1) := by decide +kernel
theorem dX12_canBe_17 : decode cX12_canBe 17 = .ok (.invokestatic 196, 3) := by decide +kernel
theorem dX12_canBe_20 : decode cX12_canBe 20 = .ok (.ifCond .ne 31, 3) := by decide +kernel
theorem dX12_canBe_23 : decode cX12_canBe 23 = .ok (.iload_n 2, 1) := by decide +kernel
theorem dX12_canBe_24 : decode cX12_canBe 24 = .ok (.iload_n 3, 1) := by decide +kernel
theorem dX12_canBe_25 : decode cX12_canBe 25 = .ok (.iconst (-1), 1) := by decide +kernel
theorem dX12_canBe_26 : decode cX12_canBe 26 = .ok (.ixor, 1) := by decide +kernel
theorem dX12_canBe_27 : decode cX12_canBe 27 = .ok (.iand, 1) := by decide +kernel
theorem dX12_canBe_28 : decode cX12_canBe 28 = .ok (.ifCond .ne 23, 3) := by decide +kernel
theorem dX12_canBe_31 : decode cX12_canBe 31 = .ok (.iload 4, 2) := by decide +kernel
theorem dX12_canBe_33 : decode cX12_canBe 33 = .ok (.ifCond .le 18, 3) := by decide +kernel
theorem dX12_canBe_36 : decode cX12_canBe 36 = .ok (.iload 4, 2) := by decide +kernel
theorem dX12_canBe_38 : decode cX12_canBe 38 = .ok (.aload_n 0, 1) := by decide +kernel
theorem dX12_canBe_39 : decode cX12_canBe 39 = .ok (.getfield 16, 3) := by decide +kernel
theorem dX12_canBe_42 : decode cX12_canBe 42 = .ok (.iload_n 1, 1) := by decide +kernel
theorem dX12_canBe_43 : decode cX12_canBe 43 = .ok (.iaload, 1) := by decide +kernel
theorem dX12_canBe_44 : decode cX12_canBe 44 = .ok (.if_icmp .gt 7, 3) := by decide +kernel
theorem dX12_canBe_47 : decode cX12_canBe 47 = .ok (.iconst 1, 1) := by decide +kernel
theorem dX12_canBe_48 : decode cX12_canBe 48 = .ok (.goto 4, 3) := by decide +kernel
theorem dX12_canBe_51 : decode cX12_canBe 51 = .ok (.iconst 0, 1) := by decide +kernel
theorem dX12_canBe_52 : decode cX12_canBe 52 = .ok (.ireturn, 1) := by decide +kernel
theorem dX12_may_0 : decode cX12_may 0 = .ok (.aload_n 0, 1) := by decide +kernel
theorem dX12_may_1 : decode cX12_may 1 = .ok (.iload_n 1, 1) := by decide +kernel
theorem dX12_may_2 : decode cX12_may 2 = .ok (.iload_n 2, 1) := by decide +kernel
theorem dX12_may_3 : decode cX12_may 3 = .ok (.invokevirtual 243, 3) := by decide +kernel
theorem dX12_may_6 : decode cX12_may 6 = .ok (.ifCond .ne 5, 3) := by decide +kernel
theorem dX12_may_9 : decode cX12_may 9 = .ok (.iconst (-1), 1) := by decide +kernel
theorem dX12_may_10 : decode cX12_may 10 = .ok (.ireturn, 1) := by decide +kernel
theorem dX12_may_11 : decode cX12_may 11 = .ok (.aload_n 0, 1) := by decide +kernel
theorem dX12_may_12 : decode cX12_may 12 = .ok (.iload_n 1, 1) := by decide +kernel
theorem dX12_may_13 : decode cX12_may 13 = .ok (.iload_n 2, 1) := by decide +kernel
theorem dX12_may_14 : decode cX12_may 14 = .ok (.aload_n 0, 1) := by decide +kernel
theorem dX12_may_15 : decode cX12_may 15 = .ok (.getfield 224, 3) := by decide +kernel
theorem dX12_may_18 : decode cX12_may 18 = .ok (.invokevirtual 246, 3) := by decide +kernel
theorem dX12_may_21 : decode cX12_may 21 = .ok (.ifCond .eq 7, 3) := by decide +kernel
theorem dX12_may_24 : decode cX12_may 24 = .ok (.iconst 1, 1) := by decide +kernel
theorem dX12_may_25 : decode cX12_may 25 = .ok (.goto 4, 3) := by decide +kernel
theorem dX12_may_28 : decode cX12_may 28 = .ok (.iconst 0, 1) := by decide +kernel
theorem dX12_may_29 : decode cX12_may 29 = .ok (.ireturn, 1) := by decide +kernel
theorem dX12_owesMore_0 : decode cX12_owesMore 0 = .ok (.aload_n 0, 1) := by decide +kernel
theorem dX12_owesMore_1 : decode cX12_owesMore 1 = .ok (.getfield 28, 3) := by decide +kernel
theorem dX12_owesMore_4 : decode cX12_owesMore 4 = .ok (.bipush 8, 2) := by decide +kernel
theorem dX12_owesMore_6 : decode cX12_owesMore 6 = .ok (.iload_n 1, 1) := by decide +kernel
theorem dX12_owesMore_7 : decode cX12_owesMore 7 = .ok (.imul, 1) := by decide +kernel
theorem dX12_owesMore_8 : decode cX12_owesMore 8 = .ok (.iload_n 2, 1) := by decide +kernel
theorem dX12_owesMore_9 : decode cX12_owesMore 9 = .ok (.iadd, 1) := by decide +kernel
theorem dX12_owesMore_10 : decode cX12_owesMore 10 = .ok (.iaload, 1) := by decide +kernel
theorem dX12_owesMore_11 : decode cX12_owesMore 11 = .ok (.iload_n 3, 1) := by decide +kernel
theorem dX12_owesMore_12 : decode cX12_owesMore 12 = .ok (.iadd, 1) := by decide +kernel
theorem dX12_owesMore_13 : decode cX12_owesMore 13 = .ok (.istore 4, 2) := by decide +kernel
theorem dX12_owesMore_15 : decode cX12_owesMore 15 = .ok (.aload_n 0, 1) := by decide +kernel
theorem dX12_owesMore_16 : decode cX12_owesMore 16 = .ok (.getfield 28, 3) := by decide +kernel
theorem dX12_owesMore_19 : decode cX12_owesMore 19 = .ok (.bipush 8, 2) := by decide +kernel
theorem dX12_owesMore_21 : decode cX12_owesMore 21 = .ok (.iload_n 1, 1) := by decide +kernel
theorem dX12_owesMore_22 : decode cX12_owesMore 22 = .ok (.imul, 1) := by decide +kernel
theorem dX12_owesMore_23 : decode cX12_owesMore 23 = .ok (.iload_n 2, 1) := by decide +kernel
theorem dX12_owesMore_24 : decode cX12_owesMore 24 = .ok (.iadd, 1) := by decide +kernel
theorem dX12_owesMore_25 : decode cX12_owesMore 25 = .ok (.iload 4, 2) := by decide +kernel
theorem dX12_owesMore_27 : decode cX12_owesMore 27 = .ok (.sipush 9999, 3) := by decide +kernel
theorem dX12_owesMore_30 : decode cX12_owesMore 30 = .ok (.if_icmp .le 9, 3) := by decide +kernel
theorem dX12_owesMore_33 : decode cX12_owesMore 33 = .ok (.sipush 9999, 3) := by decide +kernel
theorem dX12_owesMore_36 : decode cX12_owesMore 36 = .ok (.goto 5, 3) := by decide +kernel
theorem dX12_owesMore_39 : decode cX12_owesMore 39 = .ok (.iload 4, 2) := by decide +kernel
theorem dX12_owesMore_41 : decode cX12_owesMore 41 = .ok (.iastore, 1) := by decide +kernel
theorem dX12_owesMore_42 : decode cX12_owesMore 42 = .ok (.return_, 1) := by decide +kernel
theorem dX12_sing_0 : decode cX12_sing 0 = .ok (.aload_n 0, 1) := by decide +kernel
theorem dX12_sing_1 : decode cX12_sing 1 = .ok (.iload_n 1, 1) := by decide +kernel
theorem dX12_sing_2 : decode cX12_sing 2 = .ok (.iload_n 2, 1) := by decide +kernel
theorem dX12_sing_3 : decode cX12_sing 3 = .ok (.invokevirtual 243, 3) := by decide +kernel
theorem dX12_sing_6 : decode cX12_sing 6 = .ok (.ifCond .ne 5, 3) := by decide +kernel
theorem dX12_sing_9 : decode cX12_sing 9 = .ok (.iconst (-1), 1) := by decide +kernel
theorem dX12_sing_10 : decode cX12_sing 10 = .ok (.ireturn, 1) := by decide +kernel
theorem dX12_sing_11 : decode cX12_sing 11 = .ok (.aload_n 0, 1) := by decide +kernel
theorem dX12_sing_12 : decode cX12_sing 12 = .ok (.iload_n 1, 1) := by decide +kernel
theorem dX12_sing_13 : decode cX12_sing 13 = .ok (.iload_n 2, 1) := by decide +kernel
theorem dX12_sing_14 : decode cX12_sing 14 = .ok (.aload_n 0, 1) := by decide +kernel
theorem dX12_sing_15 : decode cX12_sing 15 = .ok (.getfield 224, 3) := by decide +kernel
theorem dX12_sing_18 : decode cX12_sing 18 = .ok (.invokevirtual 246, 3) := by decide +kernel
theorem dX12_sing_21 : decode cX12_sing 21 = .ok (.ifCond .ne 6, 3) := by decide +kernel
theorem dX12_sing_24 : decode cX12_sing 24 = .ok (.bipush (-4), 2) := by decide +kernel
theorem dX12_sing_26 : decode cX12_sing 26 = .ok (.ireturn, 1) := by decide +kernel
theorem dX12_sing_27 : decode cX12_sing 27 = .ok (.aload_n 0, 1) := by decide +kernel
theorem dX12_sing_28 : decode cX12_sing 28 = .ok (.iload_n 2, 1) := by decide +kernel
theorem dX12_sing_29 : decode cX12_sing 29 = .ok (.invokevirtual 240, 3) := by decide +kernel
theorem dX12_sing_32 : decode cX12_sing 32 = .ok (.istore_n 3, 1) := by decide +kernel
theorem dX12_sing_33 : decode cX12_sing 33 = .ok (.aload_n 0, 1) := by decide +kernel
theorem dX12_sing_34 : decode cX12_sing 34 = .ok (.dup, 1) := by decide +kernel
theorem dX12_sing_35 : decode cX12_sing 35 = .ok (.getfield 224, 3) := by decide +kernel
theorem dX12_sing_38 : decode cX12_sing 38 = .ok (.iload_n 2, 1) := by decide +kernel
theorem dX12_sing_39 : decode cX12_sing 39 = .ok (.iconst (-1), 1) := by decide +kernel
theorem dX12_sing_40 : decode cX12_sing 40 = .ok (.ixor, 1) := by decide +kernel
theorem dX12_sing_41 : decode cX12_sing 41 = .ok (.iand, 1) := by decide +kernel
theorem dX12_sing_42 : decode cX12_sing 42 = .ok (.putfield 224, 3) := by decide +kernel
theorem dX12_sing_45 : decode cX12_sing 45 = .ok (.aload_n 0, 1) := by decide +kernel
theorem dX12_sing_46 : decode cX12_sing 46 = .ok (.dup, 1) := by decide +kernel
theorem dX12_sing_47 : decode cX12_sing 47 = .ok (.getfield 227, 3) := by decide +kernel
theorem dX12_sing_50 : decode cX12_sing 50 = .ok (.iload_n 3, 1) := by decide +kernel
theorem dX12_sing_51 : decode cX12_sing 51 = .ok (.iadd, 1) := by decide +kernel
theorem dX12_sing_52 : decode cX12_sing 52 = .ok (.putfield 227, 3) := by decide +kernel
theorem dX12_sing_55 : decode cX12_sing 55 = .ok (.aload_n 0, 1) := by decide +kernel
theorem dX12_sing_56 : decode cX12_sing 56 = .ok (.getfield 25, 3) := by decide +kernel
theorem dX12_sing_59 : decode cX12_sing 59 = .ok (.iload_n 1, 1) := by decide +kernel
theorem dX12_sing_60 : decode cX12_sing 60 = .ok (.dup2, 1) := by decide +kernel
theorem dX12_sing_61 : decode cX12_sing 61 = .ok (.iaload, 1) := by decide +kernel
theorem dX12_sing_62 : decode cX12_sing 62 = .ok (.iload_n 3, 1) := by decide +kernel
theorem dX12_sing_63 : decode cX12_sing 63 = .ok (.iadd, 1) := by decide +kernel
theorem dX12_sing_64 : decode cX12_sing 64 = .ok (.iastore, 1) := by decide +kernel
theorem dX12_sing_65 : decode cX12_sing 65 = .ok (.iconst 0, 1) := by decide +kernel
theorem dX12_sing_66 : decode cX12_sing 66 = .ok (.istore 4, 2) := by decide +kernel
theorem dX12_sing_68 : decode cX12_sing 68 = .ok (.iload 4, 2) := by decide +kernel
theorem dX12_sing_70 : decode cX12_sing 70 = .ok (.aload_n 0, 1) := by decide +kernel
theorem dX12_sing_71 : decode cX12_sing 71 = .ok (.getfield 105, 3) := by decide +kernel
theorem dX12_sing_74 : decode cX12_sing 74 = .ok (.if_icmp .ge 80, 3) := by decide +kernel
theorem dX12_sing_77 : decode cX12_sing 77 = .ok (.iload_n 2, 1) := by decide +kernel
theorem dX12_sing_78 : decode cX12_sing 78 = .ok (.iload 4, 2) := by decide +kernel
theorem dX12_sing_80 : decode cX12_sing 80 = .ok (.invokestatic 196, 3) := by decide +kernel
theorem dX12_sing_83 : decode cX12_sing 83 = .ok (.ifCond .eq 65, 3) := by decide +kernel
theorem dX12_sing_86 : decode cX12_sing 86 = .ok (.aload_n 0, 1) := by decide +kernel
theorem dX12_sing_87 : decode cX12_sing 87 = .ok (.getfield 7, 3) := by decide +kernel
theorem dX12_sing_90 : decode cX12_sing 90 = .ok (.iload 4, 2) := by decide +kernel
theorem dX12_sing_92 : decode cX12_sing 92 = .ok (.iaload, 1) := by decide +kernel
theorem dX12_sing_93 : decode cX12_sing 93 = .ok (.iconst 5, 1) := by decide +kernel
theorem dX12_sing_94 : decode cX12_sing 94 = .ok (.if_icmp .ne 41, 3) := by decide +kernel
theorem dX12_sing_97 : decode cX12_sing 97 = .ok (.aload_n 0, 1) := by decide +kernel
theorem dX12_sing_98 : decode cX12_sing 98 = .ok (.getfield 19, 3) := by decide +kernel
theorem dX12_sing_101 : decode cX12_sing 101 = .ok (.iload 4, 2) := by decide +kernel
theorem dX12_sing_103 : decode cX12_sing 103 = .ok (.dup2, 1) := by decide +kernel
theorem dX12_sing_104 : decode cX12_sing 104 = .ok (.iaload, 1) := by decide +kernel
theorem dX12_sing_105 : decode cX12_sing 105 = .ok (.iconst 2, 1) := by decide +kernel
theorem dX12_sing_106 : decode cX12_sing 106 = .ok (.aload_n 0, 1) := by decide +kernel
theorem dX12_sing_107 : decode cX12_sing 107 = .ok (.iload 4, 2) := by decide +kernel
theorem dX12_sing_109 : decode cX12_sing 109 = .ok (.invokevirtual 236, 3) := by decide +kernel
theorem dX12_sing_112 : decode cX12_sing 112 = .ok (.imul, 1) := by decide +kernel
theorem dX12_sing_113 : decode cX12_sing 113 = .ok (.isub, 1) := by decide +kernel
theorem dX12_sing_114 : decode cX12_sing 114 = .ok (.iastore, 1) := by decide +kernel
theorem dX12_sing_115 : decode cX12_sing 115 = .ok (.aload_n 0, 1) := by decide +kernel
theorem dX12_sing_116 : decode cX12_sing 116 = .ok (.getfield 19, 3) := by decide +kernel
theorem dX12_sing_119 : decode cX12_sing 119 = .ok (.iload_n 1, 1) := by decide +kernel
theorem dX12_sing_120 : decode cX12_sing 120 = .ok (.dup2, 1) := by decide +kernel
theorem dX12_sing_121 : decode cX12_sing 121 = .ok (.iaload, 1) := by decide +kernel
theorem dX12_sing_122 : decode cX12_sing 122 = .ok (.iconst 2, 1) := by decide +kernel
theorem dX12_sing_123 : decode cX12_sing 123 = .ok (.aload_n 0, 1) := by decide +kernel
theorem dX12_sing_124 : decode cX12_sing 124 = .ok (.iload 4, 2) := by decide +kernel
theorem dX12_sing_126 : decode cX12_sing 126 = .ok (.invokevirtual 236, 3) := by decide +kernel
theorem dX12_sing_129 : decode cX12_sing 129 = .ok (.imul, 1) := by decide +kernel
theorem dX12_sing_130 : decode cX12_sing 130 = .ok (.iadd, 1) := by decide +kernel
theorem dX12_sing_131 : decode cX12_sing 131 = .ok (.iastore, 1) := by decide +kernel
theorem dX12_sing_132 : decode cX12_sing 132 = .ok (.goto 16, 3) := by decide +kernel
theorem dX12_sing_135 : decode cX12_sing 135 = .ok (.aload_n 0, 1) := by decide +kernel
theorem dX12_sing_136 : decode cX12_sing 136 = .ok (.iload 4, 2) := by decide +kernel
theorem dX12_sing_138 : decode cX12_sing 138 = .ok (.iload_n 1, 1) := by decide +kernel
theorem dX12_sing_139 : decode cX12_sing 139 = .ok (.aload_n 0, 1) := by decide +kernel
theorem dX12_sing_140 : decode cX12_sing 140 = .ok (.iload 4, 2) := by decide +kernel
theorem dX12_sing_142 : decode cX12_sing 142 = .ok (.invokevirtual 236, 3) := by decide +kernel
theorem dX12_sing_145 : decode cX12_sing 145 = .ok (.invokevirtual 249, 3) := by decide +kernel
theorem dX12_sing_148 : decode cX12_sing 148 = .ok (.iinc 4 1, 3) := by decide +kernel
theorem dX12_sing_151 : decode cX12_sing 151 = .ok (.goto (-83), 3) := by decide +kernel
theorem dX12_sing_154 : decode cX12_sing 154 = .ok (.iload_n 3, 1) := by decide +kernel
theorem dX12_sing_155 : decode cX12_sing 155 = .ok (.ireturn, 1) := by decide +kernel
theorem dX12_wake_0 : decode cX12_wake 0 = .ok (.aload_n 0, 1) := by decide +kernel
theorem dX12_wake_1 : decode cX12_wake 1 = .ok (.iload_n 1, 1) := by decide +kernel
theorem dX12_wake_2 : decode cX12_wake 2 = .ok (.invokevirtual 233, 3) := by decide +kernel
theorem dX12_wake_5 : decode cX12_wake 5 = .ok (.ifCond .ne 5, 3) := by decide +kernel
theorem dX12_wake_8 : decode cX12_wake 8 = .ok (.iconst (-1), 1) := by decide +kernel
theorem dX12_wake_9 : decode cX12_wake 9 = .ok (.ireturn, 1) := by decide +kernel
theorem dX12_wake_10 : decode cX12_wake 10 = .ok (.aload_n 0, 1) := by decide +kernel
theorem dX12_wake_11 : decode cX12_wake 11 = .ok (.getfield 224, 3) := by decide +kernel
theorem dX12_wake_14 : decode cX12_wake 14 = .ok (.iload_n 1, 1) := by decide +kernel
theorem dX12_wake_15 : decode cX12_wake 15 = .ok (.invokestatic 196, 3) := by decide +kernel
theorem dX12_wake_18 : decode cX12_wake 18 = .ok (.ifCond .eq 5, 3) := by decide +kernel
theorem dX12_wake_21 : decode cX12_wake 21 = .ok (.iconst 0, 1) := by decide +kernel
theorem dX12_wake_22 : decode cX12_wake 22 = .ok (.ireturn, 1) := by decide +kernel
theorem dX12_wake_23 : decode cX12_wake 23 = .ok (.aload_n 0, 1) := by decide +kernel
theorem dX12_wake_24 : decode cX12_wake 24 = .ok (.dup, 1) := by decide +kernel
theorem dX12_wake_25 : decode cX12_wake 25 = .ok (.getfield 224, 3) := by decide +kernel
theorem dX12_wake_28 : decode cX12_wake 28 = .ok (.iconst 1, 1) := by decide +kernel
theorem dX12_wake_29 : decode cX12_wake 29 = .ok (.iload_n 1, 1) := by decide +kernel
theorem dX12_wake_30 : decode cX12_wake 30 = .ok (.ishl, 1) := by decide +kernel
theorem dX12_wake_31 : decode cX12_wake 31 = .ok (.ior, 1) := by decide +kernel
theorem dX12_wake_32 : decode cX12_wake 32 = .ok (.putfield 224, 3) := by decide +kernel
theorem dX12_wake_35 : decode cX12_wake 35 = .ok (.iconst 1, 1) := by decide +kernel
theorem dX12_wake_36 : decode cX12_wake 36 = .ok (.ireturn, 1) := by decide +kernel
theorem dX12_night_0 : decode cX12_night 0 = .ok (.iconst 0, 1) := by decide +kernel
theorem dX12_night_1 : decode cX12_night 1 = .ok (.istore_n 2, 1) := by decide +kernel
theorem dX12_night_2 : decode cX12_night 2 = .ok (.iload_n 1, 1) := by decide +kernel
theorem dX12_night_3 : decode cX12_night 3 = .ok (.tableswitch 83 0 3 #[29, 34, 39, 56], 29) := by decide +kernel
theorem dX12_night_32 : decode cX12_night 32 = .ok (.aload_n 0, 1) := by decide +kernel
theorem dX12_night_33 : decode cX12_night 33 = .ok (.getfield 227, 3) := by decide +kernel
theorem dX12_night_36 : decode cX12_night 36 = .ok (.ireturn, 1) := by decide +kernel
theorem dX12_night_37 : decode cX12_night 37 = .ok (.aload_n 0, 1) := by decide +kernel
theorem dX12_night_38 : decode cX12_night 38 = .ok (.getfield 224, 3) := by decide +kernel
theorem dX12_night_41 : decode cX12_night 41 = .ok (.ireturn, 1) := by decide +kernel
theorem dX12_night_42 : decode cX12_night 42 = .ok (.aload_n 0, 1) := by decide +kernel
theorem dX12_night_43 : decode cX12_night 43 = .ok (.getfield 224, 3) := by decide +kernel
theorem dX12_night_46 : decode cX12_night 46 = .ok (.invokestatic 200, 3) := by decide +kernel
theorem dX12_night_49 : decode cX12_night 49 = .ok (.iconst 2, 1) := by decide +kernel
theorem dX12_night_50 : decode cX12_night 50 = .ok (.if_icmp .ge 7, 3) := by decide +kernel
theorem dX12_night_53 : decode cX12_night 53 = .ok (.iconst 1, 1) := by decide +kernel
theorem dX12_night_54 : decode cX12_night 54 = .ok (.goto 4, 3) := by decide +kernel
theorem dX12_night_57 : decode cX12_night 57 = .ok (.iconst 0, 1) := by decide +kernel
theorem dX12_night_58 : decode cX12_night 58 = .ok (.ireturn, 1) := by decide +kernel
theorem dX12_night_59 : decode cX12_night 59 = .ok (.iconst 0, 1) := by decide +kernel
theorem dX12_night_60 : decode cX12_night 60 = .ok (.istore_n 3, 1) := by decide +kernel
theorem dX12_night_61 : decode cX12_night 61 = .ok (.iload_n 3, 1) := by decide +kernel
theorem dX12_night_62 : decode cX12_night 62 = .ok (.aload_n 0, 1) := by decide +kernel
theorem dX12_night_63 : decode cX12_night 63 = .ok (.getfield 105, 3) := by decide +kernel
theorem dX12_night_66 : decode cX12_night 66 = .ok (.if_icmp .ge 18, 3) := by decide +kernel
theorem dX12_night_69 : decode cX12_night 69 = .ok (.iload_n 2, 1) := by decide +kernel
theorem dX12_night_70 : decode cX12_night 70 = .ok (.aload_n 0, 1) := by decide +kernel
theorem dX12_night_71 : decode cX12_night 71 = .ok (.getfield 25, 3) := by decide +kernel
theorem dX12_night_74 : decode cX12_night 74 = .ok (.iload_n 3, 1) := by decide +kernel
theorem dX12_night_75 : decode cX12_night 75 = .ok (.iaload, 1) := by decide +kernel
theorem dX12_night_76 : decode cX12_night 76 = .ok (.iadd, 1) := by decide +kernel
theorem dX12_night_77 : decode cX12_night 77 = .ok (.istore_n 2, 1) := by decide +kernel
theorem dX12_night_78 : decode cX12_night 78 = .ok (.iinc 3 1, 3) := by decide +kernel
theorem dX12_night_81 : decode cX12_night 81 = .ok (.goto (-20), 3) := by decide +kernel
theorem dX12_night_84 : decode cX12_night 84 = .ok (.iload_n 2, 1) := by decide +kernel
theorem dX12_night_85 : decode cX12_night 85 = .ok (.ireturn, 1) := by decide +kernel
theorem dX12_night_86 : decode cX12_night 86 = .ok (.iconst (-1), 1) := by decide +kernel
theorem dX12_night_87 : decode cX12_night 87 = .ok (.ireturn, 1) := by decide +kernel
theorem dX12_only_0 : decode cX12_only 0 = .ok (.bipush (-9), 2) := by decide +kernel
theorem dX12_only_2 : decode cX12_only 2 = .ok (.istore_n 2, 1) := by decide +kernel
theorem dX12_only_3 : decode cX12_only 3 = .ok (.iconst 0, 1) := by decide +kernel
theorem dX12_only_4 : decode cX12_only 4 = .ok (.istore_n 3, 1) := by decide +kernel
theorem dX12_only_5 : decode cX12_only 5 = .ok (.iload_n 3, 1) := by decide +kernel
theorem dX12_only_6 : decode cX12_only 6 = .ok (.aload_n 0, 1) := by decide +kernel
theorem dX12_only_7 : decode cX12_only 7 = .ok (.getfield 105, 3) := by decide +kernel
theorem dX12_only_10 : decode cX12_only 10 = .ok (.if_icmp .ge 22, 3) := by decide +kernel
theorem dX12_only_13 : decode cX12_only 13 = .ok (.iload_n 1, 1) := by decide +kernel
theorem dX12_only_14 : decode cX12_only 14 = .ok (.iconst 1, 1) := by decide +kernel
theorem dX12_only_15 : decode cX12_only 15 = .ok (.iload_n 3, 1) := by decide +kernel
theorem dX12_only_16 : decode cX12_only 16 = .ok (.ishl, 1) := by decide +kernel
theorem dX12_only_17 : decode cX12_only 17 = .ok (.if_icmp .ne 7, 3) := by decide +kernel
theorem dX12_only_20 : decode cX12_only 20 = .ok (.iload_n 3, 1) := by decide +kernel
theorem dX12_only_21 : decode cX12_only 21 = .ok (.goto 4, 3) := by decide +kernel
theorem dX12_only_24 : decode cX12_only 24 = .ok (.iload_n 2, 1) := by decide +kernel
theorem dX12_only_25 : decode cX12_only 25 = .ok (.istore_n 2, 1) := by decide +kernel
theorem dX12_only_26 : decode cX12_only 26 = .ok (.iinc 3 1, 3) := by decide +kernel
theorem dX12_only_29 : decode cX12_only 29 = .ok (.goto (-24), 3) := by decide +kernel
theorem dX12_only_32 : decode cX12_only 32 = .ok (.iload_n 2, 1) := by decide +kernel
theorem dX12_only_33 : decode cX12_only 33 = .ok (.ireturn, 1) := by decide +kernel
theorem dX12_day_0 : decode cX12_day 0 = .ok (.aload_n 0, 1) := by decide +kernel
theorem dX12_day_1 : decode cX12_day 1 = .ok (.aload_n 0, 1) := by decide +kernel
theorem dX12_day_2 : decode cX12_day 2 = .ok (.getfield 224, 3) := by decide +kernel
theorem dX12_day_5 : decode cX12_day 5 = .ok (.invokevirtual 253, 3) := by decide +kernel
theorem dX12_day_8 : decode cX12_day 8 = .ok (.istore_n 1, 1) := by decide +kernel
theorem dX12_day_9 : decode cX12_day 9 = .ok (.iload_n 1, 1) := by decide +kernel
theorem dX12_day_10 : decode cX12_day 10 = .ok (.ifCond .lt 13, 3) := by decide +kernel
theorem dX12_day_13 : decode cX12_day 13 = .ok (.aload_n 0, 1) := by decide +kernel
theorem dX12_day_14 : decode cX12_day 14 = .ok (.getfield 22, 3) := by decide +kernel
theorem dX12_day_17 : decode cX12_day 17 = .ok (.iload_n 1, 1) := by decide +kernel
theorem dX12_day_18 : decode cX12_day 18 = .ok (.dup2, 1) := by decide +kernel
theorem dX12_day_19 : decode cX12_day 19 = .ok (.iaload, 1) := by decide +kernel
theorem dX12_day_20 : decode cX12_day 20 = .ok (.iconst 1, 1) := by decide +kernel
theorem dX12_day_21 : decode cX12_day 21 = .ok (.iadd, 1) := by decide +kernel
theorem dX12_day_22 : decode cX12_day 22 = .ok (.iastore, 1) := by decide +kernel
theorem dX12_day_23 : decode cX12_day 23 = .ok (.aload_n 0, 1) := by decide +kernel
theorem dX12_day_24 : decode cX12_day 24 = .ok (.iconst 1, 1) := by decide +kernel
theorem dX12_day_25 : decode cX12_day 25 = .ok (.aload_n 0, 1) := by decide +kernel
theorem dX12_day_26 : decode cX12_day 26 = .ok (.getfield 105, 3) := by decide +kernel
theorem dX12_day_29 : decode cX12_day 29 = .ok (.ishl, 1) := by decide +kernel
theorem dX12_day_30 : decode cX12_day 30 = .ok (.iconst 1, 1) := by decide +kernel
theorem dX12_day_31 : decode cX12_day 31 = .ok (.isub, 1) := by decide +kernel
theorem dX12_day_32 : decode cX12_day 32 = .ok (.putfield 224, 3) := by decide +kernel
theorem dX12_day_35 : decode cX12_day 35 = .ok (.aload_n 0, 1) := by decide +kernel
theorem dX12_day_36 : decode cX12_day 36 = .ok (.iconst 0, 1) := by decide +kernel
theorem dX12_day_37 : decode cX12_day 37 = .ok (.putfield 227, 3) := by decide +kernel
theorem dX12_day_40 : decode cX12_day 40 = .ok (.iconst 0, 1) := by decide +kernel
theorem dX12_day_41 : decode cX12_day 41 = .ok (.istore_n 2, 1) := by decide +kernel
theorem dX12_day_42 : decode cX12_day 42 = .ok (.iload_n 2, 1) := by decide +kernel
theorem dX12_day_43 : decode cX12_day 43 = .ok (.aload_n 0, 1) := by decide +kernel
theorem dX12_day_44 : decode cX12_day 44 = .ok (.getfield 105, 3) := by decide +kernel
theorem dX12_day_47 : decode cX12_day 47 = .ok (.if_icmp .ge 103, 3) := by decide +kernel
theorem dX12_day_50 : decode cX12_day 50 = .ok (.aload_n 0, 1) := by decide +kernel
theorem dX12_day_51 : decode cX12_day 51 = .ok (.getfield 25, 3) := by decide +kernel
theorem dX12_day_54 : decode cX12_day 54 = .ok (.iload_n 2, 1) := by decide +kernel
theorem dX12_day_55 : decode cX12_day 55 = .ok (.iconst 0, 1) := by decide +kernel
theorem dX12_day_56 : decode cX12_day 56 = .ok (.iastore, 1) := by decide +kernel
theorem dX12_day_57 : decode cX12_day 57 = .ok (.iconst 0, 1) := by decide +kernel
theorem dX12_day_58 : decode cX12_day 58 = .ok (.istore_n 3, 1) := by decide +kernel
theorem dX12_day_59 : decode cX12_day 59 = .ok (.iload_n 3, 1) := by decide +kernel
theorem dX12_day_60 : decode cX12_day 60 = .ok (.iload_n 2, 1) := by decide +kernel
theorem dX12_day_61 : decode cX12_day 61 = .ok (.if_icmp .ge 83, 3) := by decide +kernel
theorem dX12_day_64 : decode cX12_day 64 = .ok (.aload_n 0, 1) := by decide +kernel
theorem dX12_day_65 : decode cX12_day 65 = .ok (.getfield 28, 3) := by decide +kernel
theorem dX12_day_68 : decode cX12_day 68 = .ok (.bipush 8, 2) := by decide +kernel
theorem dX12_day_70 : decode cX12_day 70 = .ok (.iload_n 2, 1) := by decide +kernel
theorem dX12_day_71 : decode cX12_day 71 = .ok (.imul, 1) := by decide +kernel
theorem dX12_day_72 : decode cX12_day 72 = .ok (.iload_n 3, 1) := by decide +kernel
theorem dX12_day_73 : decode cX12_day 73 = .ok (.iadd, 1) := by decide +kernel
theorem dX12_day_74 : decode cX12_day 74 = .ok (.iaload, 1) := by decide +kernel
theorem dX12_day_75 : decode cX12_day 75 = .ok (.istore 4, 2) := by decide +kernel
theorem dX12_day_77 : decode cX12_day 77 = .ok (.aload_n 0, 1) := by decide +kernel
theorem dX12_day_78 : decode cX12_day 78 = .ok (.getfield 28, 3) := by decide +kernel
theorem dX12_day_81 : decode cX12_day 81 = .ok (.bipush 8, 2) := by decide +kernel
theorem dX12_day_83 : decode cX12_day 83 = .ok (.iload_n 3, 1) := by decide +kernel
theorem dX12_day_84 : decode cX12_day 84 = .ok (.imul, 1) := by decide +kernel
theorem dX12_day_85 : decode cX12_day 85 = .ok (.iload_n 2, 1) := by decide +kernel
theorem dX12_day_86 : decode cX12_day 86 = .ok (.iadd, 1) := by decide +kernel
theorem dX12_day_87 : decode cX12_day 87 = .ok (.iaload, 1) := by decide +kernel
theorem dX12_day_88 : decode cX12_day 88 = .ok (.istore 5, 2) := by decide +kernel
theorem dX12_day_90 : decode cX12_day 90 = .ok (.iload 4, 2) := by decide +kernel
theorem dX12_day_92 : decode cX12_day 92 = .ok (.iload 5, 2) := by decide +kernel
theorem dX12_day_94 : decode cX12_day 94 = .ok (.if_icmp .ge 8, 3) := by decide +kernel
theorem dX12_day_97 : decode cX12_day 97 = .ok (.iload 4, 2) := by decide +kernel
theorem dX12_day_99 : decode cX12_day 99 = .ok (.goto 5, 3) := by decide +kernel
theorem dX12_day_102 : decode cX12_day 102 = .ok (.iload 5, 2) := by decide +kernel
theorem dX12_day_104 : decode cX12_day 104 = .ok (.istore 6, 2) := by decide +kernel
theorem dX12_day_106 : decode cX12_day 106 = .ok (.aload_n 0, 1) := by decide +kernel
theorem dX12_day_107 : decode cX12_day 107 = .ok (.getfield 28, 3) := by decide +kernel
theorem dX12_day_110 : decode cX12_day 110 = .ok (.bipush 8, 2) := by decide +kernel
theorem dX12_day_112 : decode cX12_day 112 = .ok (.iload_n 2, 1) := by decide +kernel
theorem dX12_day_113 : decode cX12_day 113 = .ok (.imul, 1) := by decide +kernel
theorem dX12_day_114 : decode cX12_day 114 = .ok (.iload_n 3, 1) := by decide +kernel
theorem dX12_day_115 : decode cX12_day 115 = .ok (.iadd, 1) := by decide +kernel
theorem dX12_day_116 : decode cX12_day 116 = .ok (.iload 4, 2) := by decide +kernel
theorem dX12_day_118 : decode cX12_day 118 = .ok (.iload 6, 2) := by decide +kernel
theorem dX12_day_120 : decode cX12_day 120 = .ok (.isub, 1) := by decide +kernel
theorem dX12_day_121 : decode cX12_day 121 = .ok (.iastore, 1) := by decide +kernel
theorem dX12_day_122 : decode cX12_day 122 = .ok (.aload_n 0, 1) := by decide +kernel
theorem dX12_day_123 : decode cX12_day 123 = .ok (.getfield 28, 3) := by decide +kernel
theorem dX12_day_126 : decode cX12_day 126 = .ok (.bipush 8, 2) := by decide +kernel
theorem dX12_day_128 : decode cX12_day 128 = .ok (.iload_n 3, 1) := by decide +kernel
theorem dX12_day_129 : decode cX12_day 129 = .ok (.imul, 1) := by decide +kernel
theorem dX12_day_130 : decode cX12_day 130 = .ok (.iload_n 2, 1) := by decide +kernel
theorem dX12_day_131 : decode cX12_day 131 = .ok (.iadd, 1) := by decide +kernel
theorem dX12_day_132 : decode cX12_day 132 = .ok (.iload 5, 2) := by decide +kernel
theorem dX12_day_134 : decode cX12_day 134 = .ok (.iload 6, 2) := by decide +kernel
theorem dX12_day_136 : decode cX12_day 136 = .ok (.isub, 1) := by decide +kernel
theorem dX12_day_137 : decode cX12_day 137 = .ok (.iastore, 1) := by decide +kernel
theorem dX12_day_138 : decode cX12_day 138 = .ok (.iinc 3 1, 3) := by decide +kernel
theorem dX12_day_141 : decode cX12_day 141 = .ok (.goto (-82), 3) := by decide +kernel
theorem dX12_day_144 : decode cX12_day 144 = .ok (.iinc 2 1, 3) := by decide +kernel
theorem dX12_day_147 : decode cX12_day 147 = .ok (.goto (-105), 3) := by decide +kernel
theorem dX12_day_150 : decode cX12_day 150 = .ok (.iload_n 1, 1) := by decide +kernel
theorem dX12_day_151 : decode cX12_day 151 = .ok (.ireturn, 1) := by decide +kernel
theorem dX12_owed_0 : decode cX12_owed 0 = .ok (.aload_n 0, 1) := by decide +kernel
theorem dX12_owed_1 : decode cX12_owed 1 = .ok (.iload_n 1, 1) := by decide +kernel
theorem dX12_owed_2 : decode cX12_owed 2 = .ok (.invokevirtual 233, 3) := by decide +kernel
theorem dX12_owed_5 : decode cX12_owed 5 = .ok (.ifCond .eq 30, 3) := by decide +kernel
theorem dX12_owed_8 : decode cX12_owed 8 = .ok (.aload_n 0, 1) := by decide +kernel
theorem dX12_owed_9 : decode cX12_owed 9 = .ok (.iload_n 2, 1) := by decide +kernel
theorem dX12_owed_10 : decode cX12_owed 10 = .ok (.invokevirtual 233, 3) := by decide +kernel
theorem dX12_owed_13 : decode cX12_owed 13 = .ok (.ifCond .eq 22, 3) := by decide +kernel
theorem dX12_owed_16 : decode cX12_owed 16 = .ok (.iload_n 1, 1) := by decide +kernel
theorem dX12_owed_17 : decode cX12_owed 17 = .ok (.iload_n 2, 1) := by decide +kernel
theorem dX12_owed_18 : decode cX12_owed 18 = .ok (.if_icmp .eq 17, 3) := by decide +kernel
theorem dX12_owed_21 : decode cX12_owed 21 = .ok (.aload_n 0, 1) := by decide +kernel
theorem dX12_owed_22 : decode cX12_owed 22 = .ok (.getfield 28, 3) := by decide +kernel
theorem dX12_owed_25 : decode cX12_owed 25 = .ok (.bipush 8, 2) := by decide +kernel
theorem dX12_owed_27 : decode cX12_owed 27 = .ok (.iload_n 1, 1) := by decide +kernel
theorem dX12_owed_28 : decode cX12_owed 28 = .ok (.imul, 1) := by decide +kernel
theorem dX12_owed_29 : decode cX12_owed 29 = .ok (.iload_n 2, 1) := by decide +kernel
theorem dX12_owed_30 : decode cX12_owed 30 = .ok (.iadd, 1) := by decide +kernel
theorem dX12_owed_31 : decode cX12_owed 31 = .ok (.iaload, 1) := by decide +kernel
theorem dX12_owed_32 : decode cX12_owed 32 = .ok (.goto 4, 3) := by decide +kernel
theorem dX12_owed_35 : decode cX12_owed 35 = .ok (.iconst (-1), 1) := by decide +kernel
theorem dX12_owed_36 : decode cX12_owed 36 = .ok (.ireturn, 1) := by decide +kernel
theorem dX12_owe_0 : decode cX12_owe 0 = .ok (.aload_n 0, 1) := by decide +kernel
theorem dX12_owe_1 : decode cX12_owe 1 = .ok (.iload_n 1, 1) := by decide +kernel
theorem dX12_owe_2 : decode cX12_owe 2 = .ok (.invokevirtual 233, 3) := by decide +kernel
theorem dX12_owe_5 : decode cX12_owe 5 = .ok (.ifCond .eq 27, 3) := by decide +kernel
theorem dX12_owe_8 : decode cX12_owe 8 = .ok (.aload_n 0, 1) := by decide +kernel
theorem dX12_owe_9 : decode cX12_owe 9 = .ok (.iload_n 2, 1) := by decide +kernel
theorem dX12_owe_10 : decode cX12_owe 10 = .ok (.invokevirtual 233, 3) := by decide +kernel
theorem dX12_owe_13 : decode cX12_owe 13 = .ok (.ifCond .eq 19, 3) := by decide +kernel
theorem dX12_owe_16 : decode cX12_owe 16 = .ok (.iload_n 1, 1) := by decide +kernel
theorem dX12_owe_17 : decode cX12_owe 17 = .ok (.iload_n 2, 1) := by decide +kernel
theorem dX12_owe_18 : decode cX12_owe 18 = .ok (.if_icmp .eq 14, 3) := by decide +kernel
theorem dX12_owe_21 : decode cX12_owe 21 = .ok (.iload_n 3, 1) := by decide +kernel
theorem dX12_owe_22 : decode cX12_owe 22 = .ok (.iconst 0, 1) := by decide +kernel
theorem dX12_owe_23 : decode cX12_owe 23 = .ok (.sipush 9999, 3) := by decide +kernel
theorem dX12_owe_26 : decode cX12_owe 26 = .ok (.invokestatic 108, 3) := by decide +kernel
theorem dX12_owe_29 : decode cX12_owe 29 = .ok (.ifCond .ne 5, 3) := by decide +kernel
theorem dX12_owe_32 : decode cX12_owe 32 = .ok (.iconst (-1), 1) := by decide +kernel
theorem dX12_owe_33 : decode cX12_owe 33 = .ok (.ireturn, 1) := by decide +kernel
theorem dX12_owe_34 : decode cX12_owe 34 = .ok (.aload_n 0, 1) := by decide +kernel
theorem dX12_owe_35 : decode cX12_owe 35 = .ok (.getfield 28, 3) := by decide +kernel
theorem dX12_owe_38 : decode cX12_owe 38 = .ok (.bipush 8, 2) := by decide +kernel
theorem dX12_owe_40 : decode cX12_owe 40 = .ok (.iload_n 1, 1) := by decide +kernel
theorem dX12_owe_41 : decode cX12_owe 41 = .ok (.imul, 1) := by decide +kernel
theorem dX12_owe_42 : decode cX12_owe 42 = .ok (.iload_n 2, 1) := by decide +kernel
theorem dX12_owe_43 : decode cX12_owe 43 = .ok (.iadd, 1) := by decide +kernel
theorem dX12_owe_44 : decode cX12_owe 44 = .ok (.iaload, 1) := by decide +kernel
theorem dX12_owe_45 : decode cX12_owe 45 = .ok (.istore 4, 2) := by decide +kernel
theorem dX12_owe_47 : decode cX12_owe 47 = .ok (.aload_n 0, 1) := by decide +kernel
theorem dX12_owe_48 : decode cX12_owe 48 = .ok (.getfield 28, 3) := by decide +kernel
theorem dX12_owe_51 : decode cX12_owe 51 = .ok (.bipush 8, 2) := by decide +kernel
theorem dX12_owe_53 : decode cX12_owe 53 = .ok (.iload_n 1, 1) := by decide +kernel
theorem dX12_owe_54 : decode cX12_owe 54 = .ok (.imul, 1) := by decide +kernel
theorem dX12_owe_55 : decode cX12_owe 55 = .ok (.iload_n 2, 1) := by decide +kernel
theorem dX12_owe_56 : decode cX12_owe 56 = .ok (.iadd, 1) := by decide +kernel
theorem dX12_owe_57 : decode cX12_owe 57 = .ok (.iload_n 3, 1) := by decide +kernel
theorem dX12_owe_58 : decode cX12_owe 58 = .ok (.iastore, 1) := by decide +kernel
theorem dX12_owe_59 : decode cX12_owe 59 = .ok (.iload 4, 2) := by decide +kernel
theorem dX12_owe_61 : decode cX12_owe 61 = .ok (.ireturn, 1) := by decide +kernel
theorem dX12_round_0 : decode cX12_round 0 = .ok (.iload_n 1, 1) := by decide +kernel
theorem dX12_round_1 : decode cX12_round 1 = .ok (.iload_n 2, 1) := by decide +kernel
theorem dX12_round_2 : decode cX12_round 2 = .ok (.if_icmp .eq 13, 3) := by decide +kernel
theorem dX12_round_5 : decode cX12_round 5 = .ok (.iload_n 2, 1) := by decide +kernel
theorem dX12_round_6 : decode cX12_round 6 = .ok (.iload_n 3, 1) := by decide +kernel
theorem dX12_round_7 : decode cX12_round 7 = .ok (.if_icmp .eq 8, 3) := by decide +kernel
theorem dX12_round_10 : decode cX12_round 10 = .ok (.iload_n 1, 1) := by decide +kernel
theorem dX12_round_11 : decode cX12_round 11 = .ok (.iload_n 3, 1) := by decide +kernel
theorem dX12_round_12 : decode cX12_round 12 = .ok (.if_icmp .ne 5, 3) := by decide +kernel
theorem dX12_round_15 : decode cX12_round 15 = .ok (.iconst 0, 1) := by decide +kernel
theorem dX12_round_16 : decode cX12_round 16 = .ok (.ireturn, 1) := by decide +kernel
theorem dX12_round_17 : decode cX12_round 17 = .ok (.aload_n 0, 1) := by decide +kernel
theorem dX12_round_18 : decode cX12_round 18 = .ok (.getfield 28, 3) := by decide +kernel
theorem dX12_round_21 : decode cX12_round 21 = .ok (.bipush 8, 2) := by decide +kernel
theorem dX12_round_23 : decode cX12_round 23 = .ok (.iload_n 1, 1) := by decide +kernel
theorem dX12_round_24 : decode cX12_round 24 = .ok (.imul, 1) := by decide +kernel
theorem dX12_round_25 : decode cX12_round 25 = .ok (.iload_n 2, 1) := by decide +kernel
theorem dX12_round_26 : decode cX12_round 26 = .ok (.iadd, 1) := by decide +kernel
theorem dX12_round_27 : decode cX12_round 27 = .ok (.iaload, 1) := by decide +kernel
theorem dX12_round_28 : decode cX12_round 28 = .ok (.istore 4, 2) := by decide +kernel
theorem dX12_round_30 : decode cX12_round 30 = .ok (.aload_n 0, 1) := by decide +kernel
theorem dX12_round_31 : decode cX12_round 31 = .ok (.getfield 28, 3) := by decide +kernel
theorem dX12_round_34 : decode cX12_round 34 = .ok (.bipush 8, 2) := by decide +kernel
theorem dX12_round_36 : decode cX12_round 36 = .ok (.iload_n 2, 1) := by decide +kernel
theorem dX12_round_37 : decode cX12_round 37 = .ok (.imul, 1) := by decide +kernel
theorem dX12_round_38 : decode cX12_round 38 = .ok (.iload_n 3, 1) := by decide +kernel
theorem dX12_round_39 : decode cX12_round 39 = .ok (.iadd, 1) := by decide +kernel
theorem dX12_round_40 : decode cX12_round 40 = .ok (.iaload, 1) := by decide +kernel
theorem dX12_round_41 : decode cX12_round 41 = .ok (.istore 5, 2) := by decide +kernel
theorem dX12_round_43 : decode cX12_round 43 = .ok (.aload_n 0, 1) := by decide +kernel
theorem dX12_round_44 : decode cX12_round 44 = .ok (.getfield 28, 3) := by decide +kernel
theorem dX12_round_47 : decode cX12_round 47 = .ok (.bipush 8, 2) := by decide +kernel
theorem dX12_round_49 : decode cX12_round 49 = .ok (.iload_n 3, 1) := by decide +kernel
theorem dX12_round_50 : decode cX12_round 50 = .ok (.imul, 1) := by decide +kernel
theorem dX12_round_51 : decode cX12_round 51 = .ok (.iload_n 1, 1) := by decide +kernel
theorem dX12_round_52 : decode cX12_round 52 = .ok (.iadd, 1) := by decide +kernel
theorem dX12_round_53 : decode cX12_round 53 = .ok (.iaload, 1) := by decide +kernel
theorem dX12_round_54 : decode cX12_round 54 = .ok (.istore 6, 2) := by decide +kernel
theorem dX12_round_56 : decode cX12_round 56 = .ok (.iload 4, 2) := by decide +kernel
theorem dX12_round_58 : decode cX12_round 58 = .ok (.iload 5, 2) := by decide +kernel
theorem dX12_round_60 : decode cX12_round 60 = .ok (.if_icmp .ge 8, 3) := by decide +kernel
theorem dX12_round_63 : decode cX12_round 63 = .ok (.iload 4, 2) := by decide +kernel
theorem dX12_round_65 : decode cX12_round 65 = .ok (.goto 5, 3) := by decide +kernel
theorem dX12_round_68 : decode cX12_round 68 = .ok (.iload 5, 2) := by decide +kernel
theorem dX12_round_70 : decode cX12_round 70 = .ok (.istore 7, 2) := by decide +kernel
theorem dX12_round_72 : decode cX12_round 72 = .ok (.iload 7, 2) := by decide +kernel
theorem dX12_round_74 : decode cX12_round 74 = .ok (.iload 6, 2) := by decide +kernel
theorem dX12_round_76 : decode cX12_round 76 = .ok (.if_icmp .ge 8, 3) := by decide +kernel
theorem dX12_round_79 : decode cX12_round 79 = .ok (.iload 7, 2) := by decide +kernel
theorem dX12_round_81 : decode cX12_round 81 = .ok (.goto 5, 3) := by decide +kernel
theorem dX12_round_84 : decode cX12_round 84 = .ok (.iload 6, 2) := by decide +kernel
theorem dX12_round_86 : decode cX12_round 86 = .ok (.ireturn, 1) := by decide +kernel
theorem dX12_ring_0 : decode cX12_ring 0 = .ok (.iconst 0, 1) := by decide +kernel
theorem dX12_ring_1 : decode cX12_ring 1 = .ok (.istore_n 1, 1) := by decide +kernel
theorem dX12_ring_2 : decode cX12_ring 2 = .ok (.iload_n 1, 1) := by decide +kernel
theorem dX12_ring_3 : decode cX12_ring 3 = .ok (.sipush 512, 3) := by decide +kernel
theorem dX12_ring_6 : decode cX12_ring 6 = .ok (.if_icmp .ge 135, 3) := by decide +kernel
theorem dX12_ring_9 : decode cX12_ring 9 = .ok (.iload_n 1, 1) := by decide +kernel
theorem dX12_ring_10 : decode cX12_ring 10 = .ok (.bipush 64, 2) := by decide +kernel
theorem dX12_ring_12 : decode cX12_ring 12 = .ok (.idiv, 1) := by decide +kernel
theorem dX12_ring_13 : decode cX12_ring 13 = .ok (.istore_n 2, 1) := by decide +kernel
theorem dX12_ring_14 : decode cX12_ring 14 = .ok (.iload_n 1, 1) := by decide +kernel
theorem dX12_ring_15 : decode cX12_ring 15 = .ok (.bipush 8, 2) := by decide +kernel
theorem dX12_ring_17 : decode cX12_ring 17 = .ok (.idiv, 1) := by decide +kernel
theorem dX12_ring_18 : decode cX12_ring 18 = .ok (.bipush 8, 2) := by decide +kernel
theorem dX12_ring_20 : decode cX12_ring 20 = .ok (.irem, 1) := by decide +kernel
theorem dX12_ring_21 : decode cX12_ring 21 = .ok (.istore_n 3, 1) := by decide +kernel
theorem dX12_ring_22 : decode cX12_ring 22 = .ok (.iload_n 1, 1) := by decide +kernel
theorem dX12_ring_23 : decode cX12_ring 23 = .ok (.bipush 8, 2) := by decide +kernel
theorem dX12_ring_25 : decode cX12_ring 25 = .ok (.irem, 1) := by decide +kernel
theorem dX12_ring_26 : decode cX12_ring 26 = .ok (.istore 4, 2) := by decide +kernel
theorem dX12_ring_28 : decode cX12_ring 28 = .ok (.aload_n 0, 1) := by decide +kernel
theorem dX12_ring_29 : decode cX12_ring 29 = .ok (.iload_n 2, 1) := by decide +kernel
theorem dX12_ring_30 : decode cX12_ring 30 = .ok (.invokevirtual 233, 3) := by decide +kernel
theorem dX12_ring_33 : decode cX12_ring 33 = .ok (.ifCond .eq 31, 3) := by decide +kernel
theorem dX12_ring_36 : decode cX12_ring 36 = .ok (.aload_n 0, 1) := by decide +kernel
theorem dX12_ring_37 : decode cX12_ring 37 = .ok (.iload_n 3, 1) := by decide +kernel
theorem dX12_ring_38 : decode cX12_ring 38 = .ok (.invokevirtual 233, 3) := by decide +kernel
theorem dX12_ring_41 : decode cX12_ring 41 = .ok (.ifCond .eq 23, 3) := by decide +kernel
theorem dX12_ring_44 : decode cX12_ring 44 = .ok (.aload_n 0, 1) := by decide +kernel
theorem dX12_ring_45 : decode cX12_ring 45 = .ok (.iload 4, 2) := by decide +kernel
theorem dX12_ring_47 : decode cX12_ring 47 = .ok (.invokevirtual 233, 3) := by decide +kernel
theorem dX12_ring_50 : decode cX12_ring 50 = .ok (.ifCond .eq 14, 3) := by decide +kernel
theorem dX12_ring_53 : decode cX12_ring 53 = .ok (.aload_n 0, 1) := by decide +kernel
theorem dX12_ring_54 : decode cX12_ring 54 = .ok (.iload_n 2, 1) := by decide +kernel
theorem dX12_ring_55 : decode cX12_ring 55 = .ok (.iload_n 3, 1) := by decide +kernel
theorem dX12_ring_56 : decode cX12_ring 56 = .ok (.iload 4, 2) := by decide +kernel
theorem dX12_ring_58 : decode cX12_ring 58 = .ok (.invokevirtual 256, 3) := by decide +kernel
theorem dX12_ring_61 : decode cX12_ring 61 = .ok (.goto 4, 3) := by decide +kernel
theorem dX12_ring_64 : decode cX12_ring 64 = .ok (.iconst 0, 1) := by decide +kernel
theorem dX12_ring_65 : decode cX12_ring 65 = .ok (.istore 5, 2) := by decide +kernel
theorem dX12_ring_67 : decode cX12_ring 67 = .ok (.iload 5, 2) := by decide +kernel
theorem dX12_ring_69 : decode cX12_ring 69 = .ok (.ifCond .le 66, 3) := by decide +kernel
theorem dX12_ring_72 : decode cX12_ring 72 = .ok (.aload_n 0, 1) := by decide +kernel
theorem dX12_ring_73 : decode cX12_ring 73 = .ok (.getfield 28, 3) := by decide +kernel
theorem dX12_ring_76 : decode cX12_ring 76 = .ok (.bipush 8, 2) := by decide +kernel
theorem dX12_ring_78 : decode cX12_ring 78 = .ok (.iload_n 2, 1) := by decide +kernel
theorem dX12_ring_79 : decode cX12_ring 79 = .ok (.imul, 1) := by decide +kernel
theorem dX12_ring_80 : decode cX12_ring 80 = .ok (.iload_n 3, 1) := by decide +kernel
theorem dX12_ring_81 : decode cX12_ring 81 = .ok (.iadd, 1) := by decide +kernel
theorem dX12_ring_82 : decode cX12_ring 82 = .ok (.dup2, 1) := by decide +kernel
theorem dX12_ring_83 : decode cX12_ring 83 = .ok (.iaload, 1) := by decide +kernel
theorem dX12_ring_84 : decode cX12_ring 84 = .ok (.iload 5, 2) := by decide +kernel
theorem dX12_ring_86 : decode cX12_ring 86 = .ok (.isub, 1) := by decide +kernel
theorem dX12_ring_87 : decode cX12_ring 87 = .ok (.iastore, 1) := by decide +kernel
theorem dX12_ring_88 : decode cX12_ring 88 = .ok (.aload_n 0, 1) := by decide +kernel
theorem dX12_ring_89 : decode cX12_ring 89 = .ok (.getfield 28, 3) := by decide +kernel
theorem dX12_ring_92 : decode cX12_ring 92 = .ok (.bipush 8, 2) := by decide +kernel
theorem dX12_ring_94 : decode cX12_ring 94 = .ok (.iload_n 3, 1) := by decide +kernel
theorem dX12_ring_95 : decode cX12_ring 95 = .ok (.imul, 1) := by decide +kernel
theorem dX12_ring_96 : decode cX12_ring 96 = .ok (.iload 4, 2) := by decide +kernel
theorem dX12_ring_98 : decode cX12_ring 98 = .ok (.iadd, 1) := by decide +kernel
theorem dX12_ring_99 : decode cX12_ring 99 = .ok (.dup2, 1) := by decide +kernel
theorem dX12_ring_100 : decode cX12_ring 100 = .ok (.iaload, 1) := by decide +kernel
theorem dX12_ring_101 : decode cX12_ring 101 = .ok (.iload 5, 2) := by decide +kernel
theorem dX12_ring_103 : decode cX12_ring 103 = .ok (.isub, 1) := by decide +kernel
theorem dX12_ring_104 : decode cX12_ring 104 = .ok (.iastore, 1) := by decide +kernel
theorem dX12_ring_105 : decode cX12_ring 105 = .ok (.aload_n 0, 1) := by decide +kernel
theorem dX12_ring_106 : decode cX12_ring 106 = .ok (.getfield 28, 3) := by decide +kernel
theorem dX12_ring_109 : decode cX12_ring 109 = .ok (.bipush 8, 2) := by decide +kernel
theorem dX12_ring_111 : decode cX12_ring 111 = .ok (.iload 4, 2) := by decide +kernel
theorem dX12_ring_113 : decode cX12_ring 113 = .ok (.imul, 1) := by decide +kernel
theorem dX12_ring_114 : decode cX12_ring 114 = .ok (.iload_n 2, 1) := by decide +kernel
theorem dX12_ring_115 : decode cX12_ring 115 = .ok (.iadd, 1) := by decide +kernel
theorem dX12_ring_116 : decode cX12_ring 116 = .ok (.dup2, 1) := by decide +kernel
theorem dX12_ring_117 : decode cX12_ring 117 = .ok (.iaload, 1) := by decide +kernel
theorem dX12_ring_118 : decode cX12_ring 118 = .ok (.iload 5, 2) := by decide +kernel
theorem dX12_ring_120 : decode cX12_ring 120 = .ok (.isub, 1) := by decide +kernel
theorem dX12_ring_121 : decode cX12_ring 121 = .ok (.iastore, 1) := by decide +kernel
theorem dX12_ring_122 : decode cX12_ring 122 = .ok (.bipush 100, 2) := by decide +kernel
theorem dX12_ring_124 : decode cX12_ring 124 = .ok (.iload_n 2, 1) := by decide +kernel
theorem dX12_ring_125 : decode cX12_ring 125 = .ok (.imul, 1) := by decide +kernel
theorem dX12_ring_126 : decode cX12_ring 126 = .ok (.bipush 10, 2) := by decide +kernel
theorem dX12_ring_128 : decode cX12_ring 128 = .ok (.iload_n 3, 1) := by decide +kernel
theorem dX12_ring_129 : decode cX12_ring 129 = .ok (.imul, 1) := by decide +kernel
theorem dX12_ring_130 : decode cX12_ring 130 = .ok (.iadd, 1) := by decide +kernel
theorem dX12_ring_131 : decode cX12_ring 131 = .ok (.iload 4, 2) := by decide +kernel
theorem dX12_ring_133 : decode cX12_ring 133 = .ok (.iadd, 1) := by decide +kernel
theorem dX12_ring_134 : decode cX12_ring 134 = .ok (.ireturn, 1) := by decide +kernel
theorem dX12_ring_135 : decode cX12_ring 135 = .ok (.iinc 1 1, 3) := by decide +kernel
theorem dX12_ring_138 : decode cX12_ring 138 = .ok (.goto (-136), 3) := by decide +kernel
theorem dX12_ring_141 : decode cX12_ring 141 = .ok (.bipush (-3), 2) := by decide +kernel
theorem dX12_ring_143 : decode cX12_ring 143 = .ok (.ireturn, 1) := by decide +kernel
theorem dX12_findLengths_0 : decode cX12_findLengths 0 = .ok (.iconst 0, 1) := by decide +kernel
theorem dX12_findLengths_1 : decode cX12_findLengths 1 = .ok (.istore_n 1, 1) := by decide +kernel
theorem dX12_findLengths_2 : decode cX12_findLengths 2 = .ok (.iload_n 1, 1) := by decide +kernel
theorem dX12_findLengths_3 : decode cX12_findLengths 3 = .ok (.iconst 1, 1) := by decide +kernel
theorem dX12_findLengths_4 : decode cX12_findLengths 4 = .ok (.aload_n 0, 1) := by decide +kernel
theorem dX12_findLengths_5 : decode cX12_findLengths 5 = .ok (.getfield 105, 3) := by decide +kernel
theorem dX12_findLengths_8 : decode cX12_findLengths 8 = .ok (.ishl, 1) := by decide +kernel
theorem dX12_findLengths_9 : decode cX12_findLengths 9 = .ok (.if_icmp .ge 20, 3) := by decide +kernel
theorem dX12_findLengths_12 : decode cX12_findLengths 12 = .ok (.aload_n 0, 1) := by decide +kernel
theorem dX12_findLengths_13 : decode cX12_findLengths 13 = .ok (.getfield 53, 3) := by decide +kernel
theorem dX12_findLengths_16 : decode cX12_findLengths 16 = .ok (.iload_n 1, 1) := by decide +kernel
theorem dX12_findLengths_17 : decode cX12_findLengths 17 = .ok (.aload_n 0, 1) := by decide +kernel
theorem dX12_findLengths_18 : decode cX12_findLengths 18 = .ok (.iload_n 1, 1) := by decide +kernel
theorem dX12_findLengths_19 : decode cX12_findLengths 19 = .ok (.invokevirtual 240, 3) := by decide +kernel
theorem dX12_findLengths_22 : decode cX12_findLengths 22 = .ok (.iastore, 1) := by decide +kernel
theorem dX12_findLengths_23 : decode cX12_findLengths 23 = .ok (.iinc 1 1, 3) := by decide +kernel
theorem dX12_findLengths_26 : decode cX12_findLengths 26 = .ok (.goto (-24), 3) := by decide +kernel
theorem dX12_findLengths_29 : decode cX12_findLengths 29 = .ok (.return_, 1) := by decide +kernel
theorem dX12_costOf_0 : decode cX12_costOf 0 = .ok (.aload_n 0, 1) := by decide +kernel
theorem dX12_costOf_1 : decode cX12_costOf 1 = .ok (.getfield 53, 3) := by decide +kernel
theorem dX12_costOf_4 : decode cX12_costOf 4 = .ok (.iload_n 2, 1) := by decide +kernel
theorem dX12_costOf_5 : decode cX12_costOf 5 = .ok (.iaload, 1) := by decide +kernel
theorem dX12_costOf_6 : decode cX12_costOf 6 = .ok (.ifCond .le 27, 3) := by decide +kernel
theorem dX12_costOf_9 : decode cX12_costOf 9 = .ok (.aload_n 0, 1) := by decide +kernel
theorem dX12_costOf_10 : decode cX12_costOf 10 = .ok (.getfield 53, 3) := by decide +kernel
theorem dX12_costOf_13 : decode cX12_costOf 13 = .ok (.iload_n 2, 1) := by decide +kernel
theorem dX12_costOf_14 : decode cX12_costOf 14 = .ok (.iaload, 1) := by decide +kernel
theorem dX12_costOf_15 : decode cX12_costOf 15 = .ok (.aload_n 0, 1) := by decide +kernel
theorem dX12_costOf_16 : decode cX12_costOf 16 = .ok (.getfield 16, 3) := by decide +kernel
theorem dX12_costOf_19 : decode cX12_costOf 19 = .ok (.iload_n 1, 1) := by decide +kernel
theorem dX12_costOf_20 : decode cX12_costOf 20 = .ok (.iaload, 1) := by decide +kernel
theorem dX12_costOf_21 : decode cX12_costOf 21 = .ok (.if_icmp .gt 12, 3) := by decide +kernel
theorem dX12_costOf_24 : decode cX12_costOf 24 = .ok (.aload_n 0, 1) := by decide +kernel
theorem dX12_costOf_25 : decode cX12_costOf 25 = .ok (.getfield 53, 3) := by decide +kernel
theorem dX12_costOf_28 : decode cX12_costOf 28 = .ok (.iload_n 2, 1) := by decide +kernel
theorem dX12_costOf_29 : decode cX12_costOf 29 = .ok (.iaload, 1) := by decide +kernel
theorem dX12_costOf_30 : decode cX12_costOf 30 = .ok (.goto 4, 3) := by decide +kernel
theorem dX12_costOf_33 : decode cX12_costOf 33 = .ok (.iconst (-1), 1) := by decide +kernel
theorem dX12_costOf_34 : decode cX12_costOf 34 = .ok (.ireturn, 1) := by decide +kernel
theorem dX12_fewest_0 : decode cX12_fewest 0 = .ok (.ldc_w 260, 3) := by decide +kernel
theorem dX12_fewest_3 : decode cX12_fewest 3 = .ok (.istore_n 3, 1) := by decide +kernel
theorem dX12_fewest_4 : decode cX12_fewest 4 = .ok (.iconst 0, 1) := by decide +kernel
theorem dX12_fewest_5 : decode cX12_fewest 5 = .ok (.istore 4, 2) := by decide +kernel
theorem dX12_fewest_7 : decode cX12_fewest 7 = .ok (.iload 4, 2) := by decide +kernel
theorem dX12_fewest_9 : decode cX12_fewest 9 = .ok (.aload_n 0, 1) := by decide +kernel
theorem dX12_fewest_10 : decode cX12_fewest 10 = .ok (.getfield 105, 3) := by decide +kernel
theorem dX12_fewest_13 : decode cX12_fewest 13 = .ok (.if_icmp .ge 107, 3) := by decide +kernel
theorem dX12_fewest_16 : decode cX12_fewest 16 = .ok (.iload_n 1, 1) := by decide +kernel
theorem dX12_fewest_17 : decode cX12_fewest 17 = .ok (.iload 4, 2) := by decide +kernel
theorem dX12_fewest_19 : decode cX12_fewest 19 = .ok (.invokestatic 196, 3) := by decide +kernel
theorem dX12_fewest_22 : decode cX12_fewest 22 = .ok (.ifCond .eq 92, 3) := by decide +kernel
theorem dX12_fewest_25 : decode cX12_fewest 25 = .ok (.iload 4, 2) := by decide +kernel
theorem dX12_fewest_27 : decode cX12_fewest 27 = .ok (.iload_n 2, 1) := by decide +kernel
theorem dX12_fewest_28 : decode cX12_fewest 28 = .ok (.if_icmp .eq 86, 3) := by decide +kernel
theorem dX12_fewest_31 : decode cX12_fewest 31 = .ok (.iload_n 1, 1) := by decide +kernel
theorem dX12_fewest_32 : decode cX12_fewest 32 = .ok (.iconst 1, 1) := by decide +kernel
theorem dX12_fewest_33 : decode cX12_fewest 33 = .ok (.iload 4, 2) := by decide +kernel
theorem dX12_fewest_35 : decode cX12_fewest 35 = .ok (.ishl, 1) := by decide +kernel
theorem dX12_fewest_36 : decode cX12_fewest 36 = .ok (.iconst (-1), 1) := by decide +kernel
theorem dX12_fewest_37 : decode cX12_fewest 37 = .ok (.ixor, 1) := by decide +kernel
theorem dX12_fewest_38 : decode cX12_fewest 38 = .ok (.iand, 1) := by decide +kernel
theorem dX12_fewest_39 : decode cX12_fewest 39 = .ok (.istore 5, 2) := by decide +kernel
theorem dX12_fewest_41 : decode cX12_fewest 41 = .ok (.iload 5, 2) := by decide +kernel
theorem dX12_fewest_43 : decode cX12_fewest 43 = .ok (.istore 6, 2) := by decide +kernel
theorem dX12_fewest_45 : decode cX12_fewest 45 = .ok (.iload 6, 2) := by decide +kernel
theorem dX12_fewest_47 : decode cX12_fewest 47 = .ok (.ifCond .le 67, 3) := by decide +kernel
theorem dX12_fewest_50 : decode cX12_fewest 50 = .ok (.aload_n 0, 1) := by decide +kernel
theorem dX12_fewest_51 : decode cX12_fewest 51 = .ok (.iload 4, 2) := by decide +kernel
theorem dX12_fewest_53 : decode cX12_fewest 53 = .ok (.iload 6, 2) := by decide +kernel
theorem dX12_fewest_55 : decode cX12_fewest 55 = .ok (.invokevirtual 261, 3) := by decide +kernel
theorem dX12_fewest_58 : decode cX12_fewest 58 = .ok (.istore 7, 2) := by decide +kernel
theorem dX12_fewest_60 : decode cX12_fewest 60 = .ok (.iload 7, 2) := by decide +kernel
theorem dX12_fewest_62 : decode cX12_fewest 62 = .ok (.ifCond .le 38, 3) := by decide +kernel
theorem dX12_fewest_65 : decode cX12_fewest 65 = .ok (.iload 7, 2) := by decide +kernel
theorem dX12_fewest_67 : decode cX12_fewest 67 = .ok (.aload_n 0, 1) := by decide +kernel
theorem dX12_fewest_68 : decode cX12_fewest 68 = .ok (.getfield 56, 3) := by decide +kernel
theorem dX12_fewest_71 : decode cX12_fewest 71 = .ok (.iload_n 1, 1) := by decide +kernel
theorem dX12_fewest_72 : decode cX12_fewest 72 = .ok (.iload 6, 2) := by decide +kernel
theorem dX12_fewest_74 : decode cX12_fewest 74 = .ok (.iconst (-1), 1) := by decide +kernel
theorem dX12_fewest_75 : decode cX12_fewest 75 = .ok (.ixor, 1) := by decide +kernel
theorem dX12_fewest_76 : decode cX12_fewest 76 = .ok (.iand, 1) := by decide +kernel
theorem dX12_fewest_77 : decode cX12_fewest 77 = .ok (.iaload, 1) := by decide +kernel
theorem dX12_fewest_78 : decode cX12_fewest 78 = .ok (.iadd, 1) := by decide +kernel
theorem dX12_fewest_79 : decode cX12_fewest 79 = .ok (.iload_n 3, 1) := by decide +kernel
theorem dX12_fewest_80 : decode cX12_fewest 80 = .ok (.if_icmp .ge 20, 3) := by decide +kernel
theorem dX12_fewest_83 : decode cX12_fewest 83 = .ok (.iload 7, 2) := by decide +kernel
theorem dX12_fewest_85 : decode cX12_fewest 85 = .ok (.aload_n 0, 1) := by decide +kernel
theorem dX12_fewest_86 : decode cX12_fewest 86 = .ok (.getfield 56, 3) := by decide +kernel
theorem dX12_fewest_89 : decode cX12_fewest 89 = .ok (.iload_n 1, 1) := by decide +kernel
theorem dX12_fewest_90 : decode cX12_fewest 90 = .ok (.iload 6, 2) := by decide +kernel
theorem dX12_fewest_92 : decode cX12_fewest 92 = .ok (.iconst (-1), 1) := by decide +kernel
theorem dX12_fewest_93 : decode cX12_fewest 93 = .ok (.ixor, 1) := by decide +kernel
theorem dX12_fewest_94 : decode cX12_fewest 94 = .ok (.iand, 1) := by decide +kernel
theorem dX12_fewest_95 : decode cX12_fewest 95 = .ok (.iaload, 1) := by decide +kernel
theorem dX12_fewest_96 : decode cX12_fewest 96 = .ok (.iadd, 1) := by decide +kernel
theorem dX12_fewest_97 : decode cX12_fewest 97 = .ok (.goto 4, 3) := by decide +kernel
theorem dX12_fewest_100 : decode cX12_fewest 100 = .ok (.iload_n 3, 1) := by decide +kernel
theorem dX12_fewest_101 : decode cX12_fewest 101 = .ok (.istore_n 3, 1) := by decide +kernel
theorem dX12_fewest_102 : decode cX12_fewest 102 = .ok (.iload 6, 2) := by decide +kernel
theorem dX12_fewest_104 : decode cX12_fewest 104 = .ok (.iconst 1, 1) := by decide +kernel
theorem dX12_fewest_105 : decode cX12_fewest 105 = .ok (.isub, 1) := by decide +kernel
theorem dX12_fewest_106 : decode cX12_fewest 106 = .ok (.iload 5, 2) := by decide +kernel
theorem dX12_fewest_108 : decode cX12_fewest 108 = .ok (.iand, 1) := by decide +kernel
theorem dX12_fewest_109 : decode cX12_fewest 109 = .ok (.istore 6, 2) := by decide +kernel
theorem dX12_fewest_111 : decode cX12_fewest 111 = .ok (.goto (-66), 3) := by decide +kernel
theorem dX12_fewest_114 : decode cX12_fewest 114 = .ok (.iinc 4 1, 3) := by decide +kernel
theorem dX12_fewest_117 : decode cX12_fewest 117 = .ok (.goto (-110), 3) := by decide +kernel
theorem dX12_fewest_120 : decode cX12_fewest 120 = .ok (.iload_n 3, 1) := by decide +kernel
theorem dX12_fewest_121 : decode cX12_fewest 121 = .ok (.ireturn, 1) := by decide +kernel
theorem dX12_findLeast_0 : decode cX12_findLeast 0 = .ok (.aload_n 0, 1) := by decide +kernel
theorem dX12_findLeast_1 : decode cX12_findLeast 1 = .ok (.invokevirtual 264, 3) := by decide +kernel
theorem dX12_findLeast_4 : decode cX12_findLeast 4 = .ok (.iconst 0, 1) := by decide +kernel
theorem dX12_findLeast_5 : decode cX12_findLeast 5 = .ok (.istore_n 3, 1) := by decide +kernel
theorem dX12_findLeast_6 : decode cX12_findLeast 6 = .ok (.iload_n 3, 1) := by decide +kernel
theorem dX12_findLeast_7 : decode cX12_findLeast 7 = .ok (.iconst 1, 1) := by decide +kernel
theorem dX12_findLeast_8 : decode cX12_findLeast 8 = .ok (.aload_n 0, 1) := by decide +kernel
theorem dX12_findLeast_9 : decode cX12_findLeast 9 = .ok (.getfield 105, 3) := by decide +kernel
theorem dX12_findLeast_12 : decode cX12_findLeast 12 = .ok (.ishl, 1) := by decide +kernel
theorem dX12_findLeast_13 : decode cX12_findLeast 13 = .ok (.if_icmp .ge 62, 3) := by decide +kernel
theorem dX12_findLeast_16 : decode cX12_findLeast 16 = .ok (.iload_n 3, 1) := by decide +kernel
theorem dX12_findLeast_17 : decode cX12_findLeast 17 = .ok (.invokestatic 200, 3) := by decide +kernel
theorem dX12_findLeast_20 : decode cX12_findLeast 20 = .ok (.iconst 2, 1) := by decide +kernel
theorem dX12_findLeast_21 : decode cX12_findLeast 21 = .ok (.if_icmp .ge 7, 3) := by decide +kernel
theorem dX12_findLeast_24 : decode cX12_findLeast 24 = .ok (.iconst 1, 1) := by decide +kernel
theorem dX12_findLeast_25 : decode cX12_findLeast 25 = .ok (.goto 4, 3) := by decide +kernel
theorem dX12_findLeast_28 : decode cX12_findLeast 28 = .ok (.iconst 0, 1) := by decide +kernel
theorem dX12_findLeast_29 : decode cX12_findLeast 29 = .ok (.istore 4, 2) := by decide +kernel
theorem dX12_findLeast_31 : decode cX12_findLeast 31 = .ok (.aload_n 0, 1) := by decide +kernel
theorem dX12_findLeast_32 : decode cX12_findLeast 32 = .ok (.getfield 56, 3) := by decide +kernel
theorem dX12_findLeast_35 : decode cX12_findLeast 35 = .ok (.iload_n 3, 1) := by decide +kernel
theorem dX12_findLeast_36 : decode cX12_findLeast 36 = .ok (.iload 4, 2) := by decide +kernel
theorem dX12_findLeast_38 : decode cX12_findLeast 38 = .ok (.ifCond .eq 24, 3) := by decide +kernel
theorem dX12_findLeast_41 : decode cX12_findLeast 41 = .ok (.iload_n 2, 1) := by decide +kernel
theorem dX12_findLeast_42 : decode cX12_findLeast 42 = .ok (.ifCond .lt 10, 3) := by decide +kernel
theorem dX12_findLeast_45 : decode cX12_findLeast 45 = .ok (.iload_n 3, 1) := by decide +kernel
theorem dX12_findLeast_46 : decode cX12_findLeast 46 = .ok (.iconst 1, 1) := by decide +kernel
theorem dX12_findLeast_47 : decode cX12_findLeast 47 = .ok (.iload_n 2, 1) := by decide +kernel
theorem dX12_findLeast_48 : decode cX12_findLeast 48 = .ok (.ishl, 1) := by decide +kernel
theorem dX12_findLeast_49 : decode cX12_findLeast 49 = .ok (.if_icmp .ne 7, 3) := by decide +kernel
theorem dX12_findLeast_52 : decode cX12_findLeast 52 = .ok (.iconst 0, 1) := by decide +kernel
theorem dX12_findLeast_53 : decode cX12_findLeast 53 = .ok (.goto 15, 3) := by decide +kernel
theorem dX12_findLeast_56 : decode cX12_findLeast 56 = .ok (.ldc_w 260, 3) := by decide +kernel
theorem dX12_findLeast_59 : decode cX12_findLeast 59 = .ok (.goto 9, 3) := by decide +kernel
theorem dX12_findLeast_62 : decode cX12_findLeast 62 = .ok (.aload_n 0, 1) := by decide +kernel
theorem dX12_findLeast_63 : decode cX12_findLeast 63 = .ok (.iload_n 3, 1) := by decide +kernel
theorem dX12_findLeast_64 : decode cX12_findLeast 64 = .ok (.iload_n 1, 1) := by decide +kernel
theorem dX12_findLeast_65 : decode cX12_findLeast 65 = .ok (.invokevirtual 267, 3) := by decide +kernel
theorem dX12_findLeast_68 : decode cX12_findLeast 68 = .ok (.iastore, 1) := by decide +kernel
theorem dX12_findLeast_69 : decode cX12_findLeast 69 = .ok (.iinc 3 1, 3) := by decide +kernel
theorem dX12_findLeast_72 : decode cX12_findLeast 72 = .ok (.goto (-66), 3) := by decide +kernel
theorem dX12_findLeast_75 : decode cX12_findLeast 75 = .ok (.return_, 1) := by decide +kernel
theorem dX12_told_0 : decode cX12_told 0 = .ok (.iload_n 0, 1) := by decide +kernel
theorem dX12_told_1 : decode cX12_told 1 = .ok (.ldc_w 260, 3) := by decide +kernel
theorem dX12_told_4 : decode cX12_told 4 = .ok (.if_icmp .lt 8, 3) := by decide +kernel
theorem dX12_told_7 : decode cX12_told 7 = .ok (.bipush (-3), 2) := by decide +kernel
theorem dX12_told_9 : decode cX12_told 9 = .ok (.goto 4, 3) := by decide +kernel
theorem dX12_told_12 : decode cX12_told 12 = .ok (.iload_n 0, 1) := by decide +kernel
theorem dX12_told_13 : decode cX12_told 13 = .ok (.ireturn, 1) := by decide +kernel
theorem dX12_least_0 : decode cX12_least 0 = .ok (.aload_n 0, 1) := by decide +kernel
theorem dX12_least_1 : decode cX12_least 1 = .ok (.iconst (-1), 1) := by decide +kernel
theorem dX12_least_2 : decode cX12_least 2 = .ok (.iconst (-1), 1) := by decide +kernel
theorem dX12_least_3 : decode cX12_least 3 = .ok (.invokevirtual 270, 3) := by decide +kernel
theorem dX12_least_6 : decode cX12_least 6 = .ok (.aload_n 0, 1) := by decide +kernel
theorem dX12_least_7 : decode cX12_least 7 = .ok (.getfield 56, 3) := by decide +kernel
theorem dX12_least_10 : decode cX12_least 10 = .ok (.aload_n 0, 1) := by decide +kernel
theorem dX12_least_11 : decode cX12_least 11 = .ok (.getfield 224, 3) := by decide +kernel
theorem dX12_least_14 : decode cX12_least 14 = .ok (.iaload, 1) := by decide +kernel
theorem dX12_least_15 : decode cX12_least 15 = .ok (.invokestatic 274, 3) := by decide +kernel
theorem dX12_least_18 : decode cX12_least 18 = .ok (.ireturn, 1) := by decide +kernel
theorem dX12_with_0 : decode cX12_with 0 = .ok (.aload_n 0, 1) := by decide +kernel
theorem dX12_with_1 : decode cX12_with 1 = .ok (.iload_n 1, 1) := by decide +kernel
theorem dX12_with_2 : decode cX12_with 2 = .ok (.invokevirtual 233, 3) := by decide +kernel
theorem dX12_with_5 : decode cX12_with 5 = .ok (.ifCond .ne 5, 3) := by decide +kernel
theorem dX12_with_8 : decode cX12_with 8 = .ok (.iconst (-1), 1) := by decide +kernel
theorem dX12_with_9 : decode cX12_with 9 = .ok (.ireturn, 1) := by decide +kernel
theorem dX12_with_10 : decode cX12_with 10 = .ok (.aload_n 0, 1) := by decide +kernel
theorem dX12_with_11 : decode cX12_with 11 = .ok (.iconst (-1), 1) := by decide +kernel
theorem dX12_with_12 : decode cX12_with 12 = .ok (.iload_n 1, 1) := by decide +kernel
theorem dX12_with_13 : decode cX12_with 13 = .ok (.invokevirtual 270, 3) := by decide +kernel
theorem dX12_with_16 : decode cX12_with 16 = .ok (.aload_n 0, 1) := by decide +kernel
theorem dX12_with_17 : decode cX12_with 17 = .ok (.getfield 56, 3) := by decide +kernel
theorem dX12_with_20 : decode cX12_with 20 = .ok (.aload_n 0, 1) := by decide +kernel
theorem dX12_with_21 : decode cX12_with 21 = .ok (.getfield 224, 3) := by decide +kernel
theorem dX12_with_24 : decode cX12_with 24 = .ok (.iaload, 1) := by decide +kernel
theorem dX12_with_25 : decode cX12_with 25 = .ok (.invokestatic 274, 3) := by decide +kernel
theorem dX12_with_28 : decode cX12_with 28 = .ok (.ireturn, 1) := by decide +kernel
theorem dX12_silent_0 : decode cX12_silent 0 = .ok (.aload_n 0, 1) := by decide +kernel
theorem dX12_silent_1 : decode cX12_silent 1 = .ok (.iload_n 1, 1) := by decide +kernel
theorem dX12_silent_2 : decode cX12_silent 2 = .ok (.invokevirtual 233, 3) := by decide +kernel
theorem dX12_silent_5 : decode cX12_silent 5 = .ok (.ifCond .ne 5, 3) := by decide +kernel
theorem dX12_silent_8 : decode cX12_silent 8 = .ok (.iconst (-1), 1) := by decide +kernel
theorem dX12_silent_9 : decode cX12_silent 9 = .ok (.ireturn, 1) := by decide +kernel
theorem dX12_silent_10 : decode cX12_silent 10 = .ok (.aload_n 0, 1) := by decide +kernel
theorem dX12_silent_11 : decode cX12_silent 11 = .ok (.iload_n 1, 1) := by decide +kernel
theorem dX12_silent_12 : decode cX12_silent 12 = .ok (.iconst (-1), 1) := by decide +kernel
theorem dX12_silent_13 : decode cX12_silent 13 = .ok (.invokevirtual 270, 3) := by decide +kernel
theorem dX12_silent_16 : decode cX12_silent 16 = .ok (.aload_n 0, 1) := by decide +kernel
theorem dX12_silent_17 : decode cX12_silent 17 = .ok (.getfield 56, 3) := by decide +kernel
theorem dX12_silent_20 : decode cX12_silent 20 = .ok (.aload_n 0, 1) := by decide +kernel
theorem dX12_silent_21 : decode cX12_silent 21 = .ok (.getfield 224, 3) := by decide +kernel
theorem dX12_silent_24 : decode cX12_silent 24 = .ok (.iaload, 1) := by decide +kernel
theorem dX12_silent_25 : decode cX12_silent 25 = .ok (.invokestatic 274, 3) := by decide +kernel
theorem dX12_silent_28 : decode cX12_silent 28 = .ok (.ireturn, 1) := by decide +kernel
theorem dX12_isBest_0 : decode cX12_isBest 0 = .ok (.aload_n 0, 1) := by decide +kernel
theorem dX12_isBest_1 : decode cX12_isBest 1 = .ok (.iload_n 2, 1) := by decide +kernel
theorem dX12_isBest_2 : decode cX12_isBest 2 = .ok (.iload_n 3, 1) := by decide +kernel
theorem dX12_isBest_3 : decode cX12_isBest 3 = .ok (.invokevirtual 261, 3) := by decide +kernel
theorem dX12_isBest_6 : decode cX12_isBest 6 = .ok (.istore 4, 2) := by decide +kernel
theorem dX12_isBest_8 : decode cX12_isBest 8 = .ok (.iload 4, 2) := by decide +kernel
theorem dX12_isBest_10 : decode cX12_isBest 10 = .ok (.ifCond .le 41, 3) := by decide +kernel
theorem dX12_isBest_13 : decode cX12_isBest 13 = .ok (.iload 4, 2) := by decide +kernel
theorem dX12_isBest_15 : decode cX12_isBest 15 = .ok (.aload_n 0, 1) := by decide +kernel
theorem dX12_isBest_16 : decode cX12_isBest 16 = .ok (.getfield 56, 3) := by decide +kernel
theorem dX12_isBest_19 : decode cX12_isBest 19 = .ok (.iload_n 1, 1) := by decide +kernel
theorem dX12_isBest_20 : decode cX12_isBest 20 = .ok (.iload_n 3, 1) := by decide +kernel
theorem dX12_isBest_21 : decode cX12_isBest 21 = .ok (.iconst (-1), 1) := by decide +kernel
theorem dX12_isBest_22 : decode cX12_isBest 22 = .ok (.ixor, 1) := by decide +kernel
theorem dX12_isBest_23 : decode cX12_isBest 23 = .ok (.iand, 1) := by decide +kernel
theorem dX12_isBest_24 : decode cX12_isBest 24 = .ok (.iaload, 1) := by decide +kernel
theorem dX12_isBest_25 : decode cX12_isBest 25 = .ok (.iadd, 1) := by decide +kernel
theorem dX12_isBest_26 : decode cX12_isBest 26 = .ok (.aload_n 0, 1) := by decide +kernel
theorem dX12_isBest_27 : decode cX12_isBest 27 = .ok (.getfield 56, 3) := by decide +kernel
theorem dX12_isBest_30 : decode cX12_isBest 30 = .ok (.iload_n 1, 1) := by decide +kernel
theorem dX12_isBest_31 : decode cX12_isBest 31 = .ok (.iaload, 1) := by decide +kernel
theorem dX12_isBest_32 : decode cX12_isBest 32 = .ok (.if_icmp .ne 19, 3) := by decide +kernel
theorem dX12_isBest_35 : decode cX12_isBest 35 = .ok (.aload_n 0, 1) := by decide +kernel
theorem dX12_isBest_36 : decode cX12_isBest 36 = .ok (.getfield 56, 3) := by decide +kernel
theorem dX12_isBest_39 : decode cX12_isBest 39 = .ok (.iload_n 1, 1) := by decide +kernel
theorem dX12_isBest_40 : decode cX12_isBest 40 = .ok (.iaload, 1) := by decide +kernel
theorem dX12_isBest_41 : decode cX12_isBest 41 = .ok (.ldc_w 260, 3) := by decide +kernel
theorem dX12_isBest_44 : decode cX12_isBest 44 = .ok (.if_icmp .ge 7, 3) := by decide +kernel
theorem dX12_isBest_47 : decode cX12_isBest 47 = .ok (.iconst 1, 1) := by decide +kernel
theorem dX12_isBest_48 : decode cX12_isBest 48 = .ok (.goto 4, 3) := by decide +kernel
theorem dX12_isBest_51 : decode cX12_isBest 51 = .ok (.iconst 0, 1) := by decide +kernel
theorem dX12_isBest_52 : decode cX12_isBest 52 = .ok (.ireturn, 1) := by decide +kernel
theorem dX12_findMore_0 : decode cX12_findMore 0 = .ok (.aload_n 0, 1) := by decide +kernel
theorem dX12_findMore_1 : decode cX12_findMore 1 = .ok (.getfield 59, 3) := by decide +kernel
theorem dX12_findMore_4 : decode cX12_findMore 4 = .ok (.iload_n 1, 1) := by decide +kernel
theorem dX12_findMore_5 : decode cX12_findMore 5 = .ok (.ldc_w 260, 3) := by decide +kernel
theorem dX12_findMore_8 : decode cX12_findMore 8 = .ok (.iastore, 1) := by decide +kernel
theorem dX12_findMore_9 : decode cX12_findMore 9 = .ok (.aload_n 0, 1) := by decide +kernel
theorem dX12_findMore_10 : decode cX12_findMore 10 = .ok (.getfield 62, 3) := by decide +kernel
theorem dX12_findMore_13 : decode cX12_findMore 13 = .ok (.iload_n 1, 1) := by decide +kernel
theorem dX12_findMore_14 : decode cX12_findMore 14 = .ok (.iconst 0, 1) := by decide +kernel
theorem dX12_findMore_15 : decode cX12_findMore 15 = .ok (.iastore, 1) := by decide +kernel
theorem dX12_findMore_16 : decode cX12_findMore 16 = .ok (.aload_n 0, 1) := by decide +kernel
theorem dX12_findMore_17 : decode cX12_findMore 17 = .ok (.getfield 65, 3) := by decide +kernel
theorem dX12_findMore_20 : decode cX12_findMore 20 = .ok (.iload_n 1, 1) := by decide +kernel
theorem dX12_findMore_21 : decode cX12_findMore 21 = .ok (.iconst 0, 1) := by decide +kernel
theorem dX12_findMore_22 : decode cX12_findMore 22 = .ok (.iastore, 1) := by decide +kernel
theorem dX12_findMore_23 : decode cX12_findMore 23 = .ok (.iconst 0, 1) := by decide +kernel
theorem dX12_findMore_24 : decode cX12_findMore 24 = .ok (.istore_n 2, 1) := by decide +kernel
theorem dX12_findMore_25 : decode cX12_findMore 25 = .ok (.iload_n 2, 1) := by decide +kernel
theorem dX12_findMore_26 : decode cX12_findMore 26 = .ok (.aload_n 0, 1) := by decide +kernel
theorem dX12_findMore_27 : decode cX12_findMore 27 = .ok (.getfield 105, 3) := by decide +kernel
theorem dX12_findMore_30 : decode cX12_findMore 30 = .ok (.if_icmp .ge 171, 3) := by decide +kernel
theorem dX12_findMore_33 : decode cX12_findMore 33 = .ok (.iload_n 1, 1) := by decide +kernel
theorem dX12_findMore_34 : decode cX12_findMore 34 = .ok (.iload_n 2, 1) := by decide +kernel
theorem dX12_findMore_35 : decode cX12_findMore 35 = .ok (.invokestatic 196, 3) := by decide +kernel
theorem dX12_findMore_38 : decode cX12_findMore 38 = .ok (.ifCond .eq 13, 3) := by decide +kernel
theorem dX12_findMore_41 : decode cX12_findMore 41 = .ok (.iload_n 1, 1) := by decide +kernel
theorem dX12_findMore_42 : decode cX12_findMore 42 = .ok (.iconst 1, 1) := by decide +kernel
theorem dX12_findMore_43 : decode cX12_findMore 43 = .ok (.iload_n 2, 1) := by decide +kernel
theorem dX12_findMore_44 : decode cX12_findMore 44 = .ok (.ishl, 1) := by decide +kernel
theorem dX12_findMore_45 : decode cX12_findMore 45 = .ok (.iconst (-1), 1) := by decide +kernel
theorem dX12_findMore_46 : decode cX12_findMore 46 = .ok (.ixor, 1) := by decide +kernel
theorem dX12_findMore_47 : decode cX12_findMore 47 = .ok (.iand, 1) := by decide +kernel
theorem dX12_findMore_48 : decode cX12_findMore 48 = .ok (.goto 4, 3) := by decide +kernel
theorem dX12_findMore_51 : decode cX12_findMore 51 = .ok (.iconst 0, 1) := by decide +kernel
theorem dX12_findMore_52 : decode cX12_findMore 52 = .ok (.istore_n 3, 1) := by decide +kernel
theorem dX12_findMore_53 : decode cX12_findMore 53 = .ok (.iload_n 3, 1) := by decide +kernel
theorem dX12_findMore_54 : decode cX12_findMore 54 = .ok (.istore 4, 2) := by decide +kernel
theorem dX12_findMore_56 : decode cX12_findMore 56 = .ok (.iload 4, 2) := by decide +kernel
theorem dX12_findMore_58 : decode cX12_findMore 58 = .ok (.ifCond .le 137, 3) := by decide +kernel
theorem dX12_findMore_61 : decode cX12_findMore 61 = .ok (.aload_n 0, 1) := by decide +kernel
theorem dX12_findMore_62 : decode cX12_findMore 62 = .ok (.iload_n 1, 1) := by decide +kernel
theorem dX12_findMore_63 : decode cX12_findMore 63 = .ok (.iload_n 2, 1) := by decide +kernel
theorem dX12_findMore_64 : decode cX12_findMore 64 = .ok (.iload 4, 2) := by decide +kernel
theorem dX12_findMore_66 : decode cX12_findMore 66 = .ok (.invokevirtual 277, 3) := by decide +kernel
theorem dX12_findMore_69 : decode cX12_findMore 69 = .ok (.ifCond .eq 115, 3) := by decide +kernel
theorem dX12_findMore_72 : decode cX12_findMore 72 = .ok (.iload_n 1, 1) := by decide +kernel
theorem dX12_findMore_73 : decode cX12_findMore 73 = .ok (.iload 4, 2) := by decide +kernel
theorem dX12_findMore_75 : decode cX12_findMore 75 = .ok (.iconst (-1), 1) := by decide +kernel
theorem dX12_findMore_76 : decode cX12_findMore 76 = .ok (.ixor, 1) := by decide +kernel
theorem dX12_findMore_77 : decode cX12_findMore 77 = .ok (.iand, 1) := by decide +kernel
theorem dX12_findMore_78 : decode cX12_findMore 78 = .ok (.istore 5, 2) := by decide +kernel
theorem dX12_findMore_80 : decode cX12_findMore 80 = .ok (.aload_n 0, 1) := by decide +kernel
theorem dX12_findMore_81 : decode cX12_findMore 81 = .ok (.getfield 59, 3) := by decide +kernel
theorem dX12_findMore_84 : decode cX12_findMore 84 = .ok (.iload_n 1, 1) := by decide +kernel
theorem dX12_findMore_85 : decode cX12_findMore 85 = .ok (.iconst 1, 1) := by decide +kernel
theorem dX12_findMore_86 : decode cX12_findMore 86 = .ok (.aload_n 0, 1) := by decide +kernel
theorem dX12_findMore_87 : decode cX12_findMore 87 = .ok (.getfield 59, 3) := by decide +kernel
theorem dX12_findMore_90 : decode cX12_findMore 90 = .ok (.iload 5, 2) := by decide +kernel
theorem dX12_findMore_92 : decode cX12_findMore 92 = .ok (.iaload, 1) := by decide +kernel
theorem dX12_findMore_93 : decode cX12_findMore 93 = .ok (.iadd, 1) := by decide +kernel
theorem dX12_findMore_94 : decode cX12_findMore 94 = .ok (.aload_n 0, 1) := by decide +kernel
theorem dX12_findMore_95 : decode cX12_findMore 95 = .ok (.getfield 59, 3) := by decide +kernel
theorem dX12_findMore_98 : decode cX12_findMore 98 = .ok (.iload_n 1, 1) := by decide +kernel
theorem dX12_findMore_99 : decode cX12_findMore 99 = .ok (.iaload, 1) := by decide +kernel
theorem dX12_findMore_100 : decode cX12_findMore 100 = .ok (.if_icmp .ge 15, 3) := by decide +kernel
theorem dX12_findMore_103 : decode cX12_findMore 103 = .ok (.iconst 1, 1) := by decide +kernel
theorem dX12_findMore_104 : decode cX12_findMore 104 = .ok (.aload_n 0, 1) := by decide +kernel
theorem dX12_findMore_105 : decode cX12_findMore 105 = .ok (.getfield 59, 3) := by decide +kernel
theorem dX12_findMore_108 : decode cX12_findMore 108 = .ok (.iload 5, 2) := by decide +kernel
theorem dX12_findMore_110 : decode cX12_findMore 110 = .ok (.iaload, 1) := by decide +kernel
theorem dX12_findMore_111 : decode cX12_findMore 111 = .ok (.iadd, 1) := by decide +kernel
theorem dX12_findMore_112 : decode cX12_findMore 112 = .ok (.goto 9, 3) := by decide +kernel
theorem dX12_findMore_115 : decode cX12_findMore 115 = .ok (.aload_n 0, 1) := by decide +kernel
theorem dX12_findMore_116 : decode cX12_findMore 116 = .ok (.getfield 59, 3) := by decide +kernel
theorem dX12_findMore_119 : decode cX12_findMore 119 = .ok (.iload_n 1, 1) := by decide +kernel
theorem dX12_findMore_120 : decode cX12_findMore 120 = .ok (.iaload, 1) := by decide +kernel
theorem dX12_findMore_121 : decode cX12_findMore 121 = .ok (.iastore, 1) := by decide +kernel
theorem dX12_findMore_122 : decode cX12_findMore 122 = .ok (.aload_n 0, 1) := by decide +kernel
theorem dX12_findMore_123 : decode cX12_findMore 123 = .ok (.getfield 62, 3) := by decide +kernel
theorem dX12_findMore_126 : decode cX12_findMore 126 = .ok (.iload_n 1, 1) := by decide +kernel
theorem dX12_findMore_127 : decode cX12_findMore 127 = .ok (.dup2, 1) := by decide +kernel
theorem dX12_findMore_128 : decode cX12_findMore 128 = .ok (.iaload, 1) := by decide +kernel
theorem dX12_findMore_129 : decode cX12_findMore 129 = .ok (.aload_n 0, 1) := by decide +kernel
theorem dX12_findMore_130 : decode cX12_findMore 130 = .ok (.getfield 62, 3) := by decide +kernel
theorem dX12_findMore_133 : decode cX12_findMore 133 = .ok (.iload 5, 2) := by decide +kernel
theorem dX12_findMore_135 : decode cX12_findMore 135 = .ok (.iaload, 1) := by decide +kernel
theorem dX12_findMore_136 : decode cX12_findMore 136 = .ok (.ior, 1) := by decide +kernel
theorem dX12_findMore_137 : decode cX12_findMore 137 = .ok (.iastore, 1) := by decide +kernel
theorem dX12_findMore_138 : decode cX12_findMore 138 = .ok (.aload_n 0, 1) := by decide +kernel
theorem dX12_findMore_139 : decode cX12_findMore 139 = .ok (.getfield 65, 3) := by decide +kernel
theorem dX12_findMore_142 : decode cX12_findMore 142 = .ok (.iload_n 1, 1) := by decide +kernel
theorem dX12_findMore_143 : decode cX12_findMore 143 = .ok (.aload_n 0, 1) := by decide +kernel
theorem dX12_findMore_144 : decode cX12_findMore 144 = .ok (.getfield 65, 3) := by decide +kernel
theorem dX12_findMore_147 : decode cX12_findMore 147 = .ok (.iload_n 1, 1) := by decide +kernel
theorem dX12_findMore_148 : decode cX12_findMore 148 = .ok (.iaload, 1) := by decide +kernel
theorem dX12_findMore_149 : decode cX12_findMore 149 = .ok (.aload_n 0, 1) := by decide +kernel
theorem dX12_findMore_150 : decode cX12_findMore 150 = .ok (.getfield 65, 3) := by decide +kernel
theorem dX12_findMore_153 : decode cX12_findMore 153 = .ok (.iload 5, 2) := by decide +kernel
theorem dX12_findMore_155 : decode cX12_findMore 155 = .ok (.iaload, 1) := by decide +kernel
theorem dX12_findMore_156 : decode cX12_findMore 156 = .ok (.iadd, 1) := by decide +kernel
theorem dX12_findMore_157 : decode cX12_findMore 157 = .ok (.ldc_w 260, 3) := by decide +kernel
theorem dX12_findMore_160 : decode cX12_findMore 160 = .ok (.if_icmp .le 9, 3) := by decide +kernel
theorem dX12_findMore_163 : decode cX12_findMore 163 = .ok (.ldc_w 260, 3) := by decide +kernel
theorem dX12_findMore_166 : decode cX12_findMore 166 = .ok (.goto 17, 3) := by decide +kernel
theorem dX12_findMore_169 : decode cX12_findMore 169 = .ok (.aload_n 0, 1) := by decide +kernel
theorem dX12_findMore_170 : decode cX12_findMore 170 = .ok (.getfield 65, 3) := by decide +kernel
theorem dX12_findMore_173 : decode cX12_findMore 173 = .ok (.iload_n 1, 1) := by decide +kernel
theorem dX12_findMore_174 : decode cX12_findMore 174 = .ok (.iaload, 1) := by decide +kernel
theorem dX12_findMore_175 : decode cX12_findMore 175 = .ok (.aload_n 0, 1) := by decide +kernel
theorem dX12_findMore_176 : decode cX12_findMore 176 = .ok (.getfield 65, 3) := by decide +kernel
theorem dX12_findMore_179 : decode cX12_findMore 179 = .ok (.iload 5, 2) := by decide +kernel
theorem dX12_findMore_181 : decode cX12_findMore 181 = .ok (.iaload, 1) := by decide +kernel
theorem dX12_findMore_182 : decode cX12_findMore 182 = .ok (.iadd, 1) := by decide +kernel
theorem dX12_findMore_183 : decode cX12_findMore 183 = .ok (.iastore, 1) := by decide +kernel
theorem dX12_findMore_184 : decode cX12_findMore 184 = .ok (.iload 4, 2) := by decide +kernel
theorem dX12_findMore_186 : decode cX12_findMore 186 = .ok (.iconst 1, 1) := by decide +kernel
theorem dX12_findMore_187 : decode cX12_findMore 187 = .ok (.isub, 1) := by decide +kernel
theorem dX12_findMore_188 : decode cX12_findMore 188 = .ok (.iload_n 3, 1) := by decide +kernel
theorem dX12_findMore_189 : decode cX12_findMore 189 = .ok (.iand, 1) := by decide +kernel
theorem dX12_findMore_190 : decode cX12_findMore 190 = .ok (.istore 4, 2) := by decide +kernel
theorem dX12_findMore_192 : decode cX12_findMore 192 = .ok (.goto (-136), 3) := by decide +kernel
theorem dX12_findMore_195 : decode cX12_findMore 195 = .ok (.iinc 2 1, 3) := by decide +kernel
theorem dX12_findMore_198 : decode cX12_findMore 198 = .ok (.goto (-173), 3) := by decide +kernel
theorem dX12_findMore_201 : decode cX12_findMore 201 = .ok (.return_, 1) := by decide +kernel
theorem dX12_findAll_0 : decode cX12_findAll 0 = .ok (.aload_n 0, 1) := by decide +kernel
theorem dX12_findAll_1 : decode cX12_findAll 1 = .ok (.iconst (-1), 1) := by decide +kernel
theorem dX12_findAll_2 : decode cX12_findAll 2 = .ok (.iconst (-1), 1) := by decide +kernel
theorem dX12_findAll_3 : decode cX12_findAll 3 = .ok (.invokevirtual 270, 3) := by decide +kernel
theorem dX12_findAll_6 : decode cX12_findAll 6 = .ok (.iconst 0, 1) := by decide +kernel
theorem dX12_findAll_7 : decode cX12_findAll 7 = .ok (.istore_n 1, 1) := by decide +kernel
theorem dX12_findAll_8 : decode cX12_findAll 8 = .ok (.iload_n 1, 1) := by decide +kernel
theorem dX12_findAll_9 : decode cX12_findAll 9 = .ok (.iconst 1, 1) := by decide +kernel
theorem dX12_findAll_10 : decode cX12_findAll 10 = .ok (.aload_n 0, 1) := by decide +kernel
theorem dX12_findAll_11 : decode cX12_findAll 11 = .ok (.getfield 105, 3) := by decide +kernel
theorem dX12_findAll_14 : decode cX12_findAll 14 = .ok (.ishl, 1) := by decide +kernel
theorem dX12_findAll_15 : decode cX12_findAll 15 = .ok (.if_icmp .ge 46, 3) := by decide +kernel
theorem dX12_findAll_18 : decode cX12_findAll 18 = .ok (.iload_n 1, 1) := by decide +kernel
theorem dX12_findAll_19 : decode cX12_findAll 19 = .ok (.invokestatic 200, 3) := by decide +kernel
theorem dX12_findAll_22 : decode cX12_findAll 22 = .ok (.iconst 2, 1) := by decide +kernel
theorem dX12_findAll_23 : decode cX12_findAll 23 = .ok (.if_icmp .ge 27, 3) := by decide +kernel
theorem dX12_findAll_26 : decode cX12_findAll 26 = .ok (.aload_n 0, 1) := by decide +kernel
theorem dX12_findAll_27 : decode cX12_findAll 27 = .ok (.getfield 59, 3) := by decide +kernel
theorem dX12_findAll_30 : decode cX12_findAll 30 = .ok (.iload_n 1, 1) := by decide +kernel
theorem dX12_findAll_31 : decode cX12_findAll 31 = .ok (.iconst 0, 1) := by decide +kernel
theorem dX12_findAll_32 : decode cX12_findAll 32 = .ok (.iastore, 1) := by decide +kernel
theorem dX12_findAll_33 : decode cX12_findAll 33 = .ok (.aload_n 0, 1) := by decide +kernel
theorem dX12_findAll_34 : decode cX12_findAll 34 = .ok (.getfield 62, 3) := by decide +kernel
theorem dX12_findAll_37 : decode cX12_findAll 37 = .ok (.iload_n 1, 1) := by decide +kernel
theorem dX12_findAll_38 : decode cX12_findAll 38 = .ok (.iload_n 1, 1) := by decide +kernel
theorem dX12_findAll_39 : decode cX12_findAll 39 = .ok (.iastore, 1) := by decide +kernel
theorem dX12_findAll_40 : decode cX12_findAll 40 = .ok (.aload_n 0, 1) := by decide +kernel
theorem dX12_findAll_41 : decode cX12_findAll 41 = .ok (.getfield 65, 3) := by decide +kernel
theorem dX12_findAll_44 : decode cX12_findAll 44 = .ok (.iload_n 1, 1) := by decide +kernel
theorem dX12_findAll_45 : decode cX12_findAll 45 = .ok (.iconst 1, 1) := by decide +kernel
theorem dX12_findAll_46 : decode cX12_findAll 46 = .ok (.iastore, 1) := by decide +kernel
theorem dX12_findAll_47 : decode cX12_findAll 47 = .ok (.goto 8, 3) := by decide +kernel
theorem dX12_findAll_50 : decode cX12_findAll 50 = .ok (.aload_n 0, 1) := by decide +kernel
theorem dX12_findAll_51 : decode cX12_findAll 51 = .ok (.iload_n 1, 1) := by decide +kernel
theorem dX12_findAll_52 : decode cX12_findAll 52 = .ok (.invokevirtual 280, 3) := by decide +kernel
theorem dX12_findAll_55 : decode cX12_findAll 55 = .ok (.iinc 1 1, 3) := by decide +kernel
theorem dX12_findAll_58 : decode cX12_findAll 58 = .ok (.goto (-50), 3) := by decide +kernel
theorem dX12_findAll_61 : decode cX12_findAll 61 = .ok (.return_, 1) := by decide +kernel
theorem dX12_isFirst_0 : decode cX12_isFirst 0 = .ok (.aload_n 0, 1) := by decide +kernel
theorem dX12_isFirst_1 : decode cX12_isFirst 1 = .ok (.iload_n 1, 1) := by decide +kernel
theorem dX12_isFirst_2 : decode cX12_isFirst 2 = .ok (.iload_n 2, 1) := by decide +kernel
theorem dX12_isFirst_3 : decode cX12_isFirst 3 = .ok (.iload_n 3, 1) := by decide +kernel
theorem dX12_isFirst_4 : decode cX12_isFirst 4 = .ok (.invokevirtual 277, 3) := by decide +kernel
theorem dX12_isFirst_7 : decode cX12_isFirst 7 = .ok (.ifCond .eq 28, 3) := by decide +kernel
theorem dX12_isFirst_10 : decode cX12_isFirst 10 = .ok (.iconst 1, 1) := by decide +kernel
theorem dX12_isFirst_11 : decode cX12_isFirst 11 = .ok (.aload_n 0, 1) := by decide +kernel
theorem dX12_isFirst_12 : decode cX12_isFirst 12 = .ok (.getfield 59, 3) := by decide +kernel
theorem dX12_isFirst_15 : decode cX12_isFirst 15 = .ok (.iload_n 1, 1) := by decide +kernel
theorem dX12_isFirst_16 : decode cX12_isFirst 16 = .ok (.iload_n 3, 1) := by decide +kernel
theorem dX12_isFirst_17 : decode cX12_isFirst 17 = .ok (.iconst (-1), 1) := by decide +kernel
theorem dX12_isFirst_18 : decode cX12_isFirst 18 = .ok (.ixor, 1) := by decide +kernel
theorem dX12_isFirst_19 : decode cX12_isFirst 19 = .ok (.iand, 1) := by decide +kernel
theorem dX12_isFirst_20 : decode cX12_isFirst 20 = .ok (.iaload, 1) := by decide +kernel
theorem dX12_isFirst_21 : decode cX12_isFirst 21 = .ok (.iadd, 1) := by decide +kernel
theorem dX12_isFirst_22 : decode cX12_isFirst 22 = .ok (.aload_n 0, 1) := by decide +kernel
theorem dX12_isFirst_23 : decode cX12_isFirst 23 = .ok (.getfield 59, 3) := by decide +kernel
theorem dX12_isFirst_26 : decode cX12_isFirst 26 = .ok (.iload_n 1, 1) := by decide +kernel
theorem dX12_isFirst_27 : decode cX12_isFirst 27 = .ok (.iaload, 1) := by decide +kernel
theorem dX12_isFirst_28 : decode cX12_isFirst 28 = .ok (.if_icmp .ne 7, 3) := by decide +kernel
theorem dX12_isFirst_31 : decode cX12_isFirst 31 = .ok (.iconst 1, 1) := by decide +kernel
theorem dX12_isFirst_32 : decode cX12_isFirst 32 = .ok (.goto 4, 3) := by decide +kernel
theorem dX12_isFirst_35 : decode cX12_isFirst 35 = .ok (.iconst 0, 1) := by decide +kernel
theorem dX12_isFirst_36 : decode cX12_isFirst 36 = .ok (.ireturn, 1) := by decide +kernel
theorem dX12_noteFirst_0 : decode cX12_noteFirst 0 = .ok (.iconst 0, 1) := by decide +kernel
theorem dX12_noteFirst_1 : decode cX12_noteFirst 1 = .ok (.istore_n 2, 1) := by decide +kernel
theorem dX12_noteFirst_2 : decode cX12_noteFirst 2 = .ok (.iload_n 2, 1) := by decide +kernel
theorem dX12_noteFirst_3 : decode cX12_noteFirst 3 = .ok (.aload_n 0, 1) := by decide +kernel
theorem dX12_noteFirst_4 : decode cX12_noteFirst 4 = .ok (.getfield 105, 3) := by decide +kernel
theorem dX12_noteFirst_7 : decode cX12_noteFirst 7 = .ok (.if_icmp .ge 96, 3) := by decide +kernel
theorem dX12_noteFirst_10 : decode cX12_noteFirst 10 = .ok (.iload_n 1, 1) := by decide +kernel
theorem dX12_noteFirst_11 : decode cX12_noteFirst 11 = .ok (.iload_n 2, 1) := by decide +kernel
theorem dX12_noteFirst_12 : decode cX12_noteFirst 12 = .ok (.invokestatic 196, 3) := by decide +kernel
theorem dX12_noteFirst_15 : decode cX12_noteFirst 15 = .ok (.ifCond .eq 13, 3) := by decide +kernel
theorem dX12_noteFirst_18 : decode cX12_noteFirst 18 = .ok (.iload_n 1, 1) := by decide +kernel
theorem dX12_noteFirst_19 : decode cX12_noteFirst 19 = .ok (.iconst 1, 1) := by decide +kernel
theorem dX12_noteFirst_20 : decode cX12_noteFirst 20 = .ok (.iload_n 2, 1) := by decide +kernel
theorem dX12_noteFirst_21 : decode cX12_noteFirst 21 = .ok (.ishl, 1) := by decide +kernel
theorem dX12_noteFirst_22 : decode cX12_noteFirst 22 = .ok (.iconst (-1), 1) := by decide +kernel
theorem dX12_noteFirst_23 : decode cX12_noteFirst 23 = .ok (.ixor, 1) := by decide +kernel
theorem dX12_noteFirst_24 : decode cX12_noteFirst 24 = .ok (.iand, 1) := by decide +kernel
theorem dX12_noteFirst_25 : decode cX12_noteFirst 25 = .ok (.goto 4, 3) := by decide +kernel
theorem dX12_noteFirst_28 : decode cX12_noteFirst 28 = .ok (.iconst 0, 1) := by decide +kernel
theorem dX12_noteFirst_29 : decode cX12_noteFirst 29 = .ok (.istore_n 3, 1) := by decide +kernel
theorem dX12_noteFirst_30 : decode cX12_noteFirst 30 = .ok (.iconst 1, 1) := by decide +kernel
theorem dX12_noteFirst_31 : decode cX12_noteFirst 31 = .ok (.istore 4, 2) := by decide +kernel
theorem dX12_noteFirst_33 : decode cX12_noteFirst 33 = .ok (.iload 4, 2) := by decide +kernel
theorem dX12_noteFirst_35 : decode cX12_noteFirst 35 = .ok (.iload_n 3, 1) := by decide +kernel
theorem dX12_noteFirst_36 : decode cX12_noteFirst 36 = .ok (.if_icmp .gt 61, 3) := by decide +kernel
theorem dX12_noteFirst_39 : decode cX12_noteFirst 39 = .ok (.iload 4, 2) := by decide +kernel
theorem dX12_noteFirst_41 : decode cX12_noteFirst 41 = .ok (.iload_n 3, 1) := by decide +kernel
theorem dX12_noteFirst_42 : decode cX12_noteFirst 42 = .ok (.iconst (-1), 1) := by decide +kernel
theorem dX12_noteFirst_43 : decode cX12_noteFirst 43 = .ok (.ixor, 1) := by decide +kernel
theorem dX12_noteFirst_44 : decode cX12_noteFirst 44 = .ok (.iand, 1) := by decide +kernel
theorem dX12_noteFirst_45 : decode cX12_noteFirst 45 = .ok (.ifCond .ne 46, 3) := by decide +kernel
theorem dX12_noteFirst_48 : decode cX12_noteFirst 48 = .ok (.aload_n 0, 1) := by decide +kernel
theorem dX12_noteFirst_49 : decode cX12_noteFirst 49 = .ok (.iload_n 1, 1) := by decide +kernel
theorem dX12_noteFirst_50 : decode cX12_noteFirst 50 = .ok (.iload_n 2, 1) := by decide +kernel
theorem dX12_noteFirst_51 : decode cX12_noteFirst 51 = .ok (.iload 4, 2) := by decide +kernel
theorem dX12_noteFirst_53 : decode cX12_noteFirst 53 = .ok (.invokevirtual 283, 3) := by decide +kernel
theorem dX12_noteFirst_56 : decode cX12_noteFirst 56 = .ok (.ifCond .eq 35, 3) := by decide +kernel
theorem dX12_noteFirst_59 : decode cX12_noteFirst 59 = .ok (.aload_n 0, 1) := by decide +kernel
theorem dX12_noteFirst_60 : decode cX12_noteFirst 60 = .ok (.getfield 68, 3) := by decide +kernel
theorem dX12_noteFirst_63 : decode cX12_noteFirst 63 = .ok (.aload_n 0, 1) := by decide +kernel
theorem dX12_noteFirst_64 : decode cX12_noteFirst 64 = .ok (.getfield 286, 3) := by decide +kernel
theorem dX12_noteFirst_67 : decode cX12_noteFirst 67 = .ok (.iload_n 2, 1) := by decide +kernel
theorem dX12_noteFirst_68 : decode cX12_noteFirst 68 = .ok (.iastore, 1) := by decide +kernel
theorem dX12_noteFirst_69 : decode cX12_noteFirst 69 = .ok (.aload_n 0, 1) := by decide +kernel
theorem dX12_noteFirst_70 : decode cX12_noteFirst 70 = .ok (.getfield 71, 3) := by decide +kernel
theorem dX12_noteFirst_73 : decode cX12_noteFirst 73 = .ok (.aload_n 0, 1) := by decide +kernel
theorem dX12_noteFirst_74 : decode cX12_noteFirst 74 = .ok (.getfield 286, 3) := by decide +kernel
theorem dX12_noteFirst_77 : decode cX12_noteFirst 77 = .ok (.iload 4, 2) := by decide +kernel
theorem dX12_noteFirst_79 : decode cX12_noteFirst 79 = .ok (.iastore, 1) := by decide +kernel
theorem dX12_noteFirst_80 : decode cX12_noteFirst 80 = .ok (.aload_n 0, 1) := by decide +kernel
theorem dX12_noteFirst_81 : decode cX12_noteFirst 81 = .ok (.dup, 1) := by decide +kernel
theorem dX12_noteFirst_82 : decode cX12_noteFirst 82 = .ok (.getfield 286, 3) := by decide +kernel
theorem dX12_noteFirst_85 : decode cX12_noteFirst 85 = .ok (.iconst 1, 1) := by decide +kernel
theorem dX12_noteFirst_86 : decode cX12_noteFirst 86 = .ok (.iadd, 1) := by decide +kernel
theorem dX12_noteFirst_87 : decode cX12_noteFirst 87 = .ok (.putfield 286, 3) := by decide +kernel
theorem dX12_noteFirst_90 : decode cX12_noteFirst 90 = .ok (.return_, 1) := by decide +kernel
theorem dX12_noteFirst_91 : decode cX12_noteFirst 91 = .ok (.iinc 4 1, 3) := by decide +kernel
theorem dX12_noteFirst_94 : decode cX12_noteFirst 94 = .ok (.goto (-61), 3) := by decide +kernel
theorem dX12_noteFirst_97 : decode cX12_noteFirst 97 = .ok (.iinc 2 1, 3) := by decide +kernel
theorem dX12_noteFirst_100 : decode cX12_noteFirst 100 = .ok (.goto (-98), 3) := by decide +kernel
theorem dX12_noteFirst_103 : decode cX12_noteFirst 103 = .ok (.return_, 1) := by decide +kernel
theorem dX12_findPlan_0 : decode cX12_findPlan 0 = .ok (.aload_n 0, 1) := by decide +kernel
theorem dX12_findPlan_1 : decode cX12_findPlan 1 = .ok (.invokevirtual 289, 3) := by decide +kernel
theorem dX12_findPlan_4 : decode cX12_findPlan 4 = .ok (.aload_n 0, 1) := by decide +kernel
theorem dX12_findPlan_5 : decode cX12_findPlan 5 = .ok (.iconst 0, 1) := by decide +kernel
theorem dX12_findPlan_6 : decode cX12_findPlan 6 = .ok (.putfield 286, 3) := by decide +kernel
theorem dX12_findPlan_9 : decode cX12_findPlan 9 = .ok (.aload_n 0, 1) := by decide +kernel
theorem dX12_findPlan_10 : decode cX12_findPlan 10 = .ok (.getfield 56, 3) := by decide +kernel
theorem dX12_findPlan_13 : decode cX12_findPlan 13 = .ok (.aload_n 0, 1) := by decide +kernel
theorem dX12_findPlan_14 : decode cX12_findPlan 14 = .ok (.getfield 224, 3) := by decide +kernel
theorem dX12_findPlan_17 : decode cX12_findPlan 17 = .ok (.iaload, 1) := by decide +kernel
theorem dX12_findPlan_18 : decode cX12_findPlan 18 = .ok (.ldc_w 260, 3) := by decide +kernel
theorem dX12_findPlan_21 : decode cX12_findPlan 21 = .ok (.if_icmp .lt 5, 3) := by decide +kernel
theorem dX12_findPlan_24 : decode cX12_findPlan 24 = .ok (.iconst 0, 1) := by decide +kernel
theorem dX12_findPlan_25 : decode cX12_findPlan 25 = .ok (.ireturn, 1) := by decide +kernel
theorem dX12_findPlan_26 : decode cX12_findPlan 26 = .ok (.aload_n 0, 1) := by decide +kernel
theorem dX12_findPlan_27 : decode cX12_findPlan 27 = .ok (.getfield 224, 3) := by decide +kernel
theorem dX12_findPlan_30 : decode cX12_findPlan 30 = .ok (.istore_n 1, 1) := by decide +kernel
theorem dX12_findPlan_31 : decode cX12_findPlan 31 = .ok (.iload_n 1, 1) := by decide +kernel
theorem dX12_findPlan_32 : decode cX12_findPlan 32 = .ok (.invokestatic 200, 3) := by decide +kernel
theorem dX12_findPlan_35 : decode cX12_findPlan 35 = .ok (.iconst 1, 1) := by decide +kernel
theorem dX12_findPlan_36 : decode cX12_findPlan 36 = .ok (.if_icmp .le 27, 3) := by decide +kernel
theorem dX12_findPlan_39 : decode cX12_findPlan 39 = .ok (.aload_n 0, 1) := by decide +kernel
theorem dX12_findPlan_40 : decode cX12_findPlan 40 = .ok (.iload_n 1, 1) := by decide +kernel
theorem dX12_findPlan_41 : decode cX12_findPlan 41 = .ok (.invokevirtual 292, 3) := by decide +kernel
theorem dX12_findPlan_44 : decode cX12_findPlan 44 = .ok (.iload_n 1, 1) := by decide +kernel
theorem dX12_findPlan_45 : decode cX12_findPlan 45 = .ok (.aload_n 0, 1) := by decide +kernel
theorem dX12_findPlan_46 : decode cX12_findPlan 46 = .ok (.getfield 71, 3) := by decide +kernel
theorem dX12_findPlan_49 : decode cX12_findPlan 49 = .ok (.aload_n 0, 1) := by decide +kernel
theorem dX12_findPlan_50 : decode cX12_findPlan 50 = .ok (.getfield 286, 3) := by decide +kernel
theorem dX12_findPlan_53 : decode cX12_findPlan 53 = .ok (.iconst 1, 1) := by decide +kernel
theorem dX12_findPlan_54 : decode cX12_findPlan 54 = .ok (.isub, 1) := by decide +kernel
theorem dX12_findPlan_55 : decode cX12_findPlan 55 = .ok (.iaload, 1) := by decide +kernel
theorem dX12_findPlan_56 : decode cX12_findPlan 56 = .ok (.iconst (-1), 1) := by decide +kernel
theorem dX12_findPlan_57 : decode cX12_findPlan 57 = .ok (.ixor, 1) := by decide +kernel
theorem dX12_findPlan_58 : decode cX12_findPlan 58 = .ok (.iand, 1) := by decide +kernel
theorem dX12_findPlan_59 : decode cX12_findPlan 59 = .ok (.istore_n 1, 1) := by decide +kernel
theorem dX12_findPlan_60 : decode cX12_findPlan 60 = .ok (.goto (-29), 3) := by decide +kernel
theorem dX12_findPlan_63 : decode cX12_findPlan 63 = .ok (.aload_n 0, 1) := by decide +kernel
theorem dX12_findPlan_64 : decode cX12_findPlan 64 = .ok (.iload_n 1, 1) := by decide +kernel
theorem dX12_findPlan_65 : decode cX12_findPlan 65 = .ok (.putfield 295, 3) := by decide +kernel
theorem dX12_findPlan_68 : decode cX12_findPlan 68 = .ok (.iconst 1, 1) := by decide +kernel
theorem dX12_findPlan_69 : decode cX12_findPlan 69 = .ok (.ireturn, 1) := by decide +kernel
theorem dX12_plan_0 : decode cX12_plan 0 = .ok (.iload_n 1, 1) := by decide +kernel
theorem dX12_plan_1 : decode cX12_plan 1 = .ok (.iconst 0, 1) := by decide +kernel
theorem dX12_plan_2 : decode cX12_plan 2 = .ok (.iconst 1, 1) := by decide +kernel
theorem dX12_plan_3 : decode cX12_plan 3 = .ok (.invokestatic 108, 3) := by decide +kernel
theorem dX12_plan_6 : decode cX12_plan 6 = .ok (.ifCond .ne 27, 3) := by decide +kernel
theorem dX12_plan_9 : decode cX12_plan 9 = .ok (.iload_n 1, 1) := by decide +kernel
theorem dX12_plan_10 : decode cX12_plan 10 = .ok (.bipush 10, 2) := by decide +kernel
theorem dX12_plan_12 : decode cX12_plan 12 = .ok (.bipush 17, 2) := by decide +kernel
theorem dX12_plan_14 : decode cX12_plan 14 = .ok (.invokestatic 108, 3) := by decide +kernel
theorem dX12_plan_17 : decode cX12_plan 17 = .ok (.ifCond .ne 16, 3) := by decide +kernel
theorem dX12_plan_20 : decode cX12_plan 20 = .ok (.iload_n 1, 1) := by decide +kernel
theorem dX12_plan_21 : decode cX12_plan 21 = .ok (.bipush 20, 2) := by decide +kernel
theorem dX12_plan_23 : decode cX12_plan 23 = .ok (.bipush 27, 2) := by decide +kernel
theorem dX12_plan_25 : decode cX12_plan 25 = .ok (.invokestatic 108, 3) := by decide +kernel
theorem dX12_plan_28 : decode cX12_plan 28 = .ok (.ifCond .ne 5, 3) := by decide +kernel
theorem dX12_plan_31 : decode cX12_plan 31 = .ok (.iconst (-1), 1) := by decide +kernel
theorem dX12_plan_32 : decode cX12_plan 32 = .ok (.ireturn, 1) := by decide +kernel
theorem dX12_plan_33 : decode cX12_plan 33 = .ok (.aload_n 0, 1) := by decide +kernel
theorem dX12_plan_34 : decode cX12_plan 34 = .ok (.invokevirtual 298, 3) := by decide +kernel
theorem dX12_plan_37 : decode cX12_plan 37 = .ok (.ifCond .ne 6, 3) := by decide +kernel
theorem dX12_plan_40 : decode cX12_plan 40 = .ok (.bipush (-3), 2) := by decide +kernel
theorem dX12_plan_42 : decode cX12_plan 42 = .ok (.ireturn, 1) := by decide +kernel
theorem dX12_plan_43 : decode cX12_plan 43 = .ok (.iload_n 1, 1) := by decide +kernel
theorem dX12_plan_44 : decode cX12_plan 44 = .ok (.bipush 10, 2) := by decide +kernel
theorem dX12_plan_46 : decode cX12_plan 46 = .ok (.irem, 1) := by decide +kernel
theorem dX12_plan_47 : decode cX12_plan 47 = .ok (.istore_n 2, 1) := by decide +kernel
theorem dX12_plan_48 : decode cX12_plan 48 = .ok (.iload_n 1, 1) := by decide +kernel
theorem dX12_plan_49 : decode cX12_plan 49 = .ok (.ifCond .ne 10, 3) := by decide +kernel
theorem dX12_plan_52 : decode cX12_plan 52 = .ok (.aload_n 0, 1) := by decide +kernel
theorem dX12_plan_53 : decode cX12_plan 53 = .ok (.getfield 286, 3) := by decide +kernel
theorem dX12_plan_56 : decode cX12_plan 56 = .ok (.goto 53, 3) := by decide +kernel
theorem dX12_plan_59 : decode cX12_plan 59 = .ok (.iload_n 1, 1) := by decide +kernel
theorem dX12_plan_60 : decode cX12_plan 60 = .ok (.iconst 1, 1) := by decide +kernel
theorem dX12_plan_61 : decode cX12_plan 61 = .ok (.if_icmp .ne 14, 3) := by decide +kernel
theorem dX12_plan_64 : decode cX12_plan 64 = .ok (.aload_n 0, 1) := by decide +kernel
theorem dX12_plan_65 : decode cX12_plan 65 = .ok (.aload_n 0, 1) := by decide +kernel
theorem dX12_plan_66 : decode cX12_plan 66 = .ok (.getfield 295, 3) := by decide +kernel
theorem dX12_plan_69 : decode cX12_plan 69 = .ok (.invokevirtual 253, 3) := by decide +kernel
theorem dX12_plan_72 : decode cX12_plan 72 = .ok (.goto 37, 3) := by decide +kernel
theorem dX12_plan_75 : decode cX12_plan 75 = .ok (.iload_n 2, 1) := by decide +kernel
theorem dX12_plan_76 : decode cX12_plan 76 = .ok (.aload_n 0, 1) := by decide +kernel
theorem dX12_plan_77 : decode cX12_plan 77 = .ok (.getfield 286, 3) := by decide +kernel
theorem dX12_plan_80 : decode cX12_plan 80 = .ok (.if_icmp .lt 8, 3) := by decide +kernel
theorem dX12_plan_83 : decode cX12_plan 83 = .ok (.bipush (-3), 2) := by decide +kernel
theorem dX12_plan_85 : decode cX12_plan 85 = .ok (.goto 24, 3) := by decide +kernel
theorem dX12_plan_88 : decode cX12_plan 88 = .ok (.iload_n 1, 1) := by decide +kernel
theorem dX12_plan_89 : decode cX12_plan 89 = .ok (.bipush 20, 2) := by decide +kernel
theorem dX12_plan_91 : decode cX12_plan 91 = .ok (.if_icmp .ge 12, 3) := by decide +kernel
theorem dX12_plan_94 : decode cX12_plan 94 = .ok (.aload_n 0, 1) := by decide +kernel
theorem dX12_plan_95 : decode cX12_plan 95 = .ok (.getfield 68, 3) := by decide +kernel
theorem dX12_plan_98 : decode cX12_plan 98 = .ok (.iload_n 2, 1) := by decide +kernel
theorem dX12_plan_99 : decode cX12_plan 99 = .ok (.iaload, 1) := by decide +kernel
theorem dX12_plan_100 : decode cX12_plan 100 = .ok (.goto 9, 3) := by decide +kernel
theorem dX12_plan_103 : decode cX12_plan 103 = .ok (.aload_n 0, 1) := by decide +kernel
theorem dX12_plan_104 : decode cX12_plan 104 = .ok (.getfield 71, 3) := by decide +kernel
theorem dX12_plan_107 : decode cX12_plan 107 = .ok (.iload_n 2, 1) := by decide +kernel
theorem dX12_plan_108 : decode cX12_plan 108 = .ok (.iaload, 1) := by decide +kernel
theorem dX12_plan_109 : decode cX12_plan 109 = .ok (.ireturn, 1) := by decide +kernel
theorem dX12_last_0 : decode cX12_last 0 = .ok (.aload_n 0, 1) := by decide +kernel
theorem dX12_last_1 : decode cX12_last 1 = .ok (.invokevirtual 289, 3) := by decide +kernel
theorem dX12_last_4 : decode cX12_last 4 = .ok (.aload_n 0, 1) := by decide +kernel
theorem dX12_last_5 : decode cX12_last 5 = .ok (.getfield 56, 3) := by decide +kernel
theorem dX12_last_8 : decode cX12_last 8 = .ok (.aload_n 0, 1) := by decide +kernel
theorem dX12_last_9 : decode cX12_last 9 = .ok (.getfield 224, 3) := by decide +kernel
theorem dX12_last_12 : decode cX12_last 12 = .ok (.iaload, 1) := by decide +kernel
theorem dX12_last_13 : decode cX12_last 13 = .ok (.ldc_w 260, 3) := by decide +kernel
theorem dX12_last_16 : decode cX12_last 16 = .ok (.if_icmp .lt 7, 3) := by decide +kernel
theorem dX12_last_19 : decode cX12_last 19 = .ok (.iconst 0, 1) := by decide +kernel
theorem dX12_last_20 : decode cX12_last 20 = .ok (.goto 12, 3) := by decide +kernel
theorem dX12_last_23 : decode cX12_last 23 = .ok (.aload_n 0, 1) := by decide +kernel
theorem dX12_last_24 : decode cX12_last 24 = .ok (.getfield 62, 3) := by decide +kernel
theorem dX12_last_27 : decode cX12_last 27 = .ok (.aload_n 0, 1) := by decide +kernel
theorem dX12_last_28 : decode cX12_last 28 = .ok (.getfield 224, 3) := by decide +kernel
theorem dX12_last_31 : decode cX12_last 31 = .ok (.iaload, 1) := by decide +kernel
theorem dX12_last_32 : decode cX12_last 32 = .ok (.ireturn, 1) := by decide +kernel
theorem dX12_ways_0 : decode cX12_ways 0 = .ok (.aload_n 0, 1) := by decide +kernel
theorem dX12_ways_1 : decode cX12_ways 1 = .ok (.invokevirtual 289, 3) := by decide +kernel
theorem dX12_ways_4 : decode cX12_ways 4 = .ok (.aload_n 0, 1) := by decide +kernel
theorem dX12_ways_5 : decode cX12_ways 5 = .ok (.getfield 56, 3) := by decide +kernel
theorem dX12_ways_8 : decode cX12_ways 8 = .ok (.aload_n 0, 1) := by decide +kernel
theorem dX12_ways_9 : decode cX12_ways 9 = .ok (.getfield 224, 3) := by decide +kernel
theorem dX12_ways_12 : decode cX12_ways 12 = .ok (.iaload, 1) := by decide +kernel
theorem dX12_ways_13 : decode cX12_ways 13 = .ok (.ldc_w 260, 3) := by decide +kernel
theorem dX12_ways_16 : decode cX12_ways 16 = .ok (.if_icmp .lt 7, 3) := by decide +kernel
theorem dX12_ways_19 : decode cX12_ways 19 = .ok (.iconst 0, 1) := by decide +kernel
theorem dX12_ways_20 : decode cX12_ways 20 = .ok (.goto 12, 3) := by decide +kernel
theorem dX12_ways_23 : decode cX12_ways 23 = .ok (.aload_n 0, 1) := by decide +kernel
theorem dX12_ways_24 : decode cX12_ways 24 = .ok (.getfield 65, 3) := by decide +kernel
theorem dX12_ways_27 : decode cX12_ways 27 = .ok (.aload_n 0, 1) := by decide +kernel
theorem dX12_ways_28 : decode cX12_ways 28 = .ok (.getfield 224, 3) := by decide +kernel
theorem dX12_ways_31 : decode cX12_ways 31 = .ok (.iaload, 1) := by decide +kernel
theorem dX12_ways_32 : decode cX12_ways 32 = .ok (.ireturn, 1) := by decide +kernel
theorem dX12_inTurn_0 : decode cX12_inTurn 0 = .ok (.bipush (-3), 2) := by decide +kernel
theorem dX12_inTurn_2 : decode cX12_inTurn 2 = .ok (.istore_n 1, 1) := by decide +kernel
theorem dX12_inTurn_3 : decode cX12_inTurn 3 = .ok (.iconst 0, 1) := by decide +kernel
theorem dX12_inTurn_4 : decode cX12_inTurn 4 = .ok (.istore_n 2, 1) := by decide +kernel
theorem dX12_inTurn_5 : decode cX12_inTurn 5 = .ok (.iconst 0, 1) := by decide +kernel
theorem dX12_inTurn_6 : decode cX12_inTurn 6 = .ok (.istore_n 3, 1) := by decide +kernel
theorem dX12_inTurn_7 : decode cX12_inTurn 7 = .ok (.iload_n 3, 1) := by decide +kernel
theorem dX12_inTurn_8 : decode cX12_inTurn 8 = .ok (.aload_n 0, 1) := by decide +kernel
theorem dX12_inTurn_9 : decode cX12_inTurn 9 = .ok (.getfield 105, 3) := by decide +kernel
theorem dX12_inTurn_12 : decode cX12_inTurn 12 = .ok (.if_icmp .ge 65, 3) := by decide +kernel
theorem dX12_inTurn_15 : decode cX12_inTurn 15 = .ok (.aload_n 0, 1) := by decide +kernel
theorem dX12_inTurn_16 : decode cX12_inTurn 16 = .ok (.iconst (-1), 1) := by decide +kernel
theorem dX12_inTurn_17 : decode cX12_inTurn 17 = .ok (.iload_n 3, 1) := by decide +kernel
theorem dX12_inTurn_18 : decode cX12_inTurn 18 = .ok (.invokevirtual 270, 3) := by decide +kernel
theorem dX12_inTurn_21 : decode cX12_inTurn 21 = .ok (.aload_n 0, 1) := by decide +kernel
theorem dX12_inTurn_22 : decode cX12_inTurn 22 = .ok (.getfield 56, 3) := by decide +kernel
theorem dX12_inTurn_25 : decode cX12_inTurn 25 = .ok (.aload_n 0, 1) := by decide +kernel
theorem dX12_inTurn_26 : decode cX12_inTurn 26 = .ok (.getfield 224, 3) := by decide +kernel
theorem dX12_inTurn_29 : decode cX12_inTurn 29 = .ok (.iaload, 1) := by decide +kernel
theorem dX12_inTurn_30 : decode cX12_inTurn 30 = .ok (.ldc_w 260, 3) := by decide +kernel
theorem dX12_inTurn_33 : decode cX12_inTurn 33 = .ok (.if_icmp .ge 7, 3) := by decide +kernel
theorem dX12_inTurn_36 : decode cX12_inTurn 36 = .ok (.iconst 1, 1) := by decide +kernel
theorem dX12_inTurn_37 : decode cX12_inTurn 37 = .ok (.goto 4, 3) := by decide +kernel
theorem dX12_inTurn_40 : decode cX12_inTurn 40 = .ok (.iconst 0, 1) := by decide +kernel
theorem dX12_inTurn_41 : decode cX12_inTurn 41 = .ok (.istore 4, 2) := by decide +kernel
theorem dX12_inTurn_43 : decode cX12_inTurn 43 = .ok (.iload 4, 2) := by decide +kernel
theorem dX12_inTurn_45 : decode cX12_inTurn 45 = .ok (.ifCond .eq 26, 3) := by decide +kernel
theorem dX12_inTurn_48 : decode cX12_inTurn 48 = .ok (.iload_n 1, 1) := by decide +kernel
theorem dX12_inTurn_49 : decode cX12_inTurn 49 = .ok (.ifCond .lt 13, 3) := by decide +kernel
theorem dX12_inTurn_52 : decode cX12_inTurn 52 = .ok (.aload_n 0, 1) := by decide +kernel
theorem dX12_inTurn_53 : decode cX12_inTurn 53 = .ok (.getfield 22, 3) := by decide +kernel
theorem dX12_inTurn_56 : decode cX12_inTurn 56 = .ok (.iload_n 3, 1) := by decide +kernel
theorem dX12_inTurn_57 : decode cX12_inTurn 57 = .ok (.iaload, 1) := by decide +kernel
theorem dX12_inTurn_58 : decode cX12_inTurn 58 = .ok (.iload_n 2, 1) := by decide +kernel
theorem dX12_inTurn_59 : decode cX12_inTurn 59 = .ok (.if_icmp .ge 12, 3) := by decide +kernel
theorem dX12_inTurn_62 : decode cX12_inTurn 62 = .ok (.iload_n 3, 1) := by decide +kernel
theorem dX12_inTurn_63 : decode cX12_inTurn 63 = .ok (.istore_n 1, 1) := by decide +kernel
theorem dX12_inTurn_64 : decode cX12_inTurn 64 = .ok (.aload_n 0, 1) := by decide +kernel
theorem dX12_inTurn_65 : decode cX12_inTurn 65 = .ok (.getfield 22, 3) := by decide +kernel
theorem dX12_inTurn_68 : decode cX12_inTurn 68 = .ok (.iload_n 3, 1) := by decide +kernel
theorem dX12_inTurn_69 : decode cX12_inTurn 69 = .ok (.iaload, 1) := by decide +kernel
theorem dX12_inTurn_70 : decode cX12_inTurn 70 = .ok (.istore_n 2, 1) := by decide +kernel
theorem dX12_inTurn_71 : decode cX12_inTurn 71 = .ok (.iinc 3 1, 3) := by decide +kernel
theorem dX12_inTurn_74 : decode cX12_inTurn 74 = .ok (.goto (-67), 3) := by decide +kernel
theorem dX12_inTurn_77 : decode cX12_inTurn 77 = .ok (.iload_n 1, 1) := by decide +kernel
theorem dX12_inTurn_78 : decode cX12_inTurn 78 = .ok (.ireturn, 1) := by decide +kernel
theorem dX12_dearest_0 : decode cX12_dearest 0 = .ok (.aload_n 0, 1) := by decide +kernel
theorem dX12_dearest_1 : decode cX12_dearest 1 = .ok (.iconst (-1), 1) := by decide +kernel
theorem dX12_dearest_2 : decode cX12_dearest 2 = .ok (.iconst (-1), 1) := by decide +kernel
theorem dX12_dearest_3 : decode cX12_dearest 3 = .ok (.invokevirtual 270, 3) := by decide +kernel
theorem dX12_dearest_6 : decode cX12_dearest 6 = .ok (.bipush (-3), 2) := by decide +kernel
theorem dX12_dearest_8 : decode cX12_dearest 8 = .ok (.istore_n 1, 1) := by decide +kernel
theorem dX12_dearest_9 : decode cX12_dearest 9 = .ok (.iconst 0, 1) := by decide +kernel
theorem dX12_dearest_10 : decode cX12_dearest 10 = .ok (.istore_n 2, 1) := by decide +kernel
theorem dX12_dearest_11 : decode cX12_dearest 11 = .ok (.iconst 0, 1) := by decide +kernel
theorem dX12_dearest_12 : decode cX12_dearest 12 = .ok (.istore_n 3, 1) := by decide +kernel
theorem dX12_dearest_13 : decode cX12_dearest 13 = .ok (.iload_n 3, 1) := by decide +kernel
theorem dX12_dearest_14 : decode cX12_dearest 14 = .ok (.aload_n 0, 1) := by decide +kernel
theorem dX12_dearest_15 : decode cX12_dearest 15 = .ok (.getfield 105, 3) := by decide +kernel
theorem dX12_dearest_18 : decode cX12_dearest 18 = .ok (.if_icmp .ge 95, 3) := by decide +kernel
theorem dX12_dearest_21 : decode cX12_dearest 21 = .ok (.aload_n 0, 1) := by decide +kernel
theorem dX12_dearest_22 : decode cX12_dearest 22 = .ok (.getfield 224, 3) := by decide +kernel
theorem dX12_dearest_25 : decode cX12_dearest 25 = .ok (.iload_n 3, 1) := by decide +kernel
theorem dX12_dearest_26 : decode cX12_dearest 26 = .ok (.invokestatic 196, 3) := by decide +kernel
theorem dX12_dearest_29 : decode cX12_dearest 29 = .ok (.ifCond .eq 36, 3) := by decide +kernel
theorem dX12_dearest_32 : decode cX12_dearest 32 = .ok (.aload_n 0, 1) := by decide +kernel
theorem dX12_dearest_33 : decode cX12_dearest 33 = .ok (.getfield 56, 3) := by decide +kernel
theorem dX12_dearest_36 : decode cX12_dearest 36 = .ok (.aload_n 0, 1) := by decide +kernel
theorem dX12_dearest_37 : decode cX12_dearest 37 = .ok (.getfield 224, 3) := by decide +kernel
theorem dX12_dearest_40 : decode cX12_dearest 40 = .ok (.iaload, 1) := by decide +kernel
theorem dX12_dearest_41 : decode cX12_dearest 41 = .ok (.ldc_w 260, 3) := by decide +kernel
theorem dX12_dearest_44 : decode cX12_dearest 44 = .ok (.if_icmp .ge 21, 3) := by decide +kernel
theorem dX12_dearest_47 : decode cX12_dearest 47 = .ok (.aload_n 0, 1) := by decide +kernel
theorem dX12_dearest_48 : decode cX12_dearest 48 = .ok (.getfield 56, 3) := by decide +kernel
theorem dX12_dearest_51 : decode cX12_dearest 51 = .ok (.aload_n 0, 1) := by decide +kernel
theorem dX12_dearest_52 : decode cX12_dearest 52 = .ok (.getfield 224, 3) := by decide +kernel
theorem dX12_dearest_55 : decode cX12_dearest 55 = .ok (.iconst 1, 1) := by decide +kernel
theorem dX12_dearest_56 : decode cX12_dearest 56 = .ok (.iload_n 3, 1) := by decide +kernel
theorem dX12_dearest_57 : decode cX12_dearest 57 = .ok (.ishl, 1) := by decide +kernel
theorem dX12_dearest_58 : decode cX12_dearest 58 = .ok (.iconst (-1), 1) := by decide +kernel
theorem dX12_dearest_59 : decode cX12_dearest 59 = .ok (.ixor, 1) := by decide +kernel
theorem dX12_dearest_60 : decode cX12_dearest 60 = .ok (.iand, 1) := by decide +kernel
theorem dX12_dearest_61 : decode cX12_dearest 61 = .ok (.iaload, 1) := by decide +kernel
theorem dX12_dearest_62 : decode cX12_dearest 62 = .ok (.goto 6, 3) := by decide +kernel
theorem dX12_dearest_65 : decode cX12_dearest 65 = .ok (.ldc_w 260, 3) := by decide +kernel
theorem dX12_dearest_68 : decode cX12_dearest 68 = .ok (.istore 4, 2) := by decide +kernel
theorem dX12_dearest_70 : decode cX12_dearest 70 = .ok (.aload_n 0, 1) := by decide +kernel
theorem dX12_dearest_71 : decode cX12_dearest 71 = .ok (.getfield 56, 3) := by decide +kernel
theorem dX12_dearest_74 : decode cX12_dearest 74 = .ok (.aload_n 0, 1) := by decide +kernel
theorem dX12_dearest_75 : decode cX12_dearest 75 = .ok (.getfield 224, 3) := by decide +kernel
theorem dX12_dearest_78 : decode cX12_dearest 78 = .ok (.iaload, 1) := by decide +kernel
theorem dX12_dearest_79 : decode cX12_dearest 79 = .ok (.iload 4, 2) := by decide +kernel
theorem dX12_dearest_81 : decode cX12_dearest 81 = .ok (.isub, 1) := by decide +kernel
theorem dX12_dearest_82 : decode cX12_dearest 82 = .ok (.istore 5, 2) := by decide +kernel
theorem dX12_dearest_84 : decode cX12_dearest 84 = .ok (.iload 4, 2) := by decide +kernel
theorem dX12_dearest_86 : decode cX12_dearest 86 = .ok (.ldc_w 260, 3) := by decide +kernel
theorem dX12_dearest_89 : decode cX12_dearest 89 = .ok (.if_icmp .ge 18, 3) := by decide +kernel
theorem dX12_dearest_92 : decode cX12_dearest 92 = .ok (.iload_n 1, 1) := by decide +kernel
theorem dX12_dearest_93 : decode cX12_dearest 93 = .ok (.ifCond .lt 9, 3) := by decide +kernel
theorem dX12_dearest_96 : decode cX12_dearest 96 = .ok (.iload 5, 2) := by decide +kernel
theorem dX12_dearest_98 : decode cX12_dearest 98 = .ok (.iload_n 2, 1) := by decide +kernel
theorem dX12_dearest_99 : decode cX12_dearest 99 = .ok (.if_icmp .le 8, 3) := by decide +kernel
theorem dX12_dearest_102 : decode cX12_dearest 102 = .ok (.iload_n 3, 1) := by decide +kernel
theorem dX12_dearest_103 : decode cX12_dearest 103 = .ok (.istore_n 1, 1) := by decide +kernel
theorem dX12_dearest_104 : decode cX12_dearest 104 = .ok (.iload 5, 2) := by decide +kernel
theorem dX12_dearest_106 : decode cX12_dearest 106 = .ok (.istore_n 2, 1) := by decide +kernel
theorem dX12_dearest_107 : decode cX12_dearest 107 = .ok (.iinc 3 1, 3) := by decide +kernel
theorem dX12_dearest_110 : decode cX12_dearest 110 = .ok (.goto (-97), 3) := by decide +kernel
theorem dX12_dearest_113 : decode cX12_dearest 113 = .ok (.iload_n 1, 1) := by decide +kernel
theorem dX12_dearest_114 : decode cX12_dearest 114 = .ok (.ireturn, 1) := by decide +kernel
theorem dX12_hoarse_0 : decode cX12_hoarse 0 = .ok (.iconst 0, 1) := by decide +kernel
theorem dX12_hoarse_1 : decode cX12_hoarse 1 = .ok (.istore_n 1, 1) := by decide +kernel
theorem dX12_hoarse_2 : decode cX12_hoarse 2 = .ok (.iload_n 1, 1) := by decide +kernel
theorem dX12_hoarse_3 : decode cX12_hoarse 3 = .ok (.sipush 200, 3) := by decide +kernel
theorem dX12_hoarse_6 : decode cX12_hoarse 6 = .ok (.if_icmp .gt 62, 3) := by decide +kernel
theorem dX12_hoarse_9 : decode cX12_hoarse 9 = .ok (.iconst 0, 1) := by decide +kernel
theorem dX12_hoarse_10 : decode cX12_hoarse 10 = .ok (.istore_n 2, 1) := by decide +kernel
theorem dX12_hoarse_11 : decode cX12_hoarse 11 = .ok (.iconst 0, 1) := by decide +kernel
theorem dX12_hoarse_12 : decode cX12_hoarse 12 = .ok (.istore_n 3, 1) := by decide +kernel
theorem dX12_hoarse_13 : decode cX12_hoarse 13 = .ok (.iload_n 3, 1) := by decide +kernel
theorem dX12_hoarse_14 : decode cX12_hoarse 14 = .ok (.aload_n 0, 1) := by decide +kernel
theorem dX12_hoarse_15 : decode cX12_hoarse 15 = .ok (.getfield 105, 3) := by decide +kernel
theorem dX12_hoarse_18 : decode cX12_hoarse 18 = .ok (.if_icmp .ge 37, 3) := by decide +kernel
theorem dX12_hoarse_21 : decode cX12_hoarse 21 = .ok (.iload_n 2, 1) := by decide +kernel
theorem dX12_hoarse_22 : decode cX12_hoarse 22 = .ok (.aload_n 0, 1) := by decide +kernel
theorem dX12_hoarse_23 : decode cX12_hoarse 23 = .ok (.getfield 224, 3) := by decide +kernel
theorem dX12_hoarse_26 : decode cX12_hoarse 26 = .ok (.iload_n 3, 1) := by decide +kernel
theorem dX12_hoarse_27 : decode cX12_hoarse 27 = .ok (.invokestatic 196, 3) := by decide +kernel
theorem dX12_hoarse_30 : decode cX12_hoarse 30 = .ok (.ifCond .eq 16, 3) := by decide +kernel
theorem dX12_hoarse_33 : decode cX12_hoarse 33 = .ok (.aload_n 0, 1) := by decide +kernel
theorem dX12_hoarse_34 : decode cX12_hoarse 34 = .ok (.iload_n 3, 1) := by decide +kernel
theorem dX12_hoarse_35 : decode cX12_hoarse 35 = .ok (.invokevirtual 236, 3) := by decide +kernel
theorem dX12_hoarse_38 : decode cX12_hoarse 38 = .ok (.iload_n 1, 1) := by decide +kernel
theorem dX12_hoarse_39 : decode cX12_hoarse 39 = .ok (.if_icmp .le 7, 3) := by decide +kernel
theorem dX12_hoarse_42 : decode cX12_hoarse 42 = .ok (.iconst 1, 1) := by decide +kernel
theorem dX12_hoarse_43 : decode cX12_hoarse 43 = .ok (.goto 4, 3) := by decide +kernel
theorem dX12_hoarse_46 : decode cX12_hoarse 46 = .ok (.iconst 0, 1) := by decide +kernel
theorem dX12_hoarse_47 : decode cX12_hoarse 47 = .ok (.iadd, 1) := by decide +kernel
theorem dX12_hoarse_48 : decode cX12_hoarse 48 = .ok (.istore_n 2, 1) := by decide +kernel
theorem dX12_hoarse_49 : decode cX12_hoarse 49 = .ok (.iinc 3 1, 3) := by decide +kernel
theorem dX12_hoarse_52 : decode cX12_hoarse 52 = .ok (.goto (-39), 3) := by decide +kernel
theorem dX12_hoarse_55 : decode cX12_hoarse 55 = .ok (.iload_n 2, 1) := by decide +kernel
theorem dX12_hoarse_56 : decode cX12_hoarse 56 = .ok (.iconst 2, 1) := by decide +kernel
theorem dX12_hoarse_57 : decode cX12_hoarse 57 = .ok (.if_icmp .ge 5, 3) := by decide +kernel
theorem dX12_hoarse_60 : decode cX12_hoarse 60 = .ok (.iload_n 1, 1) := by decide +kernel
theorem dX12_hoarse_61 : decode cX12_hoarse 61 = .ok (.ireturn, 1) := by decide +kernel
theorem dX12_hoarse_62 : decode cX12_hoarse 62 = .ok (.iinc 1 1, 3) := by decide +kernel
theorem dX12_hoarse_65 : decode cX12_hoarse 65 = .ok (.goto (-63), 3) := by decide +kernel
theorem dX12_hoarse_68 : decode cX12_hoarse 68 = .ok (.bipush (-3), 2) := by decide +kernel
theorem dX12_hoarse_70 : decode cX12_hoarse 70 = .ok (.ireturn, 1) := by decide +kernel
theorem dX12_tent_0 : decode cX12_tent 0 = .ok (.aload_n 0, 1) := by decide +kernel
theorem dX12_tent_1 : decode cX12_tent 1 = .ok (.invokevirtual 264, 3) := by decide +kernel
theorem dX12_tent_4 : decode cX12_tent 4 = .ok (.iconst 0, 1) := by decide +kernel
theorem dX12_tent_5 : decode cX12_tent 5 = .ok (.istore_n 1, 1) := by decide +kernel
theorem dX12_tent_6 : decode cX12_tent 6 = .ok (.iload_n 1, 1) := by decide +kernel
theorem dX12_tent_7 : decode cX12_tent 7 = .ok (.iconst 1, 1) := by decide +kernel
theorem dX12_tent_8 : decode cX12_tent 8 = .ok (.aload_n 0, 1) := by decide +kernel
theorem dX12_tent_9 : decode cX12_tent 9 = .ok (.getfield 105, 3) := by decide +kernel
theorem dX12_tent_12 : decode cX12_tent 12 = .ok (.ishl, 1) := by decide +kernel
theorem dX12_tent_13 : decode cX12_tent 13 = .ok (.if_icmp .ge 95, 3) := by decide +kernel
theorem dX12_tent_16 : decode cX12_tent 16 = .ok (.iload_n 1, 1) := by decide +kernel
theorem dX12_tent_17 : decode cX12_tent 17 = .ok (.invokestatic 200, 3) := by decide +kernel
theorem dX12_tent_20 : decode cX12_tent 20 = .ok (.iconst 2, 1) := by decide +kernel
theorem dX12_tent_21 : decode cX12_tent 21 = .ok (.if_icmp .ge 7, 3) := by decide +kernel
theorem dX12_tent_24 : decode cX12_tent 24 = .ok (.iconst 0, 1) := by decide +kernel
theorem dX12_tent_25 : decode cX12_tent 25 = .ok (.goto 6, 3) := by decide +kernel
theorem dX12_tent_28 : decode cX12_tent 28 = .ok (.ldc_w 260, 3) := by decide +kernel
theorem dX12_tent_31 : decode cX12_tent 31 = .ok (.istore_n 2, 1) := by decide +kernel
theorem dX12_tent_32 : decode cX12_tent 32 = .ok (.iload_n 1, 1) := by decide +kernel
theorem dX12_tent_33 : decode cX12_tent 33 = .ok (.istore_n 3, 1) := by decide +kernel
theorem dX12_tent_34 : decode cX12_tent 34 = .ok (.iload_n 3, 1) := by decide +kernel
theorem dX12_tent_35 : decode cX12_tent 35 = .ok (.ifCond .le 60, 3) := by decide +kernel
theorem dX12_tent_38 : decode cX12_tent 38 = .ok (.aload_n 0, 1) := by decide +kernel
theorem dX12_tent_39 : decode cX12_tent 39 = .ok (.getfield 53, 3) := by decide +kernel
theorem dX12_tent_42 : decode cX12_tent 42 = .ok (.iload_n 3, 1) := by decide +kernel
theorem dX12_tent_43 : decode cX12_tent 43 = .ok (.iaload, 1) := by decide +kernel
theorem dX12_tent_44 : decode cX12_tent 44 = .ok (.istore 4, 2) := by decide +kernel
theorem dX12_tent_46 : decode cX12_tent 46 = .ok (.iload 4, 2) := by decide +kernel
theorem dX12_tent_48 : decode cX12_tent 48 = .ok (.ifCond .le 36, 3) := by decide +kernel
theorem dX12_tent_51 : decode cX12_tent 51 = .ok (.iload 4, 2) := by decide +kernel
theorem dX12_tent_53 : decode cX12_tent 53 = .ok (.aload_n 0, 1) := by decide +kernel
theorem dX12_tent_54 : decode cX12_tent 54 = .ok (.getfield 56, 3) := by decide +kernel
theorem dX12_tent_57 : decode cX12_tent 57 = .ok (.iload_n 1, 1) := by decide +kernel
theorem dX12_tent_58 : decode cX12_tent 58 = .ok (.iload_n 3, 1) := by decide +kernel
theorem dX12_tent_59 : decode cX12_tent 59 = .ok (.iconst (-1), 1) := by decide +kernel
theorem dX12_tent_60 : decode cX12_tent 60 = .ok (.ixor, 1) := by decide +kernel
theorem dX12_tent_61 : decode cX12_tent 61 = .ok (.iand, 1) := by decide +kernel
theorem dX12_tent_62 : decode cX12_tent 62 = .ok (.iaload, 1) := by decide +kernel
theorem dX12_tent_63 : decode cX12_tent 63 = .ok (.iadd, 1) := by decide +kernel
theorem dX12_tent_64 : decode cX12_tent 64 = .ok (.iload_n 2, 1) := by decide +kernel
theorem dX12_tent_65 : decode cX12_tent 65 = .ok (.if_icmp .ge 19, 3) := by decide +kernel
theorem dX12_tent_68 : decode cX12_tent 68 = .ok (.iload 4, 2) := by decide +kernel
theorem dX12_tent_70 : decode cX12_tent 70 = .ok (.aload_n 0, 1) := by decide +kernel
theorem dX12_tent_71 : decode cX12_tent 71 = .ok (.getfield 56, 3) := by decide +kernel
theorem dX12_tent_74 : decode cX12_tent 74 = .ok (.iload_n 1, 1) := by decide +kernel
theorem dX12_tent_75 : decode cX12_tent 75 = .ok (.iload_n 3, 1) := by decide +kernel
theorem dX12_tent_76 : decode cX12_tent 76 = .ok (.iconst (-1), 1) := by decide +kernel
theorem dX12_tent_77 : decode cX12_tent 77 = .ok (.ixor, 1) := by decide +kernel
theorem dX12_tent_78 : decode cX12_tent 78 = .ok (.iand, 1) := by decide +kernel
theorem dX12_tent_79 : decode cX12_tent 79 = .ok (.iaload, 1) := by decide +kernel
theorem dX12_tent_80 : decode cX12_tent 80 = .ok (.iadd, 1) := by decide +kernel
theorem dX12_tent_81 : decode cX12_tent 81 = .ok (.goto 4, 3) := by decide +kernel
theorem dX12_tent_84 : decode cX12_tent 84 = .ok (.iload_n 2, 1) := by decide +kernel
theorem dX12_tent_85 : decode cX12_tent 85 = .ok (.istore_n 2, 1) := by decide +kernel
theorem dX12_tent_86 : decode cX12_tent 86 = .ok (.iload_n 3, 1) := by decide +kernel
theorem dX12_tent_87 : decode cX12_tent 87 = .ok (.iconst 1, 1) := by decide +kernel
theorem dX12_tent_88 : decode cX12_tent 88 = .ok (.isub, 1) := by decide +kernel
theorem dX12_tent_89 : decode cX12_tent 89 = .ok (.iload_n 1, 1) := by decide +kernel
theorem dX12_tent_90 : decode cX12_tent 90 = .ok (.iand, 1) := by decide +kernel
theorem dX12_tent_91 : decode cX12_tent 91 = .ok (.istore_n 3, 1) := by decide +kernel
theorem dX12_tent_92 : decode cX12_tent 92 = .ok (.goto (-58), 3) := by decide +kernel
theorem dX12_tent_95 : decode cX12_tent 95 = .ok (.aload_n 0, 1) := by decide +kernel
theorem dX12_tent_96 : decode cX12_tent 96 = .ok (.getfield 56, 3) := by decide +kernel
theorem dX12_tent_99 : decode cX12_tent 99 = .ok (.iload_n 1, 1) := by decide +kernel
theorem dX12_tent_100 : decode cX12_tent 100 = .ok (.iload_n 2, 1) := by decide +kernel
theorem dX12_tent_101 : decode cX12_tent 101 = .ok (.iastore, 1) := by decide +kernel
theorem dX12_tent_102 : decode cX12_tent 102 = .ok (.iinc 1 1, 3) := by decide +kernel
theorem dX12_tent_105 : decode cX12_tent 105 = .ok (.goto (-99), 3) := by decide +kernel
theorem dX12_tent_108 : decode cX12_tent 108 = .ok (.aload_n 0, 1) := by decide +kernel
theorem dX12_tent_109 : decode cX12_tent 109 = .ok (.getfield 56, 3) := by decide +kernel
theorem dX12_tent_112 : decode cX12_tent 112 = .ok (.aload_n 0, 1) := by decide +kernel
theorem dX12_tent_113 : decode cX12_tent 113 = .ok (.getfield 224, 3) := by decide +kernel
theorem dX12_tent_116 : decode cX12_tent 116 = .ok (.iaload, 1) := by decide +kernel
theorem dX12_tent_117 : decode cX12_tent 117 = .ok (.ireturn, 1) := by decide +kernel
theorem dX12_seed_0 : decode cX12_seed 0 = .ok (.aload_n 0, 1) := by decide +kernel
theorem dX12_seed_1 : decode cX12_seed 1 = .ok (.getfield 31, 3) := by decide +kernel
theorem dX12_seed_4 : decode cX12_seed 4 = .ok (.istore_n 2, 1) := by decide +kernel
theorem dX12_seed_5 : decode cX12_seed 5 = .ok (.aload_n 0, 1) := by decide +kernel
theorem dX12_seed_6 : decode cX12_seed 6 = .ok (.iload_n 1, 1) := by decide +kernel
theorem dX12_seed_7 : decode cX12_seed 7 = .ok (.putfield 31, 3) := by decide +kernel
theorem dX12_seed_10 : decode cX12_seed 10 = .ok (.iload_n 2, 1) := by decide +kernel
theorem dX12_seed_11 : decode cX12_seed 11 = .ok (.ireturn, 1) := by decide +kernel
theorem dX12_draw_0 : decode cX12_draw 0 = .ok (.aload_n 0, 1) := by decide +kernel
theorem dX12_draw_1 : decode cX12_draw 1 = .ok (.getfield 224, 3) := by decide +kernel
theorem dX12_draw_4 : decode cX12_draw 4 = .ok (.ifCond .ne 6, 3) := by decide +kernel
theorem dX12_draw_7 : decode cX12_draw 7 = .ok (.bipush (-3), 2) := by decide +kernel
theorem dX12_draw_9 : decode cX12_draw 9 = .ok (.ireturn, 1) := by decide +kernel
theorem dX12_draw_10 : decode cX12_draw 10 = .ok (.aload_n 0, 1) := by decide +kernel
theorem dX12_draw_11 : decode cX12_draw 11 = .ok (.aload_n 0, 1) := by decide +kernel
theorem dX12_draw_12 : decode cX12_draw 12 = .ok (.getfield 31, 3) := by decide +kernel
theorem dX12_draw_15 : decode cX12_draw 15 = .ok (.ldc_w 302, 3) := by decide +kernel
theorem dX12_draw_18 : decode cX12_draw 18 = .ok (.imul, 1) := by decide +kernel
theorem dX12_draw_19 : decode cX12_draw 19 = .ok (.sipush 12345, 3) := by decide +kernel
theorem dX12_draw_22 : decode cX12_draw 22 = .ok (.iadd, 1) := by decide +kernel
theorem dX12_draw_23 : decode cX12_draw 23 = .ok (.putfield 31, 3) := by decide +kernel
theorem dX12_draw_26 : decode cX12_draw 26 = .ok (.aload_n 0, 1) := by decide +kernel
theorem dX12_draw_27 : decode cX12_draw 27 = .ok (.getfield 31, 3) := by decide +kernel
theorem dX12_draw_30 : decode cX12_draw 30 = .ok (.bipush 16, 2) := by decide +kernel
theorem dX12_draw_32 : decode cX12_draw 32 = .ok (.iushr, 1) := by decide +kernel
theorem dX12_draw_33 : decode cX12_draw 33 = .ok (.aload_n 0, 1) := by decide +kernel
theorem dX12_draw_34 : decode cX12_draw 34 = .ok (.getfield 224, 3) := by decide +kernel
theorem dX12_draw_37 : decode cX12_draw 37 = .ok (.invokestatic 200, 3) := by decide +kernel
theorem dX12_draw_40 : decode cX12_draw 40 = .ok (.irem, 1) := by decide +kernel
theorem dX12_draw_41 : decode cX12_draw 41 = .ok (.istore_n 1, 1) := by decide +kernel
theorem dX12_draw_42 : decode cX12_draw 42 = .ok (.iconst 0, 1) := by decide +kernel
theorem dX12_draw_43 : decode cX12_draw 43 = .ok (.istore_n 2, 1) := by decide +kernel
theorem dX12_draw_44 : decode cX12_draw 44 = .ok (.aload_n 0, 1) := by decide +kernel
theorem dX12_draw_45 : decode cX12_draw 45 = .ok (.getfield 224, 3) := by decide +kernel
theorem dX12_draw_48 : decode cX12_draw 48 = .ok (.iload_n 2, 1) := by decide +kernel
theorem dX12_draw_49 : decode cX12_draw 49 = .ok (.invokestatic 196, 3) := by decide +kernel
theorem dX12_draw_52 : decode cX12_draw 52 = .ok (.ifCond .eq 7, 3) := by decide +kernel
theorem dX12_draw_55 : decode cX12_draw 55 = .ok (.iload_n 1, 1) := by decide +kernel
theorem dX12_draw_56 : decode cX12_draw 56 = .ok (.ifCond .le 20, 3) := by decide +kernel
theorem dX12_draw_59 : decode cX12_draw 59 = .ok (.iload_n 1, 1) := by decide +kernel
theorem dX12_draw_60 : decode cX12_draw 60 = .ok (.aload_n 0, 1) := by decide +kernel
theorem dX12_draw_61 : decode cX12_draw 61 = .ok (.getfield 224, 3) := by decide +kernel
theorem dX12_draw_64 : decode cX12_draw 64 = .ok (.iload_n 2, 1) := by decide +kernel
theorem dX12_draw_65 : decode cX12_draw 65 = .ok (.ishr, 1) := by decide +kernel
theorem dX12_draw_66 : decode cX12_draw 66 = .ok (.iconst 1, 1) := by decide +kernel
theorem dX12_draw_67 : decode cX12_draw 67 = .ok (.iand, 1) := by decide +kernel
theorem dX12_draw_68 : decode cX12_draw 68 = .ok (.isub, 1) := by decide +kernel
theorem dX12_draw_69 : decode cX12_draw 69 = .ok (.istore_n 1, 1) := by decide +kernel
theorem dX12_draw_70 : decode cX12_draw 70 = .ok (.iinc 2 1, 3) := by decide +kernel
theorem dX12_draw_73 : decode cX12_draw 73 = .ok (.goto (-29), 3) := by decide +kernel
theorem dX12_draw_76 : decode cX12_draw 76 = .ok (.iload_n 2, 1) := by decide +kernel
theorem dX12_draw_77 : decode cX12_draw 77 = .ok (.ireturn, 1) := by decide +kernel
theorem dX12_prove_0 : decode cX12_prove 0 = .ok (.aload_n 0, 1) := by decide +kernel
theorem dX12_prove_1 : decode cX12_prove 1 = .ok (.invokevirtual 298, 3) := by decide +kernel
theorem dX12_prove_4 : decode cX12_prove 4 = .ok (.ifCond .ne 6, 3) := by decide +kernel
theorem dX12_prove_7 : decode cX12_prove 7 = .ok (.bipush (-3), 2) := by decide +kernel
theorem dX12_prove_9 : decode cX12_prove 9 = .ok (.ireturn, 1) := by decide +kernel
theorem dX12_prove_10 : decode cX12_prove 10 = .ok (.aload_n 0, 1) := by decide +kernel
theorem dX12_prove_11 : decode cX12_prove 11 = .ok (.aload_n 0, 1) := by decide +kernel
theorem dX12_prove_12 : decode cX12_prove 12 = .ok (.getfield 286, 3) := by decide +kernel
theorem dX12_prove_15 : decode cX12_prove 15 = .ok (.putfield 230, 3) := by decide +kernel
theorem dX12_prove_18 : decode cX12_prove 18 = .ok (.aload_n 0, 1) := by decide +kernel
theorem dX12_prove_19 : decode cX12_prove 19 = .ok (.getfield 227, 3) := by decide +kernel
theorem dX12_prove_22 : decode cX12_prove 22 = .ok (.istore_n 1, 1) := by decide +kernel
theorem dX12_prove_23 : decode cX12_prove 23 = .ok (.iconst 0, 1) := by decide +kernel
theorem dX12_prove_24 : decode cX12_prove 24 = .ok (.istore_n 2, 1) := by decide +kernel
theorem dX12_prove_25 : decode cX12_prove 25 = .ok (.iload_n 2, 1) := by decide +kernel
theorem dX12_prove_26 : decode cX12_prove 26 = .ok (.aload_n 0, 1) := by decide +kernel
theorem dX12_prove_27 : decode cX12_prove 27 = .ok (.getfield 286, 3) := by decide +kernel
theorem dX12_prove_30 : decode cX12_prove 30 = .ok (.if_icmp .ge 64, 3) := by decide +kernel
theorem dX12_prove_33 : decode cX12_prove 33 = .ok (.iload_n 1, 1) := by decide +kernel
theorem dX12_prove_34 : decode cX12_prove 34 = .ok (.aload_n 0, 1) := by decide +kernel
theorem dX12_prove_35 : decode cX12_prove 35 = .ok (.getfield 53, 3) := by decide +kernel
theorem dX12_prove_38 : decode cX12_prove 38 = .ok (.aload_n 0, 1) := by decide +kernel
theorem dX12_prove_39 : decode cX12_prove 39 = .ok (.getfield 71, 3) := by decide +kernel
theorem dX12_prove_42 : decode cX12_prove 42 = .ok (.iload_n 2, 1) := by decide +kernel
theorem dX12_prove_43 : decode cX12_prove 43 = .ok (.iaload, 1) := by decide +kernel
theorem dX12_prove_44 : decode cX12_prove 44 = .ok (.iaload, 1) := by decide +kernel
theorem dX12_prove_45 : decode cX12_prove 45 = .ok (.iadd, 1) := by decide +kernel
theorem dX12_prove_46 : decode cX12_prove 46 = .ok (.istore_n 1, 1) := by decide +kernel
theorem dX12_prove_47 : decode cX12_prove 47 = .ok (.aload_n 0, 1) := by decide +kernel
theorem dX12_prove_48 : decode cX12_prove 48 = .ok (.getfield 74, 3) := by decide +kernel
theorem dX12_prove_51 : decode cX12_prove 51 = .ok (.iconst 3, 1) := by decide +kernel
theorem dX12_prove_52 : decode cX12_prove 52 = .ok (.iload_n 2, 1) := by decide +kernel
theorem dX12_prove_53 : decode cX12_prove 53 = .ok (.imul, 1) := by decide +kernel
theorem dX12_prove_54 : decode cX12_prove 54 = .ok (.aload_n 0, 1) := by decide +kernel
theorem dX12_prove_55 : decode cX12_prove 55 = .ok (.getfield 68, 3) := by decide +kernel
theorem dX12_prove_58 : decode cX12_prove 58 = .ok (.iload_n 2, 1) := by decide +kernel
theorem dX12_prove_59 : decode cX12_prove 59 = .ok (.iaload, 1) := by decide +kernel
theorem dX12_prove_60 : decode cX12_prove 60 = .ok (.iastore, 1) := by decide +kernel
theorem dX12_prove_61 : decode cX12_prove 61 = .ok (.aload_n 0, 1) := by decide +kernel
theorem dX12_prove_62 : decode cX12_prove 62 = .ok (.getfield 74, 3) := by decide +kernel
theorem dX12_prove_65 : decode cX12_prove 65 = .ok (.iconst 3, 1) := by decide +kernel
theorem dX12_prove_66 : decode cX12_prove 66 = .ok (.iload_n 2, 1) := by decide +kernel
theorem dX12_prove_67 : decode cX12_prove 67 = .ok (.imul, 1) := by decide +kernel
theorem dX12_prove_68 : decode cX12_prove 68 = .ok (.iconst 1, 1) := by decide +kernel
theorem dX12_prove_69 : decode cX12_prove 69 = .ok (.iadd, 1) := by decide +kernel
theorem dX12_prove_70 : decode cX12_prove 70 = .ok (.aload_n 0, 1) := by decide +kernel
theorem dX12_prove_71 : decode cX12_prove 71 = .ok (.getfield 71, 3) := by decide +kernel
theorem dX12_prove_74 : decode cX12_prove 74 = .ok (.iload_n 2, 1) := by decide +kernel
theorem dX12_prove_75 : decode cX12_prove 75 = .ok (.iaload, 1) := by decide +kernel
theorem dX12_prove_76 : decode cX12_prove 76 = .ok (.iastore, 1) := by decide +kernel
theorem dX12_prove_77 : decode cX12_prove 77 = .ok (.aload_n 0, 1) := by decide +kernel
theorem dX12_prove_78 : decode cX12_prove 78 = .ok (.getfield 74, 3) := by decide +kernel
theorem dX12_prove_81 : decode cX12_prove 81 = .ok (.iconst 3, 1) := by decide +kernel
theorem dX12_prove_82 : decode cX12_prove 82 = .ok (.iload_n 2, 1) := by decide +kernel
theorem dX12_prove_83 : decode cX12_prove 83 = .ok (.imul, 1) := by decide +kernel
theorem dX12_prove_84 : decode cX12_prove 84 = .ok (.iconst 2, 1) := by decide +kernel
theorem dX12_prove_85 : decode cX12_prove 85 = .ok (.iadd, 1) := by decide +kernel
theorem dX12_prove_86 : decode cX12_prove 86 = .ok (.iload_n 1, 1) := by decide +kernel
theorem dX12_prove_87 : decode cX12_prove 87 = .ok (.iastore, 1) := by decide +kernel
theorem dX12_prove_88 : decode cX12_prove 88 = .ok (.iinc 2 1, 3) := by decide +kernel
theorem dX12_prove_91 : decode cX12_prove 91 = .ok (.goto (-66), 3) := by decide +kernel
theorem dX12_prove_94 : decode cX12_prove 94 = .ok (.aload_n 0, 1) := by decide +kernel
theorem dX12_prove_95 : decode cX12_prove 95 = .ok (.getfield 230, 3) := by decide +kernel
theorem dX12_prove_98 : decode cX12_prove 98 = .ok (.ireturn, 1) := by decide +kernel
theorem dX12_isRow_0 : decode cX12_isRow 0 = .ok (.iload_n 1, 1) := by decide +kernel
theorem dX12_isRow_1 : decode cX12_isRow 1 = .ok (.iconst 0, 1) := by decide +kernel
theorem dX12_isRow_2 : decode cX12_isRow 2 = .ok (.aload_n 0, 1) := by decide +kernel
theorem dX12_isRow_3 : decode cX12_isRow 3 = .ok (.getfield 230, 3) := by decide +kernel
theorem dX12_isRow_6 : decode cX12_isRow 6 = .ok (.iconst 1, 1) := by decide +kernel
theorem dX12_isRow_7 : decode cX12_isRow 7 = .ok (.isub, 1) := by decide +kernel
theorem dX12_isRow_8 : decode cX12_isRow 8 = .ok (.invokestatic 108, 3) := by decide +kernel
theorem dX12_isRow_11 : decode cX12_isRow 11 = .ok (.ifCond .eq 16, 3) := by decide +kernel
theorem dX12_isRow_14 : decode cX12_isRow 14 = .ok (.iload_n 2, 1) := by decide +kernel
theorem dX12_isRow_15 : decode cX12_isRow 15 = .ok (.iconst 0, 1) := by decide +kernel
theorem dX12_isRow_16 : decode cX12_isRow 16 = .ok (.iconst 2, 1) := by decide +kernel
theorem dX12_isRow_17 : decode cX12_isRow 17 = .ok (.invokestatic 108, 3) := by decide +kernel
theorem dX12_isRow_20 : decode cX12_isRow 20 = .ok (.ifCond .eq 7, 3) := by decide +kernel
theorem dX12_isRow_23 : decode cX12_isRow 23 = .ok (.iconst 1, 1) := by decide +kernel
theorem dX12_isRow_24 : decode cX12_isRow 24 = .ok (.goto 4, 3) := by decide +kernel
theorem dX12_isRow_27 : decode cX12_isRow 27 = .ok (.iconst 0, 1) := by decide +kernel
theorem dX12_isRow_28 : decode cX12_isRow 28 = .ok (.ireturn, 1) := by decide +kernel
theorem dX12_row_0 : decode cX12_row 0 = .ok (.aload_n 0, 1) := by decide +kernel
theorem dX12_row_1 : decode cX12_row 1 = .ok (.iload_n 1, 1) := by decide +kernel
theorem dX12_row_2 : decode cX12_row 2 = .ok (.iload_n 2, 1) := by decide +kernel
theorem dX12_row_3 : decode cX12_row 3 = .ok (.invokevirtual 303, 3) := by decide +kernel
theorem dX12_row_6 : decode cX12_row 6 = .ok (.ifCond .eq 16, 3) := by decide +kernel
theorem dX12_row_9 : decode cX12_row 9 = .ok (.aload_n 0, 1) := by decide +kernel
theorem dX12_row_10 : decode cX12_row 10 = .ok (.getfield 74, 3) := by decide +kernel
theorem dX12_row_13 : decode cX12_row 13 = .ok (.iconst 3, 1) := by decide +kernel
theorem dX12_row_14 : decode cX12_row 14 = .ok (.iload_n 1, 1) := by decide +kernel
theorem dX12_row_15 : decode cX12_row 15 = .ok (.imul, 1) := by decide +kernel
theorem dX12_row_16 : decode cX12_row 16 = .ok (.iload_n 2, 1) := by decide +kernel
theorem dX12_row_17 : decode cX12_row 17 = .ok (.iadd, 1) := by decide +kernel
theorem dX12_row_18 : decode cX12_row 18 = .ok (.iaload, 1) := by decide +kernel
theorem dX12_row_19 : decode cX12_row 19 = .ok (.goto 5, 3) := by decide +kernel
theorem dX12_row_22 : decode cX12_row 22 = .ok (.bipush (-9), 2) := by decide +kernel
theorem dX12_row_24 : decode cX12_row 24 = .ok (.ireturn, 1) := by decide +kernel
theorem dX12_alterRow_0 : decode cX12_alterRow 0 = .ok (.aload_n 0, 1) := by decide +kernel
theorem dX12_alterRow_1 : decode cX12_alterRow 1 = .ok (.iload_n 1, 1) := by decide +kernel
theorem dX12_alterRow_2 : decode cX12_alterRow 2 = .ok (.iload_n 2, 1) := by decide +kernel
theorem dX12_alterRow_3 : decode cX12_alterRow 3 = .ok (.invokevirtual 303, 3) := by decide +kernel
theorem dX12_alterRow_6 : decode cX12_alterRow 6 = .ok (.ifCond .ne 6, 3) := by decide +kernel
theorem dX12_alterRow_9 : decode cX12_alterRow 9 = .ok (.bipush (-9), 2) := by decide +kernel
theorem dX12_alterRow_11 : decode cX12_alterRow 11 = .ok (.ireturn, 1) := by decide +kernel
theorem dX12_alterRow_12 : decode cX12_alterRow 12 = .ok (.aload_n 0, 1) := by decide +kernel
theorem dX12_alterRow_13 : decode cX12_alterRow 13 = .ok (.getfield 74, 3) := by decide +kernel
theorem dX12_alterRow_16 : decode cX12_alterRow 16 = .ok (.iconst 3, 1) := by decide +kernel
theorem dX12_alterRow_17 : decode cX12_alterRow 17 = .ok (.iload_n 1, 1) := by decide +kernel
theorem dX12_alterRow_18 : decode cX12_alterRow 18 = .ok (.imul, 1) := by decide +kernel
theorem dX12_alterRow_19 : decode cX12_alterRow 19 = .ok (.iload_n 2, 1) := by decide +kernel
theorem dX12_alterRow_20 : decode cX12_alterRow 20 = .ok (.iadd, 1) := by decide +kernel
theorem dX12_alterRow_21 : decode cX12_alterRow 21 = .ok (.iaload, 1) := by decide +kernel
theorem dX12_alterRow_22 : decode cX12_alterRow 22 = .ok (.istore 4, 2) := by decide +kernel
theorem dX12_alterRow_24 : decode cX12_alterRow 24 = .ok (.aload_n 0, 1) := by decide +kernel
theorem dX12_alterRow_25 : decode cX12_alterRow 25 = .ok (.getfield 74, 3) := by decide +kernel
theorem dX12_alterRow_28 : decode cX12_alterRow 28 = .ok (.iconst 3, 1) := by decide +kernel
theorem dX12_alterRow_29 : decode cX12_alterRow 29 = .ok (.iload_n 1, 1) := by decide +kernel
theorem dX12_alterRow_30 : decode cX12_alterRow 30 = .ok (.imul, 1) := by decide +kernel
theorem dX12_alterRow_31 : decode cX12_alterRow 31 = .ok (.iload_n 2, 1) := by decide +kernel
theorem dX12_alterRow_32 : decode cX12_alterRow 32 = .ok (.iadd, 1) := by decide +kernel
theorem dX12_alterRow_33 : decode cX12_alterRow 33 = .ok (.iload_n 3, 1) := by decide +kernel
theorem dX12_alterRow_34 : decode cX12_alterRow 34 = .ok (.iastore, 1) := by decide +kernel
theorem dX12_alterRow_35 : decode cX12_alterRow 35 = .ok (.iload 4, 2) := by decide +kernel
theorem dX12_alterRow_37 : decode cX12_alterRow 37 = .ok (.ireturn, 1) := by decide +kernel
theorem dX12_judge_0 : decode cX12_judge 0 = .ok (.aload_n 0, 1) := by decide +kernel
theorem dX12_judge_1 : decode cX12_judge 1 = .ok (.getfield 224, 3) := by decide +kernel
theorem dX12_judge_4 : decode cX12_judge 4 = .ok (.istore_n 1, 1) := by decide +kernel
theorem dX12_judge_5 : decode cX12_judge 5 = .ok (.aload_n 0, 1) := by decide +kernel
theorem dX12_judge_6 : decode cX12_judge 6 = .ok (.getfield 227, 3) := by decide +kernel
theorem dX12_judge_9 : decode cX12_judge 9 = .ok (.istore_n 2, 1) := by decide +kernel
theorem dX12_judge_10 : decode cX12_judge 10 = .ok (.iconst 0, 1) := by decide +kernel
theorem dX12_judge_11 : decode cX12_judge 11 = .ok (.istore_n 3, 1) := by decide +kernel
theorem dX12_judge_12 : decode cX12_judge 12 = .ok (.iload_n 3, 1) := by decide +kernel
theorem dX12_judge_13 : decode cX12_judge 13 = .ok (.aload_n 0, 1) := by decide +kernel
theorem dX12_judge_14 : decode cX12_judge 14 = .ok (.getfield 230, 3) := by decide +kernel
theorem dX12_judge_17 : decode cX12_judge 17 = .ok (.if_icmp .ge 130, 3) := by decide +kernel
theorem dX12_judge_20 : decode cX12_judge 20 = .ok (.aload_n 0, 1) := by decide +kernel
theorem dX12_judge_21 : decode cX12_judge 21 = .ok (.getfield 74, 3) := by decide +kernel
theorem dX12_judge_24 : decode cX12_judge 24 = .ok (.iconst 3, 1) := by decide +kernel
theorem dX12_judge_25 : decode cX12_judge 25 = .ok (.iload_n 3, 1) := by decide +kernel
theorem dX12_judge_26 : decode cX12_judge 26 = .ok (.imul, 1) := by decide +kernel
theorem dX12_judge_27 : decode cX12_judge 27 = .ok (.iaload, 1) := by decide +kernel
theorem dX12_judge_28 : decode cX12_judge 28 = .ok (.istore 4, 2) := by decide +kernel
theorem dX12_judge_30 : decode cX12_judge 30 = .ok (.aload_n 0, 1) := by decide +kernel
theorem dX12_judge_31 : decode cX12_judge 31 = .ok (.getfield 74, 3) := by decide +kernel
theorem dX12_judge_34 : decode cX12_judge 34 = .ok (.iconst 3, 1) := by decide +kernel
theorem dX12_judge_35 : decode cX12_judge 35 = .ok (.iload_n 3, 1) := by decide +kernel
theorem dX12_judge_36 : decode cX12_judge 36 = .ok (.imul, 1) := by decide +kernel
theorem dX12_judge_37 : decode cX12_judge 37 = .ok (.iconst 1, 1) := by decide +kernel
theorem dX12_judge_38 : decode cX12_judge 38 = .ok (.iadd, 1) := by decide +kernel
theorem dX12_judge_39 : decode cX12_judge 39 = .ok (.iaload, 1) := by decide +kernel
theorem dX12_judge_40 : decode cX12_judge 40 = .ok (.istore 5, 2) := by decide +kernel
theorem dX12_judge_42 : decode cX12_judge 42 = .ok (.iload_n 1, 1) := by decide +kernel
theorem dX12_judge_43 : decode cX12_judge 43 = .ok (.invokestatic 200, 3) := by decide +kernel
theorem dX12_judge_46 : decode cX12_judge 46 = .ok (.iconst 1, 1) := by decide +kernel
theorem dX12_judge_47 : decode cX12_judge 47 = .ok (.if_icmp .le 43, 3) := by decide +kernel
theorem dX12_judge_50 : decode cX12_judge 50 = .ok (.aload_n 0, 1) := by decide +kernel
theorem dX12_judge_51 : decode cX12_judge 51 = .ok (.iload 4, 2) := by decide +kernel
theorem dX12_judge_53 : decode cX12_judge 53 = .ok (.iload 5, 2) := by decide +kernel
theorem dX12_judge_55 : decode cX12_judge 55 = .ok (.invokevirtual 243, 3) := by decide +kernel
theorem dX12_judge_58 : decode cX12_judge 58 = .ok (.ifCond .eq 32, 3) := by decide +kernel
theorem dX12_judge_61 : decode cX12_judge 61 = .ok (.aload_n 0, 1) := by decide +kernel
theorem dX12_judge_62 : decode cX12_judge 62 = .ok (.aload_n 0, 1) := by decide +kernel
theorem dX12_judge_63 : decode cX12_judge 63 = .ok (.iload 4, 2) := by decide +kernel
theorem dX12_judge_65 : decode cX12_judge 65 = .ok (.invokevirtual 233, 3) := by decide +kernel
theorem dX12_judge_68 : decode cX12_judge 68 = .ok (.ifCond .eq 8, 3) := by decide +kernel
theorem dX12_judge_71 : decode cX12_judge 71 = .ok (.iload 4, 2) := by decide +kernel
theorem dX12_judge_73 : decode cX12_judge 73 = .ok (.goto 4, 3) := by decide +kernel
theorem dX12_judge_76 : decode cX12_judge 76 = .ok (.iconst 0, 1) := by decide +kernel
theorem dX12_judge_77 : decode cX12_judge 77 = .ok (.iload 5, 2) := by decide +kernel
theorem dX12_judge_79 : decode cX12_judge 79 = .ok (.iload_n 1, 1) := by decide +kernel
theorem dX12_judge_80 : decode cX12_judge 80 = .ok (.invokevirtual 246, 3) := by decide +kernel
theorem dX12_judge_83 : decode cX12_judge 83 = .ok (.ifCond .eq 7, 3) := by decide +kernel
theorem dX12_judge_86 : decode cX12_judge 86 = .ok (.iconst 1, 1) := by decide +kernel
theorem dX12_judge_87 : decode cX12_judge 87 = .ok (.goto 4, 3) := by decide +kernel
theorem dX12_judge_90 : decode cX12_judge 90 = .ok (.iconst 0, 1) := by decide +kernel
theorem dX12_judge_91 : decode cX12_judge 91 = .ok (.istore 6, 2) := by decide +kernel
theorem dX12_judge_93 : decode cX12_judge 93 = .ok (.iload_n 2, 1) := by decide +kernel
theorem dX12_judge_94 : decode cX12_judge 94 = .ok (.iload 6, 2) := by decide +kernel
theorem dX12_judge_96 : decode cX12_judge 96 = .ok (.ifCond .eq 12, 3) := by decide +kernel
theorem dX12_judge_99 : decode cX12_judge 99 = .ok (.aload_n 0, 1) := by decide +kernel
theorem dX12_judge_100 : decode cX12_judge 100 = .ok (.iload 5, 2) := by decide +kernel
theorem dX12_judge_102 : decode cX12_judge 102 = .ok (.invokevirtual 240, 3) := by decide +kernel
theorem dX12_judge_105 : decode cX12_judge 105 = .ok (.goto 4, 3) := by decide +kernel
theorem dX12_judge_108 : decode cX12_judge 108 = .ok (.iconst 0, 1) := by decide +kernel
theorem dX12_judge_109 : decode cX12_judge 109 = .ok (.iadd, 1) := by decide +kernel
theorem dX12_judge_110 : decode cX12_judge 110 = .ok (.istore_n 2, 1) := by decide +kernel
theorem dX12_judge_111 : decode cX12_judge 111 = .ok (.iload 6, 2) := by decide +kernel
theorem dX12_judge_113 : decode cX12_judge 113 = .ok (.ifCond .eq 17, 3) := by decide +kernel
theorem dX12_judge_116 : decode cX12_judge 116 = .ok (.aload_n 0, 1) := by decide +kernel
theorem dX12_judge_117 : decode cX12_judge 117 = .ok (.getfield 74, 3) := by decide +kernel
theorem dX12_judge_120 : decode cX12_judge 120 = .ok (.iconst 3, 1) := by decide +kernel
theorem dX12_judge_121 : decode cX12_judge 121 = .ok (.iload_n 3, 1) := by decide +kernel
theorem dX12_judge_122 : decode cX12_judge 122 = .ok (.imul, 1) := by decide +kernel
theorem dX12_judge_123 : decode cX12_judge 123 = .ok (.iconst 2, 1) := by decide +kernel
theorem dX12_judge_124 : decode cX12_judge 124 = .ok (.iadd, 1) := by decide +kernel
theorem dX12_judge_125 : decode cX12_judge 125 = .ok (.iaload, 1) := by decide +kernel
theorem dX12_judge_126 : decode cX12_judge 126 = .ok (.iload_n 2, 1) := by decide +kernel
theorem dX12_judge_127 : decode cX12_judge 127 = .ok (.if_icmp .eq 7, 3) := by decide +kernel
theorem dX12_judge_130 : decode cX12_judge 130 = .ok (.iload_n 3, 1) := by decide +kernel
theorem dX12_judge_131 : decode cX12_judge 131 = .ok (.iconst 1, 1) := by decide +kernel
theorem dX12_judge_132 : decode cX12_judge 132 = .ok (.iadd, 1) := by decide +kernel
theorem dX12_judge_133 : decode cX12_judge 133 = .ok (.ireturn, 1) := by decide +kernel
theorem dX12_judge_134 : decode cX12_judge 134 = .ok (.iload_n 1, 1) := by decide +kernel
theorem dX12_judge_135 : decode cX12_judge 135 = .ok (.iload 5, 2) := by decide +kernel
theorem dX12_judge_137 : decode cX12_judge 137 = .ok (.iconst (-1), 1) := by decide +kernel
theorem dX12_judge_138 : decode cX12_judge 138 = .ok (.ixor, 1) := by decide +kernel
theorem dX12_judge_139 : decode cX12_judge 139 = .ok (.iand, 1) := by decide +kernel
theorem dX12_judge_140 : decode cX12_judge 140 = .ok (.istore_n 1, 1) := by decide +kernel
theorem dX12_judge_141 : decode cX12_judge 141 = .ok (.iinc 3 1, 3) := by decide +kernel
theorem dX12_judge_144 : decode cX12_judge 144 = .ok (.goto (-132), 3) := by decide +kernel
theorem dX12_judge_147 : decode cX12_judge 147 = .ok (.iload_n 1, 1) := by decide +kernel
theorem dX12_judge_148 : decode cX12_judge 148 = .ok (.invokestatic 200, 3) := by decide +kernel
theorem dX12_judge_151 : decode cX12_judge 151 = .ok (.iconst 1, 1) := by decide +kernel
theorem dX12_judge_152 : decode cX12_judge 152 = .ok (.if_icmp .le 9, 3) := by decide +kernel
theorem dX12_judge_155 : decode cX12_judge 155 = .ok (.sipush 222, 3) := by decide +kernel
theorem dX12_judge_158 : decode cX12_judge 158 = .ok (.goto 4, 3) := by decide +kernel
theorem dX12_judge_161 : decode cX12_judge 161 = .ok (.iconst 0, 1) := by decide +kernel
theorem dX12_judge_162 : decode cX12_judge 162 = .ok (.ireturn, 1) := by decide +kernel
theorem dX12_ages_0 : decode cX12_ages 0 = .ok (.iload_n 1, 1) := by decide +kernel
theorem dX12_ages_1 : decode cX12_ages 1 = .ok (.invokestatic 306, 3) := by decide +kernel
theorem dX12_ages_4 : decode cX12_ages 4 = .ok (.ifCond .eq 33, 3) := by decide +kernel
theorem dX12_ages_7 : decode cX12_ages 7 = .ok (.aload_n 0, 1) := by decide +kernel
theorem dX12_ages_8 : decode cX12_ages 8 = .ok (.iload_n 3, 1) := by decide +kernel
theorem dX12_ages_9 : decode cX12_ages 9 = .ok (.invokevirtual 233, 3) := by decide +kernel
theorem dX12_ages_12 : decode cX12_ages 12 = .ok (.ifCond .eq 25, 3) := by decide +kernel
theorem dX12_ages_15 : decode cX12_ages 15 = .ok (.iload 4, 2) := by decide +kernel
theorem dX12_ages_17 : decode cX12_ages 17 = .ok (.iconst 0, 1) := by decide +kernel
theorem dX12_ages_18 : decode cX12_ages 18 = .ok (.bipush 8, 2) := by decide +kernel
theorem dX12_ages_20 : decode cX12_ages 20 = .ok (.invokestatic 108, 3) := by decide +kernel
theorem dX12_ages_23 : decode cX12_ages 23 = .ok (.ifCond .eq 14, 3) := by decide +kernel
theorem dX12_ages_26 : decode cX12_ages 26 = .ok (.iload_n 3, 1) := by decide +kernel
theorem dX12_ages_27 : decode cX12_ages 27 = .ok (.iload 4, 2) := by decide +kernel
theorem dX12_ages_29 : decode cX12_ages 29 = .ok (.iadd, 1) := by decide +kernel
theorem dX12_ages_30 : decode cX12_ages 30 = .ok (.aload_n 0, 1) := by decide +kernel
theorem dX12_ages_31 : decode cX12_ages 31 = .ok (.getfield 105, 3) := by decide +kernel
theorem dX12_ages_34 : decode cX12_ages 34 = .ok (.if_icmp .le 5, 3) := by decide +kernel
theorem dX12_ages_37 : decode cX12_ages 37 = .ok (.iconst (-1), 1) := by decide +kernel
theorem dX12_ages_38 : decode cX12_ages 38 = .ok (.ireturn, 1) := by decide +kernel
theorem dX12_ages_39 : decode cX12_ages 39 = .ok (.aload_n 0, 1) := by decide +kernel
theorem dX12_ages_40 : decode cX12_ages 40 = .ok (.iload_n 1, 1) := by decide +kernel
theorem dX12_ages_41 : decode cX12_ages 41 = .ok (.iconst 0, 1) := by decide +kernel
theorem dX12_ages_42 : decode cX12_ages 42 = .ok (.invokevirtual 309, 3) := by decide +kernel
theorem dX12_ages_45 : decode cX12_ages 45 = .ok (.istore 5, 2) := by decide +kernel
theorem dX12_ages_47 : decode cX12_ages 47 = .ok (.iload 5, 2) := by decide +kernel
theorem dX12_ages_49 : decode cX12_ages 49 = .ok (.ifCond .eq 6, 3) := by decide +kernel
theorem dX12_ages_52 : decode cX12_ages 52 = .ok (.iload 5, 2) := by decide +kernel
theorem dX12_ages_54 : decode cX12_ages 54 = .ok (.ireturn, 1) := by decide +kernel
theorem dX12_ages_55 : decode cX12_ages 55 = .ok (.iload_n 2, 1) := by decide +kernel
theorem dX12_ages_56 : decode cX12_ages 56 = .ok (.ifCond .lt 16, 3) := by decide +kernel
theorem dX12_ages_59 : decode cX12_ages 59 = .ok (.iload_n 2, 1) := by decide +kernel
theorem dX12_ages_60 : decode cX12_ages 60 = .ok (.aload_n 0, 1) := by decide +kernel
theorem dX12_ages_61 : decode cX12_ages 61 = .ok (.getfield 80, 3) := by decide +kernel
theorem dX12_ages_64 : decode cX12_ages 64 = .ok (.iload_n 1, 1) := by decide +kernel
theorem dX12_ages_65 : decode cX12_ages 65 = .ok (.iaload, 1) := by decide +kernel
theorem dX12_ages_66 : decode cX12_ages 66 = .ok (.iload 4, 2) := by decide +kernel
theorem dX12_ages_68 : decode cX12_ages 68 = .ok (.isub, 1) := by decide +kernel
theorem dX12_ages_69 : decode cX12_ages 69 = .ok (.if_icmp .le 6, 3) := by decide +kernel
theorem dX12_ages_72 : decode cX12_ages 72 = .ok (.bipush (-12), 2) := by decide +kernel
theorem dX12_ages_74 : decode cX12_ages 74 = .ok (.ireturn, 1) := by decide +kernel
theorem dX12_ages_75 : decode cX12_ages 75 = .ok (.iconst 0, 1) := by decide +kernel
theorem dX12_ages_76 : decode cX12_ages 76 = .ok (.istore 6, 2) := by decide +kernel
theorem dX12_ages_78 : decode cX12_ages 78 = .ok (.iload 6, 2) := by decide +kernel
theorem dX12_ages_80 : decode cX12_ages 80 = .ok (.iload 4, 2) := by decide +kernel
theorem dX12_ages_82 : decode cX12_ages 82 = .ok (.if_icmp .ge 62, 3) := by decide +kernel
theorem dX12_ages_85 : decode cX12_ages 85 = .ok (.aload_n 0, 1) := by decide +kernel
theorem dX12_ages_86 : decode cX12_ages 86 = .ok (.getfield 83, 3) := by decide +kernel
theorem dX12_ages_89 : decode cX12_ages 89 = .ok (.bipush 40, 2) := by decide +kernel
theorem dX12_ages_91 : decode cX12_ages 91 = .ok (.iload_n 1, 1) := by decide +kernel
theorem dX12_ages_92 : decode cX12_ages 92 = .ok (.imul, 1) := by decide +kernel
theorem dX12_ages_93 : decode cX12_ages 93 = .ok (.iload_n 2, 1) := by decide +kernel
theorem dX12_ages_94 : decode cX12_ages 94 = .ok (.iadd, 1) := by decide +kernel
theorem dX12_ages_95 : decode cX12_ages 95 = .ok (.iload 6, 2) := by decide +kernel
theorem dX12_ages_97 : decode cX12_ages 97 = .ok (.iadd, 1) := by decide +kernel
theorem dX12_ages_98 : decode cX12_ages 98 = .ok (.laload, 1) := by decide +kernel
theorem dX12_ages_99 : decode cX12_ages 99 = .ok (.lstore 7, 2) := by decide +kernel
theorem dX12_ages_101 : decode cX12_ages 101 = .ok (.aload_n 0, 1) := by decide +kernel
theorem dX12_ages_102 : decode cX12_ages 102 = .ok (.getfield 13, 3) := by decide +kernel
theorem dX12_ages_105 : decode cX12_ages 105 = .ok (.iload_n 3, 1) := by decide +kernel
theorem dX12_ages_106 : decode cX12_ages 106 = .ok (.iload 6, 2) := by decide +kernel
theorem dX12_ages_108 : decode cX12_ages 108 = .ok (.iadd, 1) := by decide +kernel
theorem dX12_ages_109 : decode cX12_ages 109 = .ok (.lload 7, 2) := by decide +kernel
theorem dX12_ages_111 : decode cX12_ages 111 = .ok (.lconst 1, 1) := by decide +kernel
theorem dX12_ages_112 : decode cX12_ages 112 = .ok (.lcmp, 1) := by decide +kernel
theorem dX12_ages_113 : decode cX12_ages 113 = .ok (.ifCond .ge 7, 3) := by decide +kernel
theorem dX12_ages_116 : decode cX12_ages 116 = .ok (.iconst 1, 1) := by decide +kernel
theorem dX12_ages_117 : decode cX12_ages 117 = .ok (.goto 20, 3) := by decide +kernel
theorem dX12_ages_120 : decode cX12_ages 120 = .ok (.lload 7, 2) := by decide +kernel
theorem dX12_ages_122 : decode cX12_ages 122 = .ok (.ldc2_w 312, 3) := by decide +kernel
theorem dX12_ages_125 : decode cX12_ages 125 = .ok (.lcmp, 1) := by decide +kernel
theorem dX12_ages_126 : decode cX12_ages 126 = .ok (.ifCond .le 8, 3) := by decide +kernel
theorem dX12_ages_129 : decode cX12_ages 129 = .ok (.bipush 90, 2) := by decide +kernel
theorem dX12_ages_131 : decode cX12_ages 131 = .ok (.goto 6, 3) := by decide +kernel
theorem dX12_ages_134 : decode cX12_ages 134 = .ok (.lload 7, 2) := by decide +kernel
theorem dX12_ages_136 : decode cX12_ages 136 = .ok (.l2i, 1) := by decide +kernel
theorem dX12_ages_137 : decode cX12_ages 137 = .ok (.iastore, 1) := by decide +kernel
theorem dX12_ages_138 : decode cX12_ages 138 = .ok (.iinc 6 1, 3) := by decide +kernel
theorem dX12_ages_141 : decode cX12_ages 141 = .ok (.goto (-63), 3) := by decide +kernel
theorem dX12_ages_144 : decode cX12_ages 144 = .ok (.iload 4, 2) := by decide +kernel
theorem dX12_ages_146 : decode cX12_ages 146 = .ok (.ireturn, 1) := by decide +kernel
theorem dX12_isShelf_0 : decode cX12_isShelf 0 = .ok (.iload_n 0, 1) := by decide +kernel
theorem dX12_isShelf_1 : decode cX12_isShelf 1 = .ok (.iconst 0, 1) := by decide +kernel
theorem dX12_isShelf_2 : decode cX12_isShelf 2 = .ok (.iconst 3, 1) := by decide +kernel
theorem dX12_isShelf_3 : decode cX12_isShelf 3 = .ok (.invokestatic 108, 3) := by decide +kernel
theorem dX12_isShelf_6 : decode cX12_isShelf 6 = .ok (.ireturn, 1) := by decide +kernel
theorem dX12_sheet_0 : decode cX12_sheet 0 = .ok (.iload_n 1, 1) := by decide +kernel
theorem dX12_sheet_1 : decode cX12_sheet 1 = .ok (.invokestatic 306, 3) := by decide +kernel
theorem dX12_sheet_4 : decode cX12_sheet 4 = .ok (.ifCond .eq 22, 3) := by decide +kernel
theorem dX12_sheet_7 : decode cX12_sheet 7 = .ok (.iload_n 2, 1) := by decide +kernel
theorem dX12_sheet_8 : decode cX12_sheet 8 = .ok (.iconst (-1), 1) := by decide +kernel
theorem dX12_sheet_9 : decode cX12_sheet 9 = .ok (.iconst 3, 1) := by decide +kernel
theorem dX12_sheet_10 : decode cX12_sheet 10 = .ok (.invokestatic 108, 3) := by decide +kernel
theorem dX12_sheet_13 : decode cX12_sheet 13 = .ok (.ifCond .eq 13, 3) := by decide +kernel
theorem dX12_sheet_16 : decode cX12_sheet 16 = .ok (.iload_n 2, 1) := by decide +kernel
theorem dX12_sheet_17 : decode cX12_sheet 17 = .ok (.ifCond .lt 11, 3) := by decide +kernel
theorem dX12_sheet_20 : decode cX12_sheet 20 = .ok (.iload_n 3, 1) := by decide +kernel
theorem dX12_sheet_21 : decode cX12_sheet 21 = .ok (.bipush 40, 2) := by decide +kernel
theorem dX12_sheet_23 : decode cX12_sheet 23 = .ok (.if_icmp .le 5, 3) := by decide +kernel
theorem dX12_sheet_26 : decode cX12_sheet 26 = .ok (.iconst (-1), 1) := by decide +kernel
theorem dX12_sheet_27 : decode cX12_sheet 27 = .ok (.ireturn, 1) := by decide +kernel
theorem dX12_sheet_28 : decode cX12_sheet 28 = .ok (.iload_n 2, 1) := by decide +kernel
theorem dX12_sheet_29 : decode cX12_sheet 29 = .ok (.ifCond .lt 10, 3) := by decide +kernel
theorem dX12_sheet_32 : decode cX12_sheet 32 = .ok (.iload_n 3, 1) := by decide +kernel
theorem dX12_sheet_33 : decode cX12_sheet 33 = .ok (.ifCond .ge 6, 3) := by decide +kernel
theorem dX12_sheet_36 : decode cX12_sheet 36 = .ok (.bipush (-14), 2) := by decide +kernel
theorem dX12_sheet_38 : decode cX12_sheet 38 = .ok (.ireturn, 1) := by decide +kernel
theorem dX12_sheet_39 : decode cX12_sheet 39 = .ok (.aload_n 0, 1) := by decide +kernel
theorem dX12_sheet_40 : decode cX12_sheet 40 = .ok (.getfield 77, 3) := by decide +kernel
theorem dX12_sheet_43 : decode cX12_sheet 43 = .ok (.iload_n 1, 1) := by decide +kernel
theorem dX12_sheet_44 : decode cX12_sheet 44 = .ok (.iload_n 2, 1) := by decide +kernel
theorem dX12_sheet_45 : decode cX12_sheet 45 = .ok (.iastore, 1) := by decide +kernel
theorem dX12_sheet_46 : decode cX12_sheet 46 = .ok (.aload_n 0, 1) := by decide +kernel
theorem dX12_sheet_47 : decode cX12_sheet 47 = .ok (.getfield 80, 3) := by decide +kernel
theorem dX12_sheet_50 : decode cX12_sheet 50 = .ok (.iload_n 1, 1) := by decide +kernel
theorem dX12_sheet_51 : decode cX12_sheet 51 = .ok (.iload_n 2, 1) := by decide +kernel
theorem dX12_sheet_52 : decode cX12_sheet 52 = .ok (.ifCond .ge 7, 3) := by decide +kernel
theorem dX12_sheet_55 : decode cX12_sheet 55 = .ok (.iconst 0, 1) := by decide +kernel
theorem dX12_sheet_56 : decode cX12_sheet 56 = .ok (.goto 4, 3) := by decide +kernel
theorem dX12_sheet_59 : decode cX12_sheet 59 = .ok (.iload_n 3, 1) := by decide +kernel
theorem dX12_sheet_60 : decode cX12_sheet 60 = .ok (.iastore, 1) := by decide +kernel
theorem dX12_sheet_61 : decode cX12_sheet 61 = .ok (.iconst 0, 1) := by decide +kernel
theorem dX12_sheet_62 : decode cX12_sheet 62 = .ok (.istore 4, 2) := by decide +kernel
theorem dX12_sheet_64 : decode cX12_sheet 64 = .ok (.iload 4, 2) := by decide +kernel
theorem dX12_sheet_66 : decode cX12_sheet 66 = .ok (.bipush 40, 2) := by decide +kernel
theorem dX12_sheet_68 : decode cX12_sheet 68 = .ok (.if_icmp .ge 22, 3) := by decide +kernel
theorem dX12_sheet_71 : decode cX12_sheet 71 = .ok (.aload_n 0, 1) := by decide +kernel
theorem dX12_sheet_72 : decode cX12_sheet 72 = .ok (.getfield 83, 3) := by decide +kernel
theorem dX12_sheet_75 : decode cX12_sheet 75 = .ok (.bipush 40, 2) := by decide +kernel
theorem dX12_sheet_77 : decode cX12_sheet 77 = .ok (.iload_n 1, 1) := by decide +kernel
theorem dX12_sheet_78 : decode cX12_sheet 78 = .ok (.imul, 1) := by decide +kernel
theorem dX12_sheet_79 : decode cX12_sheet 79 = .ok (.iload 4, 2) := by decide +kernel
theorem dX12_sheet_81 : decode cX12_sheet 81 = .ok (.iadd, 1) := by decide +kernel
theorem dX12_sheet_82 : decode cX12_sheet 82 = .ok (.lconst 0, 1) := by decide +kernel
theorem dX12_sheet_83 : decode cX12_sheet 83 = .ok (.lastore, 1) := by decide +kernel
theorem dX12_sheet_84 : decode cX12_sheet 84 = .ok (.iinc 4 1, 3) := by decide +kernel
theorem dX12_sheet_87 : decode cX12_sheet 87 = .ok (.goto (-23), 3) := by decide +kernel
theorem dX12_sheet_90 : decode cX12_sheet 90 = .ok (.iconst 1, 1) := by decide +kernel
theorem dX12_sheet_91 : decode cX12_sheet 91 = .ok (.ireturn, 1) := by decide +kernel
theorem dX12_put_0 : decode cX12_put 0 = .ok (.iload_n 1, 1) := by decide +kernel
theorem dX12_put_1 : decode cX12_put 1 = .ok (.invokestatic 306, 3) := by decide +kernel
theorem dX12_put_4 : decode cX12_put 4 = .ok (.ifCond .ne 5, 3) := by decide +kernel
theorem dX12_put_7 : decode cX12_put 7 = .ok (.iconst (-1), 1) := by decide +kernel
theorem dX12_put_8 : decode cX12_put 8 = .ok (.ireturn, 1) := by decide +kernel
theorem dX12_put_9 : decode cX12_put 9 = .ok (.aload_n 0, 1) := by decide +kernel
theorem dX12_put_10 : decode cX12_put 10 = .ok (.getfield 77, 3) := by decide +kernel
theorem dX12_put_13 : decode cX12_put 13 = .ok (.iload_n 1, 1) := by decide +kernel
theorem dX12_put_14 : decode cX12_put 14 = .ok (.iaload, 1) := by decide +kernel
theorem dX12_put_15 : decode cX12_put 15 = .ok (.ifCond .ge 6, 3) := by decide +kernel
theorem dX12_put_18 : decode cX12_put 18 = .ok (.bipush (-11), 2) := by decide +kernel
theorem dX12_put_20 : decode cX12_put 20 = .ok (.ireturn, 1) := by decide +kernel
theorem dX12_put_21 : decode cX12_put 21 = .ok (.iload_n 2, 1) := by decide +kernel
theorem dX12_put_22 : decode cX12_put 22 = .ok (.iconst 0, 1) := by decide +kernel
theorem dX12_put_23 : decode cX12_put 23 = .ok (.aload_n 0, 1) := by decide +kernel
theorem dX12_put_24 : decode cX12_put 24 = .ok (.getfield 80, 3) := by decide +kernel
theorem dX12_put_27 : decode cX12_put 27 = .ok (.iload_n 1, 1) := by decide +kernel
theorem dX12_put_28 : decode cX12_put 28 = .ok (.iaload, 1) := by decide +kernel
theorem dX12_put_29 : decode cX12_put 29 = .ok (.iconst 1, 1) := by decide +kernel
theorem dX12_put_30 : decode cX12_put 30 = .ok (.isub, 1) := by decide +kernel
theorem dX12_put_31 : decode cX12_put 31 = .ok (.invokestatic 108, 3) := by decide +kernel
theorem dX12_put_34 : decode cX12_put 34 = .ok (.ifCond .ne 6, 3) := by decide +kernel
theorem dX12_put_37 : decode cX12_put 37 = .ok (.bipush (-12), 2) := by decide +kernel
theorem dX12_put_39 : decode cX12_put 39 = .ok (.ireturn, 1) := by decide +kernel
theorem dX12_put_40 : decode cX12_put 40 = .ok (.aload_n 0, 1) := by decide +kernel
theorem dX12_put_41 : decode cX12_put 41 = .ok (.getfield 83, 3) := by decide +kernel
theorem dX12_put_44 : decode cX12_put 44 = .ok (.bipush 40, 2) := by decide +kernel
theorem dX12_put_46 : decode cX12_put 46 = .ok (.iload_n 1, 1) := by decide +kernel
theorem dX12_put_47 : decode cX12_put 47 = .ok (.imul, 1) := by decide +kernel
theorem dX12_put_48 : decode cX12_put 48 = .ok (.iload_n 2, 1) := by decide +kernel
theorem dX12_put_49 : decode cX12_put 49 = .ok (.iadd, 1) := by decide +kernel
theorem dX12_put_50 : decode cX12_put 50 = .ok (.aload_n 0, 1) := by decide +kernel
theorem dX12_put_51 : decode cX12_put 51 = .ok (.getfield 77, 3) := by decide +kernel
theorem dX12_put_54 : decode cX12_put 54 = .ok (.iload_n 1, 1) := by decide +kernel
theorem dX12_put_55 : decode cX12_put 55 = .ok (.iaload, 1) := by decide +kernel
theorem dX12_put_56 : decode cX12_put 56 = .ok (.ifCond .ne 9, 3) := by decide +kernel
theorem dX12_put_59 : decode cX12_put 59 = .ok (.iload_n 3, 1) := by decide +kernel
theorem dX12_put_60 : decode cX12_put 60 = .ok (.i2b, 1) := by decide +kernel
theorem dX12_put_61 : decode cX12_put 61 = .ok (.i2l, 1) := by decide +kernel
theorem dX12_put_62 : decode cX12_put 62 = .ok (.goto 21, 3) := by decide +kernel
theorem dX12_put_65 : decode cX12_put 65 = .ok (.aload_n 0, 1) := by decide +kernel
theorem dX12_put_66 : decode cX12_put 66 = .ok (.getfield 77, 3) := by decide +kernel
theorem dX12_put_69 : decode cX12_put 69 = .ok (.iload_n 1, 1) := by decide +kernel
theorem dX12_put_70 : decode cX12_put 70 = .ok (.iaload, 1) := by decide +kernel
theorem dX12_put_71 : decode cX12_put 71 = .ok (.iconst 1, 1) := by decide +kernel
theorem dX12_put_72 : decode cX12_put 72 = .ok (.if_icmp .ne 9, 3) := by decide +kernel
theorem dX12_put_75 : decode cX12_put 75 = .ok (.iload_n 3, 1) := by decide +kernel
theorem dX12_put_76 : decode cX12_put 76 = .ok (.i2s, 1) := by decide +kernel
theorem dX12_put_77 : decode cX12_put 77 = .ok (.i2l, 1) := by decide +kernel
theorem dX12_put_78 : decode cX12_put 78 = .ok (.goto 5, 3) := by decide +kernel
theorem dX12_put_81 : decode cX12_put 81 = .ok (.iload_n 3, 1) := by decide +kernel
theorem dX12_put_82 : decode cX12_put 82 = .ok (.i2l, 1) := by decide +kernel
theorem dX12_put_83 : decode cX12_put 83 = .ok (.lastore, 1) := by decide +kernel
theorem dX12_put_84 : decode cX12_put 84 = .ok (.iconst 1, 1) := by decide +kernel
theorem dX12_put_85 : decode cX12_put 85 = .ok (.ireturn, 1) := by decide +kernel
theorem dX12_lacksSort_0 : decode cX12_lacksSort 0 = .ok (.aload_n 0, 1) := by decide +kernel
theorem dX12_lacksSort_1 : decode cX12_lacksSort 1 = .ok (.getfield 77, 3) := by decide +kernel
theorem dX12_lacksSort_4 : decode cX12_lacksSort 4 = .ok (.iload_n 1, 1) := by decide +kernel
theorem dX12_lacksSort_5 : decode cX12_lacksSort 5 = .ok (.iaload, 1) := by decide +kernel
theorem dX12_lacksSort_6 : decode cX12_lacksSort 6 = .ok (.ifCond .ge 8, 3) := by decide +kernel
theorem dX12_lacksSort_9 : decode cX12_lacksSort 9 = .ok (.bipush (-11), 2) := by decide +kernel
theorem dX12_lacksSort_11 : decode cX12_lacksSort 11 = .ok (.goto 19, 3) := by decide +kernel
theorem dX12_lacksSort_14 : decode cX12_lacksSort 14 = .ok (.aload_n 0, 1) := by decide +kernel
theorem dX12_lacksSort_15 : decode cX12_lacksSort 15 = .ok (.getfield 77, 3) := by decide +kernel
theorem dX12_lacksSort_18 : decode cX12_lacksSort 18 = .ok (.iload_n 1, 1) := by decide +kernel
theorem dX12_lacksSort_19 : decode cX12_lacksSort 19 = .ok (.iaload, 1) := by decide +kernel
theorem dX12_lacksSort_20 : decode cX12_lacksSort 20 = .ok (.iload_n 2, 1) := by decide +kernel
theorem dX12_lacksSort_21 : decode cX12_lacksSort 21 = .ok (.if_icmp .eq 8, 3) := by decide +kernel
theorem dX12_lacksSort_24 : decode cX12_lacksSort 24 = .ok (.bipush (-13), 2) := by decide +kernel
theorem dX12_lacksSort_26 : decode cX12_lacksSort 26 = .ok (.goto 4, 3) := by decide +kernel
theorem dX12_lacksSort_29 : decode cX12_lacksSort 29 = .ok (.iconst 0, 1) := by decide +kernel
theorem dX12_lacksSort_30 : decode cX12_lacksSort 30 = .ok (.ireturn, 1) := by decide +kernel
theorem dX12_item_0 : decode cX12_item 0 = .ok (.iload_n 1, 1) := by decide +kernel
theorem dX12_item_1 : decode cX12_item 1 = .ok (.invokestatic 306, 3) := by decide +kernel
theorem dX12_item_4 : decode cX12_item 4 = .ok (.ifCond .eq 12, 3) := by decide +kernel
theorem dX12_item_7 : decode cX12_item 7 = .ok (.iload_n 2, 1) := by decide +kernel
theorem dX12_item_8 : decode cX12_item 8 = .ok (.iconst 0, 1) := by decide +kernel
theorem dX12_item_9 : decode cX12_item 9 = .ok (.iconst 3, 1) := by decide +kernel
theorem dX12_item_10 : decode cX12_item 10 = .ok (.invokestatic 108, 3) := by decide +kernel
theorem dX12_item_13 : decode cX12_item 13 = .ok (.ifCond .ne 5, 3) := by decide +kernel
theorem dX12_item_16 : decode cX12_item 16 = .ok (.iconst (-1), 1) := by decide +kernel
theorem dX12_item_17 : decode cX12_item 17 = .ok (.ireturn, 1) := by decide +kernel
theorem dX12_item_18 : decode cX12_item 18 = .ok (.aload_n 0, 1) := by decide +kernel
theorem dX12_item_19 : decode cX12_item 19 = .ok (.iload_n 1, 1) := by decide +kernel
theorem dX12_item_20 : decode cX12_item 20 = .ok (.iload_n 2, 1) := by decide +kernel
theorem dX12_item_21 : decode cX12_item 21 = .ok (.invokevirtual 309, 3) := by decide +kernel
theorem dX12_item_24 : decode cX12_item 24 = .ok (.istore 4, 2) := by decide +kernel
theorem dX12_item_26 : decode cX12_item 26 = .ok (.iload 4, 2) := by decide +kernel
theorem dX12_item_28 : decode cX12_item 28 = .ok (.ifCond .eq 6, 3) := by decide +kernel
theorem dX12_item_31 : decode cX12_item 31 = .ok (.iload 4, 2) := by decide +kernel
theorem dX12_item_33 : decode cX12_item 33 = .ok (.ireturn, 1) := by decide +kernel
theorem dX12_item_34 : decode cX12_item 34 = .ok (.iload_n 3, 1) := by decide +kernel
theorem dX12_item_35 : decode cX12_item 35 = .ok (.iconst 0, 1) := by decide +kernel
theorem dX12_item_36 : decode cX12_item 36 = .ok (.aload_n 0, 1) := by decide +kernel
theorem dX12_item_37 : decode cX12_item 37 = .ok (.getfield 80, 3) := by decide +kernel
theorem dX12_item_40 : decode cX12_item 40 = .ok (.iload_n 1, 1) := by decide +kernel
theorem dX12_item_41 : decode cX12_item 41 = .ok (.iaload, 1) := by decide +kernel
theorem dX12_item_42 : decode cX12_item 42 = .ok (.iconst 1, 1) := by decide +kernel
theorem dX12_item_43 : decode cX12_item 43 = .ok (.isub, 1) := by decide +kernel
theorem dX12_item_44 : decode cX12_item 44 = .ok (.invokestatic 108, 3) := by decide +kernel
theorem dX12_item_47 : decode cX12_item 47 = .ok (.ifCond .eq 18, 3) := by decide +kernel
theorem dX12_item_50 : decode cX12_item 50 = .ok (.aload_n 0, 1) := by decide +kernel
theorem dX12_item_51 : decode cX12_item 51 = .ok (.getfield 83, 3) := by decide +kernel
theorem dX12_item_54 : decode cX12_item 54 = .ok (.bipush 40, 2) := by decide +kernel
theorem dX12_item_56 : decode cX12_item 56 = .ok (.iload_n 1, 1) := by decide +kernel
theorem dX12_item_57 : decode cX12_item 57 = .ok (.imul, 1) := by decide +kernel
theorem dX12_item_58 : decode cX12_item 58 = .ok (.iload_n 3, 1) := by decide +kernel
theorem dX12_item_59 : decode cX12_item 59 = .ok (.iadd, 1) := by decide +kernel
theorem dX12_item_60 : decode cX12_item 60 = .ok (.laload, 1) := by decide +kernel
theorem dX12_item_61 : decode cX12_item 61 = .ok (.l2i, 1) := by decide +kernel
theorem dX12_item_62 : decode cX12_item 62 = .ok (.goto 5, 3) := by decide +kernel
theorem dX12_item_65 : decode cX12_item 65 = .ok (.bipush (-12), 2) := by decide +kernel
theorem dX12_item_67 : decode cX12_item 67 = .ok (.ireturn, 1) := by decide +kernel
theorem dX12_isHeld_0 : decode cX12_isHeld 0 = .ok (.iload_n 1, 1) := by decide +kernel
theorem dX12_isHeld_1 : decode cX12_isHeld 1 = .ok (.ifCond .ne 11, 3) := by decide +kernel
theorem dX12_isHeld_4 : decode cX12_isHeld 4 = .ok (.aload_n 0, 1) := by decide +kernel
theorem dX12_isHeld_5 : decode cX12_isHeld 5 = .ok (.iload_n 2, 1) := by decide +kernel
theorem dX12_isHeld_6 : decode cX12_isHeld 6 = .ok (.invokevirtual 233, 3) := by decide +kernel
theorem dX12_isHeld_9 : decode cX12_isHeld 9 = .ok (.goto 25, 3) := by decide +kernel
theorem dX12_isHeld_12 : decode cX12_isHeld 12 = .ok (.iload_n 1, 1) := by decide +kernel
theorem dX12_isHeld_13 : decode cX12_isHeld 13 = .ok (.iconst 1, 1) := by decide +kernel
theorem dX12_isHeld_14 : decode cX12_isHeld 14 = .ok (.if_icmp .ne 10, 3) := by decide +kernel
theorem dX12_isHeld_17 : decode cX12_isHeld 17 = .ok (.iload_n 2, 1) := by decide +kernel
theorem dX12_isHeld_18 : decode cX12_isHeld 18 = .ok (.invokestatic 306, 3) := by decide +kernel
theorem dX12_isHeld_21 : decode cX12_isHeld 21 = .ok (.goto 13, 3) := by decide +kernel
theorem dX12_isHeld_24 : decode cX12_isHeld 24 = .ok (.iload_n 1, 1) := by decide +kernel
theorem dX12_isHeld_25 : decode cX12_isHeld 25 = .ok (.iconst 2, 1) := by decide +kernel
theorem dX12_isHeld_26 : decode cX12_isHeld 26 = .ok (.if_icmp .ne 7, 3) := by decide +kernel
theorem dX12_isHeld_29 : decode cX12_isHeld 29 = .ok (.iconst 1, 1) := by decide +kernel
theorem dX12_isHeld_30 : decode cX12_isHeld 30 = .ok (.goto 4, 3) := by decide +kernel
theorem dX12_isHeld_33 : decode cX12_isHeld 33 = .ok (.iconst 0, 1) := by decide +kernel
theorem dX12_isHeld_34 : decode cX12_isHeld 34 = .ok (.ireturn, 1) := by decide +kernel
theorem dX12_shelf_0 : decode cX12_shelf 0 = .ok (.iload_n 1, 1) := by decide +kernel
theorem dX12_shelf_1 : decode cX12_shelf 1 = .ok (.invokestatic 306, 3) := by decide +kernel
theorem dX12_shelf_4 : decode cX12_shelf 4 = .ok (.ifCond .eq 12, 3) := by decide +kernel
theorem dX12_shelf_7 : decode cX12_shelf 7 = .ok (.aload_n 0, 1) := by decide +kernel
theorem dX12_shelf_8 : decode cX12_shelf 8 = .ok (.iload_n 2, 1) := by decide +kernel
theorem dX12_shelf_9 : decode cX12_shelf 9 = .ok (.iload_n 3, 1) := by decide +kernel
theorem dX12_shelf_10 : decode cX12_shelf 10 = .ok (.invokevirtual 314, 3) := by decide +kernel
theorem dX12_shelf_13 : decode cX12_shelf 13 = .ok (.ifCond .ne 5, 3) := by decide +kernel
theorem dX12_shelf_16 : decode cX12_shelf 16 = .ok (.iconst (-1), 1) := by decide +kernel
theorem dX12_shelf_17 : decode cX12_shelf 17 = .ok (.ireturn, 1) := by decide +kernel
theorem dX12_shelf_18 : decode cX12_shelf 18 = .ok (.aload_n 0, 1) := by decide +kernel
theorem dX12_shelf_19 : decode cX12_shelf 19 = .ok (.getfield 87, 3) := by decide +kernel
theorem dX12_shelf_22 : decode cX12_shelf 22 = .ok (.iload_n 1, 1) := by decide +kernel
theorem dX12_shelf_23 : decode cX12_shelf 23 = .ok (.iload_n 2, 1) := by decide +kernel
theorem dX12_shelf_24 : decode cX12_shelf 24 = .ok (.iconst 2, 1) := by decide +kernel
theorem dX12_shelf_25 : decode cX12_shelf 25 = .ok (.if_icmp .eq 17, 3) := by decide +kernel
theorem dX12_shelf_28 : decode cX12_shelf 28 = .ok (.iload_n 2, 1) := by decide +kernel
theorem dX12_shelf_29 : decode cX12_shelf 29 = .ok (.iconst 1, 1) := by decide +kernel
theorem dX12_shelf_30 : decode cX12_shelf 30 = .ok (.if_icmp .ne 16, 3) := by decide +kernel
theorem dX12_shelf_33 : decode cX12_shelf 33 = .ok (.aload_n 0, 1) := by decide +kernel
theorem dX12_shelf_34 : decode cX12_shelf 34 = .ok (.getfield 77, 3) := by decide +kernel
theorem dX12_shelf_37 : decode cX12_shelf 37 = .ok (.iload_n 3, 1) := by decide +kernel
theorem dX12_shelf_38 : decode cX12_shelf 38 = .ok (.iaload, 1) := by decide +kernel
theorem dX12_shelf_39 : decode cX12_shelf 39 = .ok (.ifCond .ge 7, 3) := by decide +kernel
theorem dX12_shelf_42 : decode cX12_shelf 42 = .ok (.iconst (-1), 1) := by decide +kernel
theorem dX12_shelf_43 : decode cX12_shelf 43 = .ok (.goto 4, 3) := by decide +kernel
theorem dX12_shelf_46 : decode cX12_shelf 46 = .ok (.iload_n 2, 1) := by decide +kernel
theorem dX12_shelf_47 : decode cX12_shelf 47 = .ok (.iastore, 1) := by decide +kernel
theorem dX12_shelf_48 : decode cX12_shelf 48 = .ok (.aload_n 0, 1) := by decide +kernel
theorem dX12_shelf_49 : decode cX12_shelf 49 = .ok (.getfield 90, 3) := by decide +kernel
theorem dX12_shelf_52 : decode cX12_shelf 52 = .ok (.iload_n 1, 1) := by decide +kernel
theorem dX12_shelf_53 : decode cX12_shelf 53 = .ok (.iload_n 2, 1) := by decide +kernel
theorem dX12_shelf_54 : decode cX12_shelf 54 = .ok (.iconst 1, 1) := by decide +kernel
theorem dX12_shelf_55 : decode cX12_shelf 55 = .ok (.if_icmp .ne 12, 3) := by decide +kernel
theorem dX12_shelf_58 : decode cX12_shelf 58 = .ok (.aload_n 0, 1) := by decide +kernel
theorem dX12_shelf_59 : decode cX12_shelf 59 = .ok (.getfield 77, 3) := by decide +kernel
theorem dX12_shelf_62 : decode cX12_shelf 62 = .ok (.iload_n 3, 1) := by decide +kernel
theorem dX12_shelf_63 : decode cX12_shelf 63 = .ok (.iaload, 1) := by decide +kernel
theorem dX12_shelf_64 : decode cX12_shelf 64 = .ok (.goto 4, 3) := by decide +kernel
theorem dX12_shelf_67 : decode cX12_shelf 67 = .ok (.iload_n 3, 1) := by decide +kernel
theorem dX12_shelf_68 : decode cX12_shelf 68 = .ok (.iastore, 1) := by decide +kernel
theorem dX12_shelf_69 : decode cX12_shelf 69 = .ok (.aload_n 0, 1) := by decide +kernel
theorem dX12_shelf_70 : decode cX12_shelf 70 = .ok (.getfield 93, 3) := by decide +kernel
theorem dX12_shelf_73 : decode cX12_shelf 73 = .ok (.iload_n 1, 1) := by decide +kernel
theorem dX12_shelf_74 : decode cX12_shelf 74 = .ok (.iload_n 2, 1) := by decide +kernel
theorem dX12_shelf_75 : decode cX12_shelf 75 = .ok (.iconst 1, 1) := by decide +kernel
theorem dX12_shelf_76 : decode cX12_shelf 76 = .ok (.if_icmp .ne 12, 3) := by decide +kernel
theorem dX12_shelf_79 : decode cX12_shelf 79 = .ok (.aload_n 0, 1) := by decide +kernel
theorem dX12_shelf_80 : decode cX12_shelf 80 = .ok (.getfield 80, 3) := by decide +kernel
theorem dX12_shelf_83 : decode cX12_shelf 83 = .ok (.iload_n 3, 1) := by decide +kernel
theorem dX12_shelf_84 : decode cX12_shelf 84 = .ok (.iaload, 1) := by decide +kernel
theorem dX12_shelf_85 : decode cX12_shelf 85 = .ok (.goto 4, 3) := by decide +kernel
theorem dX12_shelf_88 : decode cX12_shelf 88 = .ok (.iconst 0, 1) := by decide +kernel
theorem dX12_shelf_89 : decode cX12_shelf 89 = .ok (.iastore, 1) := by decide +kernel
theorem dX12_shelf_90 : decode cX12_shelf 90 = .ok (.iconst 1, 1) := by decide +kernel
theorem dX12_shelf_91 : decode cX12_shelf 91 = .ok (.ireturn, 1) := by decide +kernel
theorem dX12_kindOn_0 : decode cX12_kindOn 0 = .ok (.aload_n 0, 1) := by decide +kernel
theorem dX12_kindOn_1 : decode cX12_kindOn 1 = .ok (.getfield 87, 3) := by decide +kernel
theorem dX12_kindOn_4 : decode cX12_kindOn 4 = .ok (.iload_n 1, 1) := by decide +kernel
theorem dX12_kindOn_5 : decode cX12_kindOn 5 = .ok (.iaload, 1) := by decide +kernel
theorem dX12_kindOn_6 : decode cX12_kindOn 6 = .ok (.ifCond .eq 19, 3) := by decide +kernel
theorem dX12_kindOn_9 : decode cX12_kindOn 9 = .ok (.aload_n 0, 1) := by decide +kernel
theorem dX12_kindOn_10 : decode cX12_kindOn 10 = .ok (.getfield 87, 3) := by decide +kernel
theorem dX12_kindOn_13 : decode cX12_kindOn 13 = .ok (.iload_n 1, 1) := by decide +kernel
theorem dX12_kindOn_14 : decode cX12_kindOn 14 = .ok (.iaload, 1) := by decide +kernel
theorem dX12_kindOn_15 : decode cX12_kindOn 15 = .ok (.ifCond .ge 7, 3) := by decide +kernel
theorem dX12_kindOn_18 : decode cX12_kindOn 18 = .ok (.iconst (-1), 1) := by decide +kernel
theorem dX12_kindOn_19 : decode cX12_kindOn 19 = .ok (.goto 5, 3) := by decide +kernel
theorem dX12_kindOn_22 : decode cX12_kindOn 22 = .ok (.bipush 9, 2) := by decide +kernel
theorem dX12_kindOn_24 : decode cX12_kindOn 24 = .ok (.ireturn, 1) := by decide +kernel
theorem dX12_kindOn_25 : decode cX12_kindOn 25 = .ok (.aload_n 0, 1) := by decide +kernel
theorem dX12_kindOn_26 : decode cX12_kindOn 26 = .ok (.aload_n 0, 1) := by decide +kernel
theorem dX12_kindOn_27 : decode cX12_kindOn 27 = .ok (.getfield 90, 3) := by decide +kernel
theorem dX12_kindOn_30 : decode cX12_kindOn 30 = .ok (.iload_n 1, 1) := by decide +kernel
theorem dX12_kindOn_31 : decode cX12_kindOn 31 = .ok (.iaload, 1) := by decide +kernel
theorem dX12_kindOn_32 : decode cX12_kindOn 32 = .ok (.invokevirtual 233, 3) := by decide +kernel
theorem dX12_kindOn_35 : decode cX12_kindOn 35 = .ok (.ifCond .eq 17, 3) := by decide +kernel
theorem dX12_kindOn_38 : decode cX12_kindOn 38 = .ok (.aload_n 0, 1) := by decide +kernel
theorem dX12_kindOn_39 : decode cX12_kindOn 39 = .ok (.getfield 7, 3) := by decide +kernel
theorem dX12_kindOn_42 : decode cX12_kindOn 42 = .ok (.aload_n 0, 1) := by decide +kernel
theorem dX12_kindOn_43 : decode cX12_kindOn 43 = .ok (.getfield 90, 3) := by decide +kernel
theorem dX12_kindOn_46 : decode cX12_kindOn 46 = .ok (.iload_n 1, 1) := by decide +kernel
theorem dX12_kindOn_47 : decode cX12_kindOn 47 = .ok (.iaload, 1) := by decide +kernel
theorem dX12_kindOn_48 : decode cX12_kindOn 48 = .ok (.iaload, 1) := by decide +kernel
theorem dX12_kindOn_49 : decode cX12_kindOn 49 = .ok (.goto 4, 3) := by decide +kernel
theorem dX12_kindOn_52 : decode cX12_kindOn 52 = .ok (.iconst (-1), 1) := by decide +kernel
theorem dX12_kindOn_53 : decode cX12_kindOn 53 = .ok (.ireturn, 1) := by decide +kernel
theorem dX12_isUnder_0 : decode cX12_isUnder 0 = .ok (.iload_n 1, 1) := by decide +kernel
theorem dX12_isUnder_1 : decode cX12_isUnder 1 = .ok (.ifCond .eq 28, 3) := by decide +kernel
theorem dX12_isUnder_4 : decode cX12_isUnder 4 = .ok (.iload_n 1, 1) := by decide +kernel
theorem dX12_isUnder_5 : decode cX12_isUnder 5 = .ok (.iload_n 0, 1) := by decide +kernel
theorem dX12_isUnder_6 : decode cX12_isUnder 6 = .ok (.if_icmp .eq 23, 3) := by decide +kernel
theorem dX12_isUnder_9 : decode cX12_isUnder 9 = .ok (.iload_n 1, 1) := by decide +kernel
theorem dX12_isUnder_10 : decode cX12_isUnder 10 = .ok (.iconst 1, 1) := by decide +kernel
theorem dX12_isUnder_11 : decode cX12_isUnder 11 = .ok (.if_icmp .ne 8, 3) := by decide +kernel
theorem dX12_isUnder_14 : decode cX12_isUnder 14 = .ok (.iload_n 0, 1) := by decide +kernel
theorem dX12_isUnder_15 : decode cX12_isUnder 15 = .ok (.iconst 3, 1) := by decide +kernel
theorem dX12_isUnder_16 : decode cX12_isUnder 16 = .ok (.if_icmp .eq 13, 3) := by decide +kernel
theorem dX12_isUnder_19 : decode cX12_isUnder 19 = .ok (.iload_n 1, 1) := by decide +kernel
theorem dX12_isUnder_20 : decode cX12_isUnder 20 = .ok (.iconst 2, 1) := by decide +kernel
theorem dX12_isUnder_21 : decode cX12_isUnder 21 = .ok (.if_icmp .ne 12, 3) := by decide +kernel
theorem dX12_isUnder_24 : decode cX12_isUnder 24 = .ok (.iload_n 0, 1) := by decide +kernel
theorem dX12_isUnder_25 : decode cX12_isUnder 25 = .ok (.iconst 4, 1) := by decide +kernel
theorem dX12_isUnder_26 : decode cX12_isUnder 26 = .ok (.if_icmp .ne 7, 3) := by decide +kernel
theorem dX12_isUnder_29 : decode cX12_isUnder 29 = .ok (.iconst 1, 1) := by decide +kernel
theorem dX12_isUnder_30 : decode cX12_isUnder 30 = .ok (.goto 4, 3) := by decide +kernel
theorem dX12_isUnder_33 : decode cX12_isUnder 33 = .ok (.iconst 0, 1) := by decide +kernel
theorem dX12_isUnder_34 : decode cX12_isUnder 34 = .ok (.ireturn, 1) := by decide +kernel
theorem dX12_taken_0 : decode cX12_taken 0 = .ok (.iload_n 1, 1) := by decide +kernel
theorem dX12_taken_1 : decode cX12_taken 1 = .ok (.invokestatic 306, 3) := by decide +kernel
theorem dX12_taken_4 : decode cX12_taken 4 = .ok (.ifCond .eq 23, 3) := by decide +kernel
theorem dX12_taken_7 : decode cX12_taken 7 = .ok (.iload_n 2, 1) := by decide +kernel
theorem dX12_taken_8 : decode cX12_taken 8 = .ok (.iconst 0, 1) := by decide +kernel
theorem dX12_taken_9 : decode cX12_taken 9 = .ok (.iconst 5, 1) := by decide +kernel
theorem dX12_taken_10 : decode cX12_taken 10 = .ok (.invokestatic 108, 3) := by decide +kernel
theorem dX12_taken_13 : decode cX12_taken 13 = .ok (.ifCond .ne 16, 3) := by decide +kernel
theorem dX12_taken_16 : decode cX12_taken 16 = .ok (.iload_n 2, 1) := by decide +kernel
theorem dX12_taken_17 : decode cX12_taken 17 = .ok (.bipush 10, 2) := by decide +kernel
theorem dX12_taken_19 : decode cX12_taken 19 = .ok (.bipush 13, 2) := by decide +kernel
theorem dX12_taken_21 : decode cX12_taken 21 = .ok (.invokestatic 108, 3) := by decide +kernel
theorem dX12_taken_24 : decode cX12_taken 24 = .ok (.ifCond .ne 5, 3) := by decide +kernel
theorem dX12_taken_27 : decode cX12_taken 27 = .ok (.iconst (-1), 1) := by decide +kernel
theorem dX12_taken_28 : decode cX12_taken 28 = .ok (.ireturn, 1) := by decide +kernel
theorem dX12_taken_29 : decode cX12_taken 29 = .ok (.aload_n 0, 1) := by decide +kernel
theorem dX12_taken_30 : decode cX12_taken 30 = .ok (.iload_n 1, 1) := by decide +kernel
theorem dX12_taken_31 : decode cX12_taken 31 = .ok (.invokevirtual 317, 3) := by decide +kernel
theorem dX12_taken_34 : decode cX12_taken 34 = .ok (.istore_n 3, 1) := by decide +kernel
theorem dX12_taken_35 : decode cX12_taken 35 = .ok (.iload_n 3, 1) := by decide +kernel
theorem dX12_taken_36 : decode cX12_taken 36 = .ok (.ifCond .ge 6, 3) := by decide +kernel
theorem dX12_taken_39 : decode cX12_taken 39 = .ok (.bipush (-11), 2) := by decide +kernel
theorem dX12_taken_41 : decode cX12_taken 41 = .ok (.ireturn, 1) := by decide +kernel
theorem dX12_taken_42 : decode cX12_taken 42 = .ok (.iload_n 3, 1) := by decide +kernel
theorem dX12_taken_43 : decode cX12_taken 43 = .ok (.bipush 9, 2) := by decide +kernel
theorem dX12_taken_45 : decode cX12_taken 45 = .ok (.if_icmp .ne 28, 3) := by decide +kernel
theorem dX12_taken_48 : decode cX12_taken 48 = .ok (.iload_n 2, 1) := by decide +kernel
theorem dX12_taken_49 : decode cX12_taken 49 = .ok (.bipush 10, 2) := by decide +kernel
theorem dX12_taken_51 : decode cX12_taken 51 = .ok (.aload_n 0, 1) := by decide +kernel
theorem dX12_taken_52 : decode cX12_taken 52 = .ok (.getfield 90, 3) := by decide +kernel
theorem dX12_taken_55 : decode cX12_taken 55 = .ok (.iload_n 1, 1) := by decide +kernel
theorem dX12_taken_56 : decode cX12_taken 56 = .ok (.iaload, 1) := by decide +kernel
theorem dX12_taken_57 : decode cX12_taken 57 = .ok (.iadd, 1) := by decide +kernel
theorem dX12_taken_58 : decode cX12_taken 58 = .ok (.if_icmp .ne 12, 3) := by decide +kernel
theorem dX12_taken_61 : decode cX12_taken 61 = .ok (.aload_n 0, 1) := by decide +kernel
theorem dX12_taken_62 : decode cX12_taken 62 = .ok (.getfield 93, 3) := by decide +kernel
theorem dX12_taken_65 : decode cX12_taken 65 = .ok (.iload_n 1, 1) := by decide +kernel
theorem dX12_taken_66 : decode cX12_taken 66 = .ok (.iaload, 1) := by decide +kernel
theorem dX12_taken_67 : decode cX12_taken 67 = .ok (.goto 5, 3) := by decide +kernel
theorem dX12_taken_70 : decode cX12_taken 70 = .ok (.bipush (-13), 2) := by decide +kernel
theorem dX12_taken_72 : decode cX12_taken 72 = .ok (.ireturn, 1) := by decide +kernel
theorem dX12_taken_73 : decode cX12_taken 73 = .ok (.iload_n 2, 1) := by decide +kernel
theorem dX12_taken_74 : decode cX12_taken 74 = .ok (.bipush 10, 2) := by decide +kernel
theorem dX12_taken_76 : decode cX12_taken 76 = .ok (.if_icmp .ge 20, 3) := by decide +kernel
theorem dX12_taken_79 : decode cX12_taken 79 = .ok (.iload_n 3, 1) := by decide +kernel
theorem dX12_taken_80 : decode cX12_taken 80 = .ok (.iload_n 2, 1) := by decide +kernel
theorem dX12_taken_81 : decode cX12_taken 81 = .ok (.invokestatic 320, 3) := by decide +kernel
theorem dX12_taken_84 : decode cX12_taken 84 = .ok (.ifCond .eq 12, 3) := by decide +kernel
theorem dX12_taken_87 : decode cX12_taken 87 = .ok (.aload_n 0, 1) := by decide +kernel
theorem dX12_taken_88 : decode cX12_taken 88 = .ok (.getfield 90, 3) := by decide +kernel
theorem dX12_taken_91 : decode cX12_taken 91 = .ok (.iload_n 1, 1) := by decide +kernel
theorem dX12_taken_92 : decode cX12_taken 92 = .ok (.iaload, 1) := by decide +kernel
theorem dX12_taken_93 : decode cX12_taken 93 = .ok (.goto 5, 3) := by decide +kernel
theorem dX12_taken_96 : decode cX12_taken 96 = .ok (.bipush (-13), 2) := by decide +kernel
theorem dX12_taken_98 : decode cX12_taken 98 = .ok (.ireturn, 1) := by decide +kernel
theorem dX12_ran_0 : decode cX12_ran 0 = .ok (.aload_n 0, 1) := by decide +kernel
theorem dX12_ran_1 : decode cX12_ran 1 = .ok (.getfield 323, 3) := by decide +kernel
theorem dX12_ran_4 : decode cX12_ran 4 = .ok (.bipush 30, 2) := by decide +kernel
theorem dX12_ran_6 : decode cX12_ran 6 = .ok (.if_icmp .ge 23, 3) := by decide +kernel
theorem dX12_ran_9 : decode cX12_ran 9 = .ok (.aload_n 0, 1) := by decide +kernel
theorem dX12_ran_10 : decode cX12_ran 10 = .ok (.getfield 96, 3) := by decide +kernel
theorem dX12_ran_13 : decode cX12_ran 13 = .ok (.aload_n 0, 1) := by decide +kernel
theorem dX12_ran_14 : decode cX12_ran 14 = .ok (.getfield 323, 3) := by decide +kernel
theorem dX12_ran_17 : decode cX12_ran 17 = .ok (.iload_n 1, 1) := by decide +kernel
theorem dX12_ran_18 : decode cX12_ran 18 = .ok (.iastore, 1) := by decide +kernel
theorem dX12_ran_19 : decode cX12_ran 19 = .ok (.aload_n 0, 1) := by decide +kernel
theorem dX12_ran_20 : decode cX12_ran 20 = .ok (.dup, 1) := by decide +kernel
theorem dX12_ran_21 : decode cX12_ran 21 = .ok (.getfield 323, 3) := by decide +kernel
theorem dX12_ran_24 : decode cX12_ran 24 = .ok (.iconst 1, 1) := by decide +kernel
theorem dX12_ran_25 : decode cX12_ran 25 = .ok (.iadd, 1) := by decide +kernel
theorem dX12_ran_26 : decode cX12_ran 26 = .ok (.putfield 323, 3) := by decide +kernel
theorem dX12_ran_29 : decode cX12_ran 29 = .ok (.return_, 1) := by decide +kernel
theorem dX12_plainSings_0 : decode cX12_plainSings 0 = .ok (.aload_n 0, 1) := by decide +kernel
theorem dX12_plainSings_1 : decode cX12_plainSings 1 = .ok (.bipush 10, 2) := by decide +kernel
theorem dX12_plainSings_3 : decode cX12_plainSings 3 = .ok (.invokevirtual 326, 3) := by decide +kernel
theorem dX12_plainSings_6 : decode cX12_plainSings 6 = .ok (.iload_n 1, 1) := by decide +kernel
theorem dX12_plainSings_7 : decode cX12_plainSings 7 = .ok (.aload_n 0, 1) := by decide +kernel
theorem dX12_plainSings_8 : decode cX12_plainSings 8 = .ok (.getfield 329, 3) := by decide +kernel
theorem dX12_plainSings_11 : decode cX12_plainSings 11 = .ok (.iadd, 1) := by decide +kernel
theorem dX12_plainSings_12 : decode cX12_plainSings 12 = .ok (.ireturn, 1) := by decide +kernel
theorem dX12_oldSings_0 : decode cX12_oldSings 0 = .ok (.aload_n 0, 1) := by decide +kernel
theorem dX12_oldSings_1 : decode cX12_oldSings 1 = .ok (.bipush 30, 2) := by decide +kernel
theorem dX12_oldSings_3 : decode cX12_oldSings 3 = .ok (.invokevirtual 326, 3) := by decide +kernel
theorem dX12_oldSings_6 : decode cX12_oldSings 6 = .ok (.aload_n 0, 1) := by decide +kernel
theorem dX12_oldSings_7 : decode cX12_oldSings 7 = .ok (.iload_n 1, 1) := by decide +kernel
theorem dX12_oldSings_8 : decode cX12_oldSings 8 = .ok (.invokevirtual 332, 3) := by decide +kernel
theorem dX12_oldSings_11 : decode cX12_oldSings 11 = .ok (.iconst 3, 1) := by decide +kernel
theorem dX12_oldSings_12 : decode cX12_oldSings 12 = .ok (.imul, 1) := by decide +kernel
theorem dX12_oldSings_13 : decode cX12_oldSings 13 = .ok (.ireturn, 1) := by decide +kernel
theorem dX12_singsIt_0 : decode cX12_singsIt 0 = .ok (.aload_n 0, 1) := by decide +kernel
theorem dX12_singsIt_1 : decode cX12_singsIt 1 = .ok (.getfield 335, 3) := by decide +kernel
theorem dX12_singsIt_4 : decode cX12_singsIt 4 = .ok (.tableswitch 65 2 4 #[28, 48, 34], 28) := by decide +kernel
theorem dX12_singsIt_32 : decode cX12_singsIt 32 = .ok (.aload_n 0, 1) := by decide +kernel
theorem dX12_singsIt_33 : decode cX12_singsIt 33 = .ok (.iload_n 1, 1) := by decide +kernel
theorem dX12_singsIt_34 : decode cX12_singsIt 34 = .ok (.invokevirtual 338, 3) := by decide +kernel
theorem dX12_singsIt_37 : decode cX12_singsIt 37 = .ok (.ireturn, 1) := by decide +kernel
theorem dX12_singsIt_38 : decode cX12_singsIt 38 = .ok (.aload_n 0, 1) := by decide +kernel
theorem dX12_singsIt_39 : decode cX12_singsIt 39 = .ok (.bipush 40, 2) := by decide +kernel
theorem dX12_singsIt_41 : decode cX12_singsIt 41 = .ok (.invokevirtual 326, 3) := by decide +kernel
theorem dX12_singsIt_44 : decode cX12_singsIt 44 = .ok (.iconst 0, 1) := by decide +kernel
theorem dX12_singsIt_45 : decode cX12_singsIt 45 = .ok (.aload_n 0, 1) := by decide +kernel
theorem dX12_singsIt_46 : decode cX12_singsIt 46 = .ok (.iload_n 1, 1) := by decide +kernel
theorem dX12_singsIt_47 : decode cX12_singsIt 47 = .ok (.invokevirtual 338, 3) := by decide +kernel
theorem dX12_singsIt_50 : decode cX12_singsIt 50 = .ok (.isub, 1) := by decide +kernel
theorem dX12_singsIt_51 : decode cX12_singsIt 51 = .ok (.ireturn, 1) := by decide +kernel
theorem dX12_singsIt_52 : decode cX12_singsIt 52 = .ok (.aload_n 0, 1) := by decide +kernel
theorem dX12_singsIt_53 : decode cX12_singsIt 53 = .ok (.bipush 51, 2) := by decide +kernel
theorem dX12_singsIt_55 : decode cX12_singsIt 55 = .ok (.invokevirtual 326, 3) := by decide +kernel
theorem dX12_singsIt_58 : decode cX12_singsIt 58 = .ok (.aload_n 0, 1) := by decide +kernel
theorem dX12_singsIt_59 : decode cX12_singsIt 59 = .ok (.iload_n 1, 1) := by decide +kernel
theorem dX12_singsIt_60 : decode cX12_singsIt 60 = .ok (.invokevirtual 332, 3) := by decide +kernel
theorem dX12_singsIt_63 : decode cX12_singsIt 63 = .ok (.aload_n 0, 1) := by decide +kernel
theorem dX12_singsIt_64 : decode cX12_singsIt 64 = .ok (.getfield 329, 3) := by decide +kernel
theorem dX12_singsIt_67 : decode cX12_singsIt 67 = .ok (.isub, 1) := by decide +kernel
theorem dX12_singsIt_68 : decode cX12_singsIt 68 = .ok (.ireturn, 1) := by decide +kernel
theorem dX12_singsIt_69 : decode cX12_singsIt 69 = .ok (.aload_n 0, 1) := by decide +kernel
theorem dX12_singsIt_70 : decode cX12_singsIt 70 = .ok (.iload_n 1, 1) := by decide +kernel
theorem dX12_singsIt_71 : decode cX12_singsIt 71 = .ok (.invokevirtual 332, 3) := by decide +kernel
theorem dX12_singsIt_74 : decode cX12_singsIt 74 = .ok (.ireturn, 1) := by decide +kernel
theorem dX12_plainNeeds_0 : decode cX12_plainNeeds 0 = .ok (.aload_n 0, 1) := by decide +kernel
